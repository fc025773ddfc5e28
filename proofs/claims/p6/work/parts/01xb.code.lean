theorem dX1_isAhead_0 : decode cX1_isAhead 0 = .ok (.aload_n 0, 1) := by decide +kernel
theorem dX1_isAhead_1 : decode cX1_isAhead 1 = .ok (.iload_n 1, 1) := by decide +kernel
theorem dX1_isAhead_2 : decode cX1_isAhead 2 = .ok (.iload_n 3, 1) := by decide +kernel
theorem dX1_isAhead_3 : decode cX1_isAhead 3 = .ok (.invokevirtual 148, 3) := by decide +kernel
theorem dX1_isAhead_6 : decode cX1_isAhead 6 = .ok (.aload_n 0, 1) := by decide +kernel
theorem dX1_isAhead_7 : decode cX1_isAhead 7 = .ok (.iload_n 2, 1) := by decide +kernel
theorem dX1_isAhead_8 : decode cX1_isAhead 8 = .ok (.iload_n 3, 1) := by decide +kernel
theorem dX1_isAhead_9 : decode cX1_isAhead 9 = .ok (.invokevirtual 148, 3) := by decide +kernel
theorem dX1_isAhead_12 : decode cX1_isAhead 12 = .ok (.invokestatic 158, 3) := by decide +kernel
theorem dX1_isAhead_15 : decode cX1_isAhead 15 = .ok (.istore 4, 2) := by decide +kernel
theorem dX1_isAhead_17 : decode cX1_isAhead 17 = .ok (.iload 4, 2) := by decide +kernel
theorem dX1_isAhead_19 : decode cX1_isAhead 19 = .ok (.ifCond .lt 23, 3) := by decide +kernel
theorem dX1_isAhead_22 : decode cX1_isAhead 22 = .ok (.iload 4, 2) := by decide +kernel
theorem dX1_isAhead_24 : decode cX1_isAhead 24 = .ok (.ifCond .ne 22, 3) := by decide +kernel
theorem dX1_isAhead_27 : decode cX1_isAhead 27 = .ok (.aload_n 0, 1) := by decide +kernel
theorem dX1_isAhead_28 : decode cX1_isAhead 28 = .ok (.iload_n 1, 1) := by decide +kernel
theorem dX1_isAhead_29 : decode cX1_isAhead 29 = .ok (.iload_n 3, 1) := by decide +kernel
theorem dX1_isAhead_30 : decode cX1_isAhead 30 = .ok (.invokevirtual 151, 3) := by decide +kernel
theorem dX1_isAhead_33 : decode cX1_isAhead 33 = .ok (.aload_n 0, 1) := by decide +kernel
theorem dX1_isAhead_34 : decode cX1_isAhead 34 = .ok (.iload_n 2, 1) := by decide +kernel
theorem dX1_isAhead_35 : decode cX1_isAhead 35 = .ok (.iload_n 3, 1) := by decide +kernel
theorem dX1_isAhead_36 : decode cX1_isAhead 36 = .ok (.invokevirtual 151, 3) := by decide +kernel
theorem dX1_isAhead_39 : decode cX1_isAhead 39 = .ok (.if_icmp .le 7, 3) := by decide +kernel
theorem dX1_isAhead_42 : decode cX1_isAhead 42 = .ok (.iconst 1, 1) := by decide +kernel
theorem dX1_isAhead_43 : decode cX1_isAhead 43 = .ok (.goto 4, 3) := by decide +kernel
theorem dX1_isAhead_46 : decode cX1_isAhead 46 = .ok (.iconst 0, 1) := by decide +kernel
theorem dX1_isAhead_47 : decode cX1_isAhead 47 = .ok (.ireturn, 1) := by decide +kernel
theorem dX1_sworn_0 : decode cX1_sworn 0 = .ok (.iconst 0, 1) := by decide +kernel
theorem dX1_sworn_1 : decode cX1_sworn 1 = .ok (.istore_n 1, 1) := by decide +kernel
theorem dX1_sworn_2 : decode cX1_sworn 2 = .ok (.iconst 0, 1) := by decide +kernel
theorem dX1_sworn_3 : decode cX1_sworn 3 = .ok (.istore_n 2, 1) := by decide +kernel
theorem dX1_sworn_4 : decode cX1_sworn 4 = .ok (.iload_n 2, 1) := by decide +kernel
theorem dX1_sworn_5 : decode cX1_sworn 5 = .ok (.aload_n 0, 1) := by decide +kernel
theorem dX1_sworn_6 : decode cX1_sworn 6 = .ok (.getfield 12, 3) := by decide +kernel
theorem dX1_sworn_9 : decode cX1_sworn 9 = .ok (.getfield 43, 3) := by decide +kernel
theorem dX1_sworn_12 : decode cX1_sworn 12 = .ok (.invokevirtual 47, 3) := by decide +kernel
theorem dX1_sworn_15 : decode cX1_sworn 15 = .ok (.if_icmp .ge 23, 3) := by decide +kernel
theorem dX1_sworn_18 : decode cX1_sworn 18 = .ok (.aload_n 0, 1) := by decide +kernel
theorem dX1_sworn_19 : decode cX1_sworn 19 = .ok (.iload_n 2, 1) := by decide +kernel
theorem dX1_sworn_20 : decode cX1_sworn 20 = .ok (.invokevirtual 56, 3) := by decide +kernel
theorem dX1_sworn_23 : decode cX1_sworn 23 = .ok (.getfield 107, 3) := by decide +kernel
theorem dX1_sworn_26 : decode cX1_sworn 26 = .ok (.ifCond .eq 6, 3) := by decide +kernel
theorem dX1_sworn_29 : decode cX1_sworn 29 = .ok (.iinc 1 1, 3) := by decide +kernel
theorem dX1_sworn_32 : decode cX1_sworn 32 = .ok (.iinc 2 1, 3) := by decide +kernel
theorem dX1_sworn_35 : decode cX1_sworn 35 = .ok (.goto (-31), 3) := by decide +kernel
theorem dX1_sworn_38 : decode cX1_sworn 38 = .ok (.iload_n 1, 1) := by decide +kernel
theorem dX1_sworn_39 : decode cX1_sworn 39 = .ok (.ireturn, 1) := by decide +kernel
theorem dX2_init_0 : decode cX2_init 0 = .ok (.aload_n 0, 1) := by decide +kernel
theorem dX2_init_1 : decode cX2_init 1 = .ok (.invokespecial 1, 3) := by decide +kernel
theorem dX2_init_4 : decode cX2_init 4 = .ok (.aload_n 0, 1) := by decide +kernel
theorem dX2_init_5 : decode cX2_init 5 = .ok (.lconst 0, 1) := by decide +kernel
theorem dX2_init_6 : decode cX2_init 6 = .ok (.putfield 7, 3) := by decide +kernel
theorem dX2_init_9 : decode cX2_init 9 = .ok (.aload_n 0, 1) := by decide +kernel
theorem dX2_init_10 : decode cX2_init 10 = .ok (.lconst 1, 1) := by decide +kernel
theorem dX2_init_11 : decode cX2_init 11 = .ok (.putfield 13, 3) := by decide +kernel
theorem dX2_init_14 : decode cX2_init 14 = .ok (.return_, 1) := by decide +kernel
theorem dX2_become_0 : decode cX2_become 0 = .ok (.lload_n 1, 1) := by decide +kernel
theorem dX2_become_1 : decode cX2_become 1 = .ok (.lload_n 3, 1) := by decide +kernel
theorem dX2_become_2 : decode cX2_become 2 = .ok (.invokestatic 16, 3) := by decide +kernel
theorem dX2_become_5 : decode cX2_become 5 = .ok (.lstore 5, 2) := by decide +kernel
theorem dX2_become_7 : decode cX2_become 7 = .ok (.lload_n 1, 1) := by decide +kernel
theorem dX2_become_8 : decode cX2_become 8 = .ok (.lconst 0, 1) := by decide +kernel
theorem dX2_become_9 : decode cX2_become 9 = .ok (.lcmp, 1) := by decide +kernel
theorem dX2_become_10 : decode cX2_become 10 = .ok (.ifCond .le 16, 3) := by decide +kernel
theorem dX2_become_13 : decode cX2_become 13 = .ok (.lload_n 3, 1) := by decide +kernel
theorem dX2_become_14 : decode cX2_become 14 = .ok (.lconst 0, 1) := by decide +kernel
theorem dX2_become_15 : decode cX2_become 15 = .ok (.lcmp, 1) := by decide +kernel
theorem dX2_become_16 : decode cX2_become 16 = .ok (.ifCond .le 10, 3) := by decide +kernel
theorem dX2_become_19 : decode cX2_become 19 = .ok (.lload 5, 2) := by decide +kernel
theorem dX2_become_21 : decode cX2_become 21 = .ok (.lconst 0, 1) := by decide +kernel
theorem dX2_become_22 : decode cX2_become 22 = .ok (.lcmp, 1) := by decide +kernel
theorem dX2_become_23 : decode cX2_become 23 = .ok (.ifCond .gt 15, 3) := by decide +kernel
theorem dX2_become_26 : decode cX2_become 26 = .ok (.aload_n 0, 1) := by decide +kernel
theorem dX2_become_27 : decode cX2_become 27 = .ok (.lconst 0, 1) := by decide +kernel
theorem dX2_become_28 : decode cX2_become 28 = .ok (.putfield 7, 3) := by decide +kernel
theorem dX2_become_31 : decode cX2_become 31 = .ok (.aload_n 0, 1) := by decide +kernel
theorem dX2_become_32 : decode cX2_become 32 = .ok (.lconst 1, 1) := by decide +kernel
theorem dX2_become_33 : decode cX2_become 33 = .ok (.putfield 13, 3) := by decide +kernel
theorem dX2_become_36 : decode cX2_become 36 = .ok (.iconst 0, 1) := by decide +kernel
theorem dX2_become_37 : decode cX2_become 37 = .ok (.ireturn, 1) := by decide +kernel
theorem dX2_become_38 : decode cX2_become 38 = .ok (.aload_n 0, 1) := by decide +kernel
theorem dX2_become_39 : decode cX2_become 39 = .ok (.lload_n 1, 1) := by decide +kernel
theorem dX2_become_40 : decode cX2_become 40 = .ok (.lload 5, 2) := by decide +kernel
theorem dX2_become_42 : decode cX2_become 42 = .ok (.ldiv, 1) := by decide +kernel
theorem dX2_become_43 : decode cX2_become 43 = .ok (.putfield 7, 3) := by decide +kernel
theorem dX2_become_46 : decode cX2_become 46 = .ok (.aload_n 0, 1) := by decide +kernel
theorem dX2_become_47 : decode cX2_become 47 = .ok (.lload_n 3, 1) := by decide +kernel
theorem dX2_become_48 : decode cX2_become 48 = .ok (.lload 5, 2) := by decide +kernel
theorem dX2_become_50 : decode cX2_become 50 = .ok (.ldiv, 1) := by decide +kernel
theorem dX2_become_51 : decode cX2_become 51 = .ok (.putfield 13, 3) := by decide +kernel
theorem dX2_become_54 : decode cX2_become 54 = .ok (.iconst 1, 1) := by decide +kernel
theorem dX2_become_55 : decode cX2_become 55 = .ok (.ireturn, 1) := by decide +kernel
theorem dX2_commonDivisor_0 : decode cX2_commonDivisor 0 = .ok (.lload_n 0, 1) := by decide +kernel
theorem dX2_commonDivisor_1 : decode cX2_commonDivisor 1 = .ok (.lstore 4, 2) := by decide +kernel
theorem dX2_commonDivisor_3 : decode cX2_commonDivisor 3 = .ok (.lload_n 2, 1) := by decide +kernel
theorem dX2_commonDivisor_4 : decode cX2_commonDivisor 4 = .ok (.lstore 6, 2) := by decide +kernel
theorem dX2_commonDivisor_6 : decode cX2_commonDivisor 6 = .ok (.iconst 0, 1) := by decide +kernel
theorem dX2_commonDivisor_7 : decode cX2_commonDivisor 7 = .ok (.istore 8, 2) := by decide +kernel
theorem dX2_commonDivisor_9 : decode cX2_commonDivisor 9 = .ok (.iload 8, 2) := by decide +kernel
theorem dX2_commonDivisor_11 : decode cX2_commonDivisor 11 = .ok (.sipush 200, 3) := by decide +kernel
theorem dX2_commonDivisor_14 : decode cX2_commonDivisor 14 = .ok (.if_icmp .ge 31, 3) := by decide +kernel
theorem dX2_commonDivisor_17 : decode cX2_commonDivisor 17 = .ok (.lload 6, 2) := by decide +kernel
theorem dX2_commonDivisor_19 : decode cX2_commonDivisor 19 = .ok (.lconst 0, 1) := by decide +kernel
theorem dX2_commonDivisor_20 : decode cX2_commonDivisor 20 = .ok (.lcmp, 1) := by decide +kernel
theorem dX2_commonDivisor_21 : decode cX2_commonDivisor 21 = .ok (.ifCond .eq 24, 3) := by decide +kernel
theorem dX2_commonDivisor_24 : decode cX2_commonDivisor 24 = .ok (.lload 4, 2) := by decide +kernel
theorem dX2_commonDivisor_26 : decode cX2_commonDivisor 26 = .ok (.lload 6, 2) := by decide +kernel
theorem dX2_commonDivisor_28 : decode cX2_commonDivisor 28 = .ok (.lrem, 1) := by decide +kernel
theorem dX2_commonDivisor_29 : decode cX2_commonDivisor 29 = .ok (.lstore 9, 2) := by decide +kernel
theorem dX2_commonDivisor_31 : decode cX2_commonDivisor 31 = .ok (.lload 6, 2) := by decide +kernel
theorem dX2_commonDivisor_33 : decode cX2_commonDivisor 33 = .ok (.lstore 4, 2) := by decide +kernel
theorem dX2_commonDivisor_35 : decode cX2_commonDivisor 35 = .ok (.lload 9, 2) := by decide +kernel
theorem dX2_commonDivisor_37 : decode cX2_commonDivisor 37 = .ok (.lstore 6, 2) := by decide +kernel
theorem dX2_commonDivisor_39 : decode cX2_commonDivisor 39 = .ok (.iinc 8 1, 3) := by decide +kernel
theorem dX2_commonDivisor_42 : decode cX2_commonDivisor 42 = .ok (.goto (-33), 3) := by decide +kernel
theorem dX2_commonDivisor_45 : decode cX2_commonDivisor 45 = .ok (.lload 4, 2) := by decide +kernel
theorem dX2_commonDivisor_47 : decode cX2_commonDivisor 47 = .ok (.lreturn, 1) := by decide +kernel
theorem dX3_init_0 : decode cX3_init 0 = .ok (.aload_n 0, 1) := by decide +kernel
theorem dX3_init_1 : decode cX3_init 1 = .ok (.invokespecial 3, 3) := by decide +kernel
theorem dX3_init_4 : decode cX3_init 4 = .ok (.aload_n 0, 1) := by decide +kernel
theorem dX3_init_5 : decode cX3_init 5 = .ok (.bipush 24, 2) := by decide +kernel
theorem dX3_init_7 : decode cX3_init 7 = .ok (.newarray .int, 2) := by decide +kernel
theorem dX3_init_9 : decode cX3_init 9 = .ok (.putfield 9, 3) := by decide +kernel
theorem dX3_init_12 : decode cX3_init 12 = .ok (.return_, 1) := by decide +kernel
theorem dX3_draw_0 : decode cX3_draw 0 = .ok (.aload_n 0, 1) := by decide +kernel
theorem dX3_draw_1 : decode cX3_draw 1 = .ok (.iload_n 1, 1) := by decide +kernel
theorem dX3_draw_2 : decode cX3_draw 2 = .ok (.putfield 15, 3) := by decide +kernel
theorem dX3_draw_5 : decode cX3_draw 5 = .ok (.aload_n 0, 1) := by decide +kernel
theorem dX3_draw_6 : decode cX3_draw 6 = .ok (.iload_n 2, 1) := by decide +kernel
theorem dX3_draw_7 : decode cX3_draw 7 = .ok (.putfield 19, 3) := by decide +kernel
theorem dX3_draw_10 : decode cX3_draw 10 = .ok (.aload_n 0, 1) := by decide +kernel
theorem dX3_draw_11 : decode cX3_draw 11 = .ok (.iconst 0, 1) := by decide +kernel
theorem dX3_draw_12 : decode cX3_draw 12 = .ok (.putfield 22, 3) := by decide +kernel
theorem dX3_draw_15 : decode cX3_draw 15 = .ok (.aload_n 0, 1) := by decide +kernel
theorem dX3_draw_16 : decode cX3_draw 16 = .ok (.iconst 0, 1) := by decide +kernel
theorem dX3_draw_17 : decode cX3_draw 17 = .ok (.putfield 25, 3) := by decide +kernel
theorem dX3_draw_20 : decode cX3_draw 20 = .ok (.iload_n 1, 1) := by decide +kernel
theorem dX3_draw_21 : decode cX3_draw 21 = .ok (.invokestatic 28, 3) := by decide +kernel
theorem dX3_draw_24 : decode cX3_draw 24 = .ok (.istore 4, 2) := by decide +kernel
theorem dX3_draw_26 : decode cX3_draw 26 = .ok (.iload_n 3, 1) := by decide +kernel
theorem dX3_draw_27 : decode cX3_draw 27 = .ok (.bipush 24, 2) := by decide +kernel
theorem dX3_draw_29 : decode cX3_draw 29 = .ok (.invokestatic 34, 3) := by decide +kernel
theorem dX3_draw_32 : decode cX3_draw 32 = .ok (.iload 4, 2) := by decide +kernel
theorem dX3_draw_34 : decode cX3_draw 34 = .ok (.invokestatic 34, 3) := by decide +kernel
theorem dX3_draw_37 : decode cX3_draw 37 = .ok (.istore 5, 2) := by decide +kernel
theorem dX3_draw_39 : decode cX3_draw 39 = .ok (.aload_n 0, 1) := by decide +kernel
theorem dX3_draw_40 : decode cX3_draw 40 = .ok (.getfield 22, 3) := by decide +kernel
theorem dX3_draw_43 : decode cX3_draw 43 = .ok (.iload 5, 2) := by decide +kernel
theorem dX3_draw_45 : decode cX3_draw 45 = .ok (.if_icmp .ge 89, 3) := by decide +kernel
theorem dX3_draw_48 : decode cX3_draw 48 = .ok (.iload 4, 2) := by decide +kernel
theorem dX3_draw_50 : decode cX3_draw 50 = .ok (.ifCond .le 84, 3) := by decide +kernel
theorem dX3_draw_53 : decode cX3_draw 53 = .ok (.aload_n 0, 1) := by decide +kernel
theorem dX3_draw_54 : decode cX3_draw 54 = .ok (.aload_n 0, 1) := by decide +kernel
theorem dX3_draw_55 : decode cX3_draw 55 = .ok (.getfield 19, 3) := by decide +kernel
theorem dX3_draw_58 : decode cX3_draw 58 = .ok (.ldc 40, 2) := by decide +kernel
theorem dX3_draw_60 : decode cX3_draw 60 = .ok (.imul, 1) := by decide +kernel
theorem dX3_draw_61 : decode cX3_draw 61 = .ok (.sipush 12345, 3) := by decide +kernel
theorem dX3_draw_64 : decode cX3_draw 64 = .ok (.iadd, 1) := by decide +kernel
theorem dX3_draw_65 : decode cX3_draw 65 = .ok (.putfield 19, 3) := by decide +kernel
theorem dX3_draw_68 : decode cX3_draw 68 = .ok (.aload_n 0, 1) := by decide +kernel
theorem dX3_draw_69 : decode cX3_draw 69 = .ok (.getfield 15, 3) := by decide +kernel
theorem dX3_draw_72 : decode cX3_draw 72 = .ok (.aload_n 0, 1) := by decide +kernel
theorem dX3_draw_73 : decode cX3_draw 73 = .ok (.getfield 25, 3) := by decide +kernel
theorem dX3_draw_76 : decode cX3_draw 76 = .ok (.iconst (-1), 1) := by decide +kernel
theorem dX3_draw_77 : decode cX3_draw 77 = .ok (.ixor, 1) := by decide +kernel
theorem dX3_draw_78 : decode cX3_draw 78 = .ok (.iand, 1) := by decide +kernel
theorem dX3_draw_79 : decode cX3_draw 79 = .ok (.aload_n 0, 1) := by decide +kernel
theorem dX3_draw_80 : decode cX3_draw 80 = .ok (.getfield 19, 3) := by decide +kernel
theorem dX3_draw_83 : decode cX3_draw 83 = .ok (.bipush 16, 2) := by decide +kernel
theorem dX3_draw_85 : decode cX3_draw 85 = .ok (.iushr, 1) := by decide +kernel
theorem dX3_draw_86 : decode cX3_draw 86 = .ok (.iload 4, 2) := by decide +kernel
theorem dX3_draw_88 : decode cX3_draw 88 = .ok (.irem, 1) := by decide +kernel
theorem dX3_draw_89 : decode cX3_draw 89 = .ok (.invokestatic 41, 3) := by decide +kernel
theorem dX3_draw_92 : decode cX3_draw 92 = .ok (.istore 6, 2) := by decide +kernel
theorem dX3_draw_94 : decode cX3_draw 94 = .ok (.aload_n 0, 1) := by decide +kernel
theorem dX3_draw_95 : decode cX3_draw 95 = .ok (.getfield 9, 3) := by decide +kernel
theorem dX3_draw_98 : decode cX3_draw 98 = .ok (.aload_n 0, 1) := by decide +kernel
theorem dX3_draw_99 : decode cX3_draw 99 = .ok (.getfield 22, 3) := by decide +kernel
theorem dX3_draw_102 : decode cX3_draw 102 = .ok (.iload 6, 2) := by decide +kernel
theorem dX3_draw_104 : decode cX3_draw 104 = .ok (.iastore, 1) := by decide +kernel
theorem dX3_draw_105 : decode cX3_draw 105 = .ok (.aload_n 0, 1) := by decide +kernel
theorem dX3_draw_106 : decode cX3_draw 106 = .ok (.dup, 1) := by decide +kernel
theorem dX3_draw_107 : decode cX3_draw 107 = .ok (.getfield 22, 3) := by decide +kernel
theorem dX3_draw_110 : decode cX3_draw 110 = .ok (.iconst 1, 1) := by decide +kernel
theorem dX3_draw_111 : decode cX3_draw 111 = .ok (.iadd, 1) := by decide +kernel
theorem dX3_draw_112 : decode cX3_draw 112 = .ok (.putfield 22, 3) := by decide +kernel
theorem dX3_draw_115 : decode cX3_draw 115 = .ok (.iinc 4 (-1), 3) := by decide +kernel
theorem dX3_draw_118 : decode cX3_draw 118 = .ok (.aload_n 0, 1) := by decide +kernel
theorem dX3_draw_119 : decode cX3_draw 119 = .ok (.dup, 1) := by decide +kernel
theorem dX3_draw_120 : decode cX3_draw 120 = .ok (.getfield 25, 3) := by decide +kernel
theorem dX3_draw_123 : decode cX3_draw 123 = .ok (.iconst 1, 1) := by decide +kernel
theorem dX3_draw_124 : decode cX3_draw 124 = .ok (.iload 6, 2) := by decide +kernel
theorem dX3_draw_126 : decode cX3_draw 126 = .ok (.ishl, 1) := by decide +kernel
theorem dX3_draw_127 : decode cX3_draw 127 = .ok (.ior, 1) := by decide +kernel
theorem dX3_draw_128 : decode cX3_draw 128 = .ok (.putfield 25, 3) := by decide +kernel
theorem dX3_draw_131 : decode cX3_draw 131 = .ok (.goto (-92), 3) := by decide +kernel
theorem dX3_draw_134 : decode cX3_draw 134 = .ok (.return_, 1) := by decide +kernel
theorem dX3_bitAt_0 : decode cX3_bitAt 0 = .ok (.iconst 0, 1) := by decide +kernel
theorem dX3_bitAt_1 : decode cX3_bitAt 1 = .ok (.istore_n 2, 1) := by decide +kernel
theorem dX3_bitAt_2 : decode cX3_bitAt 2 = .ok (.iconst 0, 1) := by decide +kernel
theorem dX3_bitAt_3 : decode cX3_bitAt 3 = .ok (.istore_n 3, 1) := by decide +kernel
theorem dX3_bitAt_4 : decode cX3_bitAt 4 = .ok (.iload_n 3, 1) := by decide +kernel
theorem dX3_bitAt_5 : decode cX3_bitAt 5 = .ok (.bipush 30, 2) := by decide +kernel
theorem dX3_bitAt_7 : decode cX3_bitAt 7 = .ok (.if_icmp .ge 27, 3) := by decide +kernel
theorem dX3_bitAt_10 : decode cX3_bitAt 10 = .ok (.iload_n 0, 1) := by decide +kernel
theorem dX3_bitAt_11 : decode cX3_bitAt 11 = .ok (.iload_n 3, 1) := by decide +kernel
theorem dX3_bitAt_12 : decode cX3_bitAt 12 = .ok (.invokestatic 44, 3) := by decide +kernel
theorem dX3_bitAt_15 : decode cX3_bitAt 15 = .ok (.ifCond .eq 13, 3) := by decide +kernel
theorem dX3_bitAt_18 : decode cX3_bitAt 18 = .ok (.iload_n 2, 1) := by decide +kernel
theorem dX3_bitAt_19 : decode cX3_bitAt 19 = .ok (.iload_n 1, 1) := by decide +kernel
theorem dX3_bitAt_20 : decode cX3_bitAt 20 = .ok (.if_icmp .ne 5, 3) := by decide +kernel
theorem dX3_bitAt_23 : decode cX3_bitAt 23 = .ok (.iload_n 3, 1) := by decide +kernel
theorem dX3_bitAt_24 : decode cX3_bitAt 24 = .ok (.ireturn, 1) := by decide +kernel
theorem dX3_bitAt_25 : decode cX3_bitAt 25 = .ok (.iinc 2 1, 3) := by decide +kernel
theorem dX3_bitAt_28 : decode cX3_bitAt 28 = .ok (.iinc 3 1, 3) := by decide +kernel
theorem dX3_bitAt_31 : decode cX3_bitAt 31 = .ok (.goto (-27), 3) := by decide +kernel
theorem dX3_bitAt_34 : decode cX3_bitAt 34 = .ok (.iconst 0, 1) := by decide +kernel
theorem dX3_bitAt_35 : decode cX3_bitAt 35 = .ok (.ireturn, 1) := by decide +kernel
theorem dX3_strike_0 : decode cX3_strike 0 = .ok (.aload_n 0, 1) := by decide +kernel
theorem dX3_strike_1 : decode cX3_strike 1 = .ok (.aload_n 0, 1) := by decide +kernel
theorem dX3_strike_2 : decode cX3_strike 2 = .ok (.getfield 25, 3) := by decide +kernel
theorem dX3_strike_5 : decode cX3_strike 5 = .ok (.aload_n 1, 1) := by decide +kernel
theorem dX3_strike_6 : decode cX3_strike 6 = .ok (.iload_n 2, 1) := by decide +kernel
theorem dX3_strike_7 : decode cX3_strike 7 = .ok (.bipush 9, 2) := by decide +kernel
theorem dX3_strike_9 : decode cX3_strike 9 = .ok (.invokevirtual 48, 3) := by decide +kernel
theorem dX3_strike_12 : decode cX3_strike 12 = .ok (.iand, 1) := by decide +kernel
theorem dX3_strike_13 : decode cX3_strike 13 = .ok (.putfield 53, 3) := by decide +kernel
theorem dX3_strike_16 : decode cX3_strike 16 = .ok (.aload_n 0, 1) := by decide +kernel
theorem dX3_strike_17 : decode cX3_strike 17 = .ok (.iconst 0, 1) := by decide +kernel
theorem dX3_strike_18 : decode cX3_strike 18 = .ok (.putfield 56, 3) := by decide +kernel
theorem dX3_strike_21 : decode cX3_strike 21 = .ok (.aload_n 0, 1) := by decide +kernel
theorem dX3_strike_22 : decode cX3_strike 22 = .ok (.iconst 0, 1) := by decide +kernel
theorem dX3_strike_23 : decode cX3_strike 23 = .ok (.putfield 59, 3) := by decide +kernel
theorem dX3_strike_26 : decode cX3_strike 26 = .ok (.iconst 0, 1) := by decide +kernel
theorem dX3_strike_27 : decode cX3_strike 27 = .ok (.istore_n 3, 1) := by decide +kernel
theorem dX3_strike_28 : decode cX3_strike 28 = .ok (.iload_n 3, 1) := by decide +kernel
theorem dX3_strike_29 : decode cX3_strike 29 = .ok (.aload_n 1, 1) := by decide +kernel
theorem dX3_strike_30 : decode cX3_strike 30 = .ok (.iload_n 2, 1) := by decide +kernel
theorem dX3_strike_31 : decode cX3_strike 31 = .ok (.bipush 6, 2) := by decide +kernel
theorem dX3_strike_33 : decode cX3_strike 33 = .ok (.invokevirtual 48, 3) := by decide +kernel
theorem dX3_strike_36 : decode cX3_strike 36 = .ok (.if_icmp .ge 41, 3) := by decide +kernel
theorem dX3_strike_39 : decode cX3_strike 39 = .ok (.aload_n 0, 1) := by decide +kernel
theorem dX3_strike_40 : decode cX3_strike 40 = .ok (.dup, 1) := by decide +kernel
theorem dX3_strike_41 : decode cX3_strike 41 = .ok (.getfield 56, 3) := by decide +kernel
theorem dX3_strike_44 : decode cX3_strike 44 = .ok (.aload_n 0, 1) := by decide +kernel
theorem dX3_strike_45 : decode cX3_strike 45 = .ok (.aload_n 1, 1) := by decide +kernel
theorem dX3_strike_46 : decode cX3_strike 46 = .ok (.iload_n 2, 1) := by decide +kernel
theorem dX3_strike_47 : decode cX3_strike 47 = .ok (.iconst 0, 1) := by decide +kernel
theorem dX3_strike_48 : decode cX3_strike 48 = .ok (.invokevirtual 62, 3) := by decide +kernel
theorem dX3_strike_51 : decode cX3_strike 51 = .ok (.ior, 1) := by decide +kernel
theorem dX3_strike_52 : decode cX3_strike 52 = .ok (.putfield 56, 3) := by decide +kernel
theorem dX3_strike_55 : decode cX3_strike 55 = .ok (.aload_n 0, 1) := by decide +kernel
theorem dX3_strike_56 : decode cX3_strike 56 = .ok (.dup, 1) := by decide +kernel
theorem dX3_strike_57 : decode cX3_strike 57 = .ok (.getfield 59, 3) := by decide +kernel
theorem dX3_strike_60 : decode cX3_strike 60 = .ok (.aload_n 0, 1) := by decide +kernel
theorem dX3_strike_61 : decode cX3_strike 61 = .ok (.aload_n 1, 1) := by decide +kernel
theorem dX3_strike_62 : decode cX3_strike 62 = .ok (.iload_n 2, 1) := by decide +kernel
theorem dX3_strike_63 : decode cX3_strike 63 = .ok (.iconst 1, 1) := by decide +kernel
theorem dX3_strike_64 : decode cX3_strike 64 = .ok (.invokevirtual 62, 3) := by decide +kernel
theorem dX3_strike_67 : decode cX3_strike 67 = .ok (.ior, 1) := by decide +kernel
theorem dX3_strike_68 : decode cX3_strike 68 = .ok (.putfield 59, 3) := by decide +kernel
theorem dX3_strike_71 : decode cX3_strike 71 = .ok (.iinc 3 1, 3) := by decide +kernel
theorem dX3_strike_74 : decode cX3_strike 74 = .ok (.goto (-46), 3) := by decide +kernel
theorem dX3_strike_77 : decode cX3_strike 77 = .ok (.return_, 1) := by decide +kernel
theorem dX3_left_0 : decode cX3_left 0 = .ok (.aload_n 0, 1) := by decide +kernel
theorem dX3_left_1 : decode cX3_left 1 = .ok (.getfield 25, 3) := by decide +kernel
theorem dX3_left_4 : decode cX3_left 4 = .ok (.aload_n 0, 1) := by decide +kernel
theorem dX3_left_5 : decode cX3_left 5 = .ok (.getfield 53, 3) := by decide +kernel
theorem dX3_left_8 : decode cX3_left 8 = .ok (.iconst (-1), 1) := by decide +kernel
theorem dX3_left_9 : decode cX3_left 9 = .ok (.ixor, 1) := by decide +kernel
theorem dX3_left_10 : decode cX3_left 10 = .ok (.iand, 1) := by decide +kernel
theorem dX3_left_11 : decode cX3_left 11 = .ok (.aload_n 0, 1) := by decide +kernel
theorem dX3_left_12 : decode cX3_left 12 = .ok (.getfield 56, 3) := by decide +kernel
theorem dX3_left_15 : decode cX3_left 15 = .ok (.iconst (-1), 1) := by decide +kernel
theorem dX3_left_16 : decode cX3_left 16 = .ok (.ixor, 1) := by decide +kernel
theorem dX3_left_17 : decode cX3_left 17 = .ok (.iand, 1) := by decide +kernel
theorem dX3_left_18 : decode cX3_left 18 = .ok (.aload_n 0, 1) := by decide +kernel
theorem dX3_left_19 : decode cX3_left 19 = .ok (.getfield 59, 3) := by decide +kernel
theorem dX3_left_22 : decode cX3_left 22 = .ok (.iconst (-1), 1) := by decide +kernel
theorem dX3_left_23 : decode cX3_left 23 = .ok (.ixor, 1) := by decide +kernel
theorem dX3_left_24 : decode cX3_left 24 = .ok (.iand, 1) := by decide +kernel
theorem dX3_left_25 : decode cX3_left 25 = .ok (.ireturn, 1) := by decide +kernel
theorem dX3_leastLiked_0 : decode cX3_leastLiked 0 = .ok (.iconst (-1), 1) := by decide +kernel
theorem dX3_leastLiked_1 : decode cX3_leastLiked 1 = .ok (.istore 4, 2) := by decide +kernel
theorem dX3_leastLiked_3 : decode cX3_leastLiked 3 = .ok (.iconst 0, 1) := by decide +kernel
theorem dX3_leastLiked_4 : decode cX3_leastLiked 4 = .ok (.istore 5, 2) := by decide +kernel
theorem dX3_leastLiked_6 : decode cX3_leastLiked 6 = .ok (.iconst 0, 1) := by decide +kernel
theorem dX3_leastLiked_7 : decode cX3_leastLiked 7 = .ok (.istore 6, 2) := by decide +kernel
theorem dX3_leastLiked_9 : decode cX3_leastLiked 9 = .ok (.iload 6, 2) := by decide +kernel
theorem dX3_leastLiked_11 : decode cX3_leastLiked 11 = .ok (.aload_n 0, 1) := by decide +kernel
theorem dX3_leastLiked_12 : decode cX3_leastLiked 12 = .ok (.getfield 22, 3) := by decide +kernel
theorem dX3_leastLiked_15 : decode cX3_leastLiked 15 = .ok (.if_icmp .ge 60, 3) := by decide +kernel
theorem dX3_leastLiked_18 : decode cX3_leastLiked 18 = .ok (.aload_n 0, 1) := by decide +kernel
theorem dX3_leastLiked_19 : decode cX3_leastLiked 19 = .ok (.getfield 9, 3) := by decide +kernel
theorem dX3_leastLiked_22 : decode cX3_leastLiked 22 = .ok (.iload 6, 2) := by decide +kernel
theorem dX3_leastLiked_24 : decode cX3_leastLiked 24 = .ok (.iaload, 1) := by decide +kernel
theorem dX3_leastLiked_25 : decode cX3_leastLiked 25 = .ok (.istore 7, 2) := by decide +kernel
theorem dX3_leastLiked_27 : decode cX3_leastLiked 27 = .ok (.aload_n 1, 1) := by decide +kernel
theorem dX3_leastLiked_28 : decode cX3_leastLiked 28 = .ok (.iload_n 2, 1) := by decide +kernel
theorem dX3_leastLiked_29 : decode cX3_leastLiked 29 = .ok (.iload_n 3, 1) := by decide +kernel
theorem dX3_leastLiked_30 : decode cX3_leastLiked 30 = .ok (.iload 7, 2) := by decide +kernel
theorem dX3_leastLiked_32 : decode cX3_leastLiked 32 = .ok (.invokestatic 66, 3) := by decide +kernel
theorem dX3_leastLiked_35 : decode cX3_leastLiked 35 = .ok (.invokevirtual 48, 3) := by decide +kernel
theorem dX3_leastLiked_38 : decode cX3_leastLiked 38 = .ok (.istore 8, 2) := by decide +kernel
theorem dX3_leastLiked_40 : decode cX3_leastLiked 40 = .ok (.aload_n 0, 1) := by decide +kernel
theorem dX3_leastLiked_41 : decode cX3_leastLiked 41 = .ok (.invokevirtual 69, 3) := by decide +kernel
theorem dX3_leastLiked_44 : decode cX3_leastLiked 44 = .ok (.iload 7, 2) := by decide +kernel
theorem dX3_leastLiked_46 : decode cX3_leastLiked 46 = .ok (.invokestatic 44, 3) := by decide +kernel
theorem dX3_leastLiked_49 : decode cX3_leastLiked 49 = .ok (.ifCond .eq 20, 3) := by decide +kernel
theorem dX3_leastLiked_52 : decode cX3_leastLiked 52 = .ok (.iload 8, 2) := by decide +kernel
theorem dX3_leastLiked_54 : decode cX3_leastLiked 54 = .ok (.iload 4, 2) := by decide +kernel
theorem dX3_leastLiked_56 : decode cX3_leastLiked 56 = .ok (.if_icmp .gt 13, 3) := by decide +kernel
theorem dX3_leastLiked_59 : decode cX3_leastLiked 59 = .ok (.iload 8, 2) := by decide +kernel
theorem dX3_leastLiked_61 : decode cX3_leastLiked 61 = .ok (.istore 4, 2) := by decide +kernel
theorem dX3_leastLiked_63 : decode cX3_leastLiked 63 = .ok (.iconst 1, 1) := by decide +kernel
theorem dX3_leastLiked_64 : decode cX3_leastLiked 64 = .ok (.iload 7, 2) := by decide +kernel
theorem dX3_leastLiked_66 : decode cX3_leastLiked 66 = .ok (.ishl, 1) := by decide +kernel
theorem dX3_leastLiked_67 : decode cX3_leastLiked 67 = .ok (.istore 5, 2) := by decide +kernel
theorem dX3_leastLiked_69 : decode cX3_leastLiked 69 = .ok (.iinc 6 1, 3) := by decide +kernel
theorem dX3_leastLiked_72 : decode cX3_leastLiked 72 = .ok (.goto (-63), 3) := by decide +kernel
theorem dX3_leastLiked_75 : decode cX3_leastLiked 75 = .ok (.iload 5, 2) := by decide +kernel
theorem dX3_leastLiked_77 : decode cX3_leastLiked 77 = .ok (.ireturn, 1) := by decide +kernel
theorem dX3_seat_0 : decode cX3_seat 0 = .ok (.aload_n 0, 1) := by decide +kernel
theorem dX3_seat_1 : decode cX3_seat 1 = .ok (.iconst 0, 1) := by decide +kernel
theorem dX3_seat_2 : decode cX3_seat 2 = .ok (.putfield 73, 3) := by decide +kernel
theorem dX3_seat_5 : decode cX3_seat 5 = .ok (.iconst 0, 1) := by decide +kernel
theorem dX3_seat_6 : decode cX3_seat 6 = .ok (.istore_n 3, 1) := by decide +kernel
theorem dX3_seat_7 : decode cX3_seat 7 = .ok (.iload_n 3, 1) := by decide +kernel
theorem dX3_seat_8 : decode cX3_seat 8 = .ok (.aload_n 0, 1) := by decide +kernel
theorem dX3_seat_9 : decode cX3_seat 9 = .ok (.getfield 22, 3) := by decide +kernel
theorem dX3_seat_12 : decode cX3_seat 12 = .ok (.if_icmp .ge 42, 3) := by decide +kernel
theorem dX3_seat_15 : decode cX3_seat 15 = .ok (.aload_n 0, 1) := by decide +kernel
theorem dX3_seat_16 : decode cX3_seat 16 = .ok (.getfield 73, 3) := by decide +kernel
theorem dX3_seat_19 : decode cX3_seat 19 = .ok (.invokestatic 28, 3) := by decide +kernel
theorem dX3_seat_22 : decode cX3_seat 22 = .ok (.iload_n 1, 1) := by decide +kernel
theorem dX3_seat_23 : decode cX3_seat 23 = .ok (.if_icmp .ge 31, 3) := by decide +kernel
theorem dX3_seat_26 : decode cX3_seat 26 = .ok (.aload_n 0, 1) := by decide +kernel
theorem dX3_seat_27 : decode cX3_seat 27 = .ok (.dup, 1) := by decide +kernel
theorem dX3_seat_28 : decode cX3_seat 28 = .ok (.getfield 73, 3) := by decide +kernel
theorem dX3_seat_31 : decode cX3_seat 31 = .ok (.aload_n 0, 1) := by decide +kernel
theorem dX3_seat_32 : decode cX3_seat 32 = .ok (.invokevirtual 69, 3) := by decide +kernel
theorem dX3_seat_35 : decode cX3_seat 35 = .ok (.iconst 1, 1) := by decide +kernel
theorem dX3_seat_36 : decode cX3_seat 36 = .ok (.aload_n 0, 1) := by decide +kernel
theorem dX3_seat_37 : decode cX3_seat 37 = .ok (.getfield 9, 3) := by decide +kernel
theorem dX3_seat_40 : decode cX3_seat 40 = .ok (.iload_n 3, 1) := by decide +kernel
theorem dX3_seat_41 : decode cX3_seat 41 = .ok (.iaload, 1) := by decide +kernel
theorem dX3_seat_42 : decode cX3_seat 42 = .ok (.ishl, 1) := by decide +kernel
theorem dX3_seat_43 : decode cX3_seat 43 = .ok (.iand, 1) := by decide +kernel
theorem dX3_seat_44 : decode cX3_seat 44 = .ok (.ior, 1) := by decide +kernel
theorem dX3_seat_45 : decode cX3_seat 45 = .ok (.putfield 73, 3) := by decide +kernel
theorem dX3_seat_48 : decode cX3_seat 48 = .ok (.iinc 3 1, 3) := by decide +kernel
theorem dX3_seat_51 : decode cX3_seat 51 = .ok (.goto (-44), 3) := by decide +kernel
theorem dX3_seat_54 : decode cX3_seat 54 = .ok (.iconst 0, 1) := by decide +kernel
theorem dX3_seat_55 : decode cX3_seat 55 = .ok (.istore_n 3, 1) := by decide +kernel
theorem dX3_seat_56 : decode cX3_seat 56 = .ok (.iload_n 3, 1) := by decide +kernel
theorem dX3_seat_57 : decode cX3_seat 57 = .ok (.bipush 30, 2) := by decide +kernel
theorem dX3_seat_59 : decode cX3_seat 59 = .ok (.if_icmp .ge 34, 3) := by decide +kernel
theorem dX3_seat_62 : decode cX3_seat 62 = .ok (.aload_n 0, 1) := by decide +kernel
theorem dX3_seat_63 : decode cX3_seat 63 = .ok (.getfield 73, 3) := by decide +kernel
theorem dX3_seat_66 : decode cX3_seat 66 = .ok (.invokestatic 28, 3) := by decide +kernel
theorem dX3_seat_69 : decode cX3_seat 69 = .ok (.iload_n 1, 1) := by decide +kernel
theorem dX3_seat_70 : decode cX3_seat 70 = .ok (.if_icmp .ge 23, 3) := by decide +kernel
theorem dX3_seat_73 : decode cX3_seat 73 = .ok (.aload_n 0, 1) := by decide +kernel
theorem dX3_seat_74 : decode cX3_seat 74 = .ok (.dup, 1) := by decide +kernel
theorem dX3_seat_75 : decode cX3_seat 75 = .ok (.getfield 73, 3) := by decide +kernel
theorem dX3_seat_78 : decode cX3_seat 78 = .ok (.iload_n 2, 1) := by decide +kernel
theorem dX3_seat_79 : decode cX3_seat 79 = .ok (.iconst 1, 1) := by decide +kernel
theorem dX3_seat_80 : decode cX3_seat 80 = .ok (.iload_n 3, 1) := by decide +kernel
theorem dX3_seat_81 : decode cX3_seat 81 = .ok (.ishl, 1) := by decide +kernel
theorem dX3_seat_82 : decode cX3_seat 82 = .ok (.iand, 1) := by decide +kernel
theorem dX3_seat_83 : decode cX3_seat 83 = .ok (.ior, 1) := by decide +kernel
theorem dX3_seat_84 : decode cX3_seat 84 = .ok (.putfield 73, 3) := by decide +kernel
theorem dX3_seat_87 : decode cX3_seat 87 = .ok (.iinc 3 1, 3) := by decide +kernel
theorem dX3_seat_90 : decode cX3_seat 90 = .ok (.goto (-34), 3) := by decide +kernel
theorem dX3_seat_93 : decode cX3_seat 93 = .ok (.aload_n 0, 1) := by decide +kernel
theorem dX3_seat_94 : decode cX3_seat 94 = .ok (.getfield 73, 3) := by decide +kernel
theorem dX3_seat_97 : decode cX3_seat 97 = .ok (.invokestatic 28, 3) := by decide +kernel
theorem dX3_seat_100 : decode cX3_seat 100 = .ok (.iload_n 1, 1) := by decide +kernel
theorem dX3_seat_101 : decode cX3_seat 101 = .ok (.if_icmp .ge 8, 3) := by decide +kernel
theorem dX3_seat_104 : decode cX3_seat 104 = .ok (.aload_n 0, 1) := by decide +kernel
theorem dX3_seat_105 : decode cX3_seat 105 = .ok (.iconst 0, 1) := by decide +kernel
theorem dX3_seat_106 : decode cX3_seat 106 = .ok (.putfield 73, 3) := by decide +kernel
theorem dX3_seat_109 : decode cX3_seat 109 = .ok (.return_, 1) := by decide +kernel
theorem dX3_slipAt_0 : decode cX3_slipAt 0 = .ok (.iload_n 1, 1) := by decide +kernel
theorem dX3_slipAt_1 : decode cX3_slipAt 1 = .ok (.ifCond .lt 20, 3) := by decide +kernel
theorem dX3_slipAt_4 : decode cX3_slipAt 4 = .ok (.iload_n 1, 1) := by decide +kernel
theorem dX3_slipAt_5 : decode cX3_slipAt 5 = .ok (.aload_n 0, 1) := by decide +kernel
theorem dX3_slipAt_6 : decode cX3_slipAt 6 = .ok (.getfield 22, 3) := by decide +kernel
theorem dX3_slipAt_9 : decode cX3_slipAt 9 = .ok (.if_icmp .ge 12, 3) := by decide +kernel
theorem dX3_slipAt_12 : decode cX3_slipAt 12 = .ok (.aload_n 0, 1) := by decide +kernel
theorem dX3_slipAt_13 : decode cX3_slipAt 13 = .ok (.getfield 9, 3) := by decide +kernel
theorem dX3_slipAt_16 : decode cX3_slipAt 16 = .ok (.iload_n 1, 1) := by decide +kernel
theorem dX3_slipAt_17 : decode cX3_slipAt 17 = .ok (.iaload, 1) := by decide +kernel
theorem dX3_slipAt_18 : decode cX3_slipAt 18 = .ok (.goto 4, 3) := by decide +kernel
theorem dX3_slipAt_21 : decode cX3_slipAt 21 = .ok (.iconst (-1), 1) := by decide +kernel
theorem dX3_slipAt_22 : decode cX3_slipAt 22 = .ok (.ireturn, 1) := by decide +kernel
theorem dX3_standing_0 : decode cX3_standing 0 = .ok (.aload_n 0, 1) := by decide +kernel
theorem dX3_standing_1 : decode cX3_standing 1 = .ok (.getfield 15, 3) := by decide +kernel
theorem dX3_standing_4 : decode cX3_standing 4 = .ok (.iload_n 1, 1) := by decide +kernel
theorem dX3_standing_5 : decode cX3_standing 5 = .ok (.invokestatic 44, 3) := by decide +kernel
theorem dX3_standing_8 : decode cX3_standing 8 = .ok (.ifCond .ne 21, 3) := by decide +kernel
theorem dX3_standing_11 : decode cX3_standing 11 = .ok (.aload_n 0, 1) := by decide +kernel
theorem dX3_standing_12 : decode cX3_standing 12 = .ok (.getfield 73, 3) := by decide +kernel
theorem dX3_standing_15 : decode cX3_standing 15 = .ok (.iload_n 1, 1) := by decide +kernel
theorem dX3_standing_16 : decode cX3_standing 16 = .ok (.invokestatic 44, 3) := by decide +kernel
theorem dX3_standing_19 : decode cX3_standing 19 = .ok (.ifCond .eq 8, 3) := by decide +kernel
theorem dX3_standing_22 : decode cX3_standing 22 = .ok (.bipush 7, 2) := by decide +kernel
theorem dX3_standing_24 : decode cX3_standing 24 = .ok (.goto 4, 3) := by decide +kernel
theorem dX3_standing_27 : decode cX3_standing 27 = .ok (.iconst 0, 1) := by decide +kernel
theorem dX3_standing_28 : decode cX3_standing 28 = .ok (.ireturn, 1) := by decide +kernel
theorem dX3_standing_29 : decode cX3_standing 29 = .ok (.aload_n 0, 1) := by decide +kernel
theorem dX3_standing_30 : decode cX3_standing 30 = .ok (.getfield 25, 3) := by decide +kernel
theorem dX3_standing_33 : decode cX3_standing 33 = .ok (.iload_n 1, 1) := by decide +kernel
theorem dX3_standing_34 : decode cX3_standing 34 = .ok (.invokestatic 44, 3) := by decide +kernel
theorem dX3_standing_37 : decode cX3_standing 37 = .ok (.ifCond .ne 5, 3) := by decide +kernel
theorem dX3_standing_40 : decode cX3_standing 40 = .ok (.iconst 1, 1) := by decide +kernel
theorem dX3_standing_41 : decode cX3_standing 41 = .ok (.ireturn, 1) := by decide +kernel
theorem dX3_standing_42 : decode cX3_standing 42 = .ok (.aload_n 0, 1) := by decide +kernel
theorem dX3_standing_43 : decode cX3_standing 43 = .ok (.getfield 53, 3) := by decide +kernel
theorem dX3_standing_46 : decode cX3_standing 46 = .ok (.iload_n 1, 1) := by decide +kernel
theorem dX3_standing_47 : decode cX3_standing 47 = .ok (.invokestatic 44, 3) := by decide +kernel
theorem dX3_standing_50 : decode cX3_standing 50 = .ok (.ifCond .eq 5, 3) := by decide +kernel
theorem dX3_standing_53 : decode cX3_standing 53 = .ok (.iconst 2, 1) := by decide +kernel
theorem dX3_standing_54 : decode cX3_standing 54 = .ok (.ireturn, 1) := by decide +kernel
theorem dX3_standing_55 : decode cX3_standing 55 = .ok (.aload_n 0, 1) := by decide +kernel
theorem dX3_standing_56 : decode cX3_standing 56 = .ok (.getfield 56, 3) := by decide +kernel
theorem dX3_standing_59 : decode cX3_standing 59 = .ok (.iload_n 1, 1) := by decide +kernel
theorem dX3_standing_60 : decode cX3_standing 60 = .ok (.invokestatic 44, 3) := by decide +kernel
theorem dX3_standing_63 : decode cX3_standing 63 = .ok (.ifCond .eq 5, 3) := by decide +kernel
theorem dX3_standing_66 : decode cX3_standing 66 = .ok (.iconst 3, 1) := by decide +kernel
theorem dX3_standing_67 : decode cX3_standing 67 = .ok (.ireturn, 1) := by decide +kernel
theorem dX3_standing_68 : decode cX3_standing 68 = .ok (.aload_n 0, 1) := by decide +kernel
theorem dX3_standing_69 : decode cX3_standing 69 = .ok (.getfield 59, 3) := by decide +kernel
theorem dX3_standing_72 : decode cX3_standing 72 = .ok (.iload_n 1, 1) := by decide +kernel
theorem dX3_standing_73 : decode cX3_standing 73 = .ok (.invokestatic 44, 3) := by decide +kernel
theorem dX3_standing_76 : decode cX3_standing 76 = .ok (.ifCond .eq 5, 3) := by decide +kernel
theorem dX3_standing_79 : decode cX3_standing 79 = .ok (.iconst 4, 1) := by decide +kernel
theorem dX3_standing_80 : decode cX3_standing 80 = .ok (.ireturn, 1) := by decide +kernel
theorem dX3_standing_81 : decode cX3_standing 81 = .ok (.aload_n 0, 1) := by decide +kernel
theorem dX3_standing_82 : decode cX3_standing 82 = .ok (.getfield 73, 3) := by decide +kernel
theorem dX3_standing_85 : decode cX3_standing 85 = .ok (.iload_n 1, 1) := by decide +kernel
theorem dX3_standing_86 : decode cX3_standing 86 = .ok (.invokestatic 44, 3) := by decide +kernel
theorem dX3_standing_89 : decode cX3_standing 89 = .ok (.ifCond .eq 7, 3) := by decide +kernel
theorem dX3_standing_92 : decode cX3_standing 92 = .ok (.iconst 5, 1) := by decide +kernel
theorem dX3_standing_93 : decode cX3_standing 93 = .ok (.goto 5, 3) := by decide +kernel
theorem dX3_standing_96 : decode cX3_standing 96 = .ok (.bipush 6, 2) := by decide +kernel
theorem dX3_standing_98 : decode cX3_standing 98 = .ok (.ireturn, 1) := by decide +kernel
theorem dX3_figure_0 : decode cX3_figure 0 = .ok (.iload_n 1, 1) := by decide +kernel
theorem dX3_figure_1 : decode cX3_figure 1 = .ok (.tableswitch 58 0 2 #[27, 42, 50], 27) := by decide +kernel
theorem dX3_figure_28 : decode cX3_figure 28 = .ok (.aload_n 0, 1) := by decide +kernel
theorem dX3_figure_29 : decode cX3_figure 29 = .ok (.getfield 73, 3) := by decide +kernel
theorem dX3_figure_32 : decode cX3_figure 32 = .ok (.aload_n 0, 1) := by decide +kernel
theorem dX3_figure_33 : decode cX3_figure 33 = .ok (.getfield 15, 3) := by decide +kernel
theorem dX3_figure_36 : decode cX3_figure 36 = .ok (.iconst (-1), 1) := by decide +kernel
theorem dX3_figure_37 : decode cX3_figure 37 = .ok (.ixor, 1) := by decide +kernel
theorem dX3_figure_38 : decode cX3_figure 38 = .ok (.iand, 1) := by decide +kernel
theorem dX3_figure_39 : decode cX3_figure 39 = .ok (.invokestatic 28, 3) := by decide +kernel
theorem dX3_figure_42 : decode cX3_figure 42 = .ok (.ireturn, 1) := by decide +kernel
theorem dX3_figure_43 : decode cX3_figure 43 = .ok (.aload_n 0, 1) := by decide +kernel
theorem dX3_figure_44 : decode cX3_figure 44 = .ok (.getfield 56, 3) := by decide +kernel
theorem dX3_figure_47 : decode cX3_figure 47 = .ok (.invokestatic 28, 3) := by decide +kernel
theorem dX3_figure_50 : decode cX3_figure 50 = .ok (.ireturn, 1) := by decide +kernel
theorem dX3_figure_51 : decode cX3_figure 51 = .ok (.aload_n 0, 1) := by decide +kernel
theorem dX3_figure_52 : decode cX3_figure 52 = .ok (.getfield 59, 3) := by decide +kernel
theorem dX3_figure_55 : decode cX3_figure 55 = .ok (.invokestatic 28, 3) := by decide +kernel
theorem dX3_figure_58 : decode cX3_figure 58 = .ok (.ireturn, 1) := by decide +kernel
theorem dX3_figure_59 : decode cX3_figure 59 = .ok (.aload_n 0, 1) := by decide +kernel
theorem dX3_figure_60 : decode cX3_figure 60 = .ok (.getfield 19, 3) := by decide +kernel
theorem dX3_figure_63 : decode cX3_figure 63 = .ok (.ireturn, 1) := by decide +kernel
theorem dX3_fold_0 : decode cX3_fold 0 = .ok (.ldc2_w 76, 3) := by decide +kernel
theorem dX3_fold_3 : decode cX3_fold 3 = .ok (.lload_n 1, 1) := by decide +kernel
theorem dX3_fold_4 : decode cX3_fold 4 = .ok (.lmul, 1) := by decide +kernel
theorem dX3_fold_5 : decode cX3_fold 5 = .ok (.aload_n 0, 1) := by decide +kernel
theorem dX3_fold_6 : decode cX3_fold 6 = .ok (.getfield 15, 3) := by decide +kernel
theorem dX3_fold_9 : decode cX3_fold 9 = .ok (.i2l, 1) := by decide +kernel
theorem dX3_fold_10 : decode cX3_fold 10 = .ok (.ladd, 1) := by decide +kernel
theorem dX3_fold_11 : decode cX3_fold 11 = .ok (.lstore_n 1, 1) := by decide +kernel
theorem dX3_fold_12 : decode cX3_fold 12 = .ok (.ldc2_w 76, 3) := by decide +kernel
theorem dX3_fold_15 : decode cX3_fold 15 = .ok (.lload_n 1, 1) := by decide +kernel
theorem dX3_fold_16 : decode cX3_fold 16 = .ok (.lmul, 1) := by decide +kernel
theorem dX3_fold_17 : decode cX3_fold 17 = .ok (.aload_n 0, 1) := by decide +kernel
theorem dX3_fold_18 : decode cX3_fold 18 = .ok (.getfield 73, 3) := by decide +kernel
theorem dX3_fold_21 : decode cX3_fold 21 = .ok (.i2l, 1) := by decide +kernel
theorem dX3_fold_22 : decode cX3_fold 22 = .ok (.ladd, 1) := by decide +kernel
theorem dX3_fold_23 : decode cX3_fold 23 = .ok (.lstore_n 1, 1) := by decide +kernel
theorem dX3_fold_24 : decode cX3_fold 24 = .ok (.iconst 0, 1) := by decide +kernel
theorem dX3_fold_25 : decode cX3_fold 25 = .ok (.istore_n 3, 1) := by decide +kernel
theorem dX3_fold_26 : decode cX3_fold 26 = .ok (.iload_n 3, 1) := by decide +kernel
theorem dX3_fold_27 : decode cX3_fold 27 = .ok (.iconst 3, 1) := by decide +kernel
theorem dX3_fold_28 : decode cX3_fold 28 = .ok (.if_icmp .gt 22, 3) := by decide +kernel
theorem dX3_fold_31 : decode cX3_fold 31 = .ok (.ldc2_w 76, 3) := by decide +kernel
theorem dX3_fold_34 : decode cX3_fold 34 = .ok (.lload_n 1, 1) := by decide +kernel
theorem dX3_fold_35 : decode cX3_fold 35 = .ok (.lmul, 1) := by decide +kernel
theorem dX3_fold_36 : decode cX3_fold 36 = .ok (.aload_n 0, 1) := by decide +kernel
theorem dX3_fold_37 : decode cX3_fold 37 = .ok (.iload_n 3, 1) := by decide +kernel
theorem dX3_fold_38 : decode cX3_fold 38 = .ok (.invokevirtual 78, 3) := by decide +kernel
theorem dX3_fold_41 : decode cX3_fold 41 = .ok (.i2l, 1) := by decide +kernel
theorem dX3_fold_42 : decode cX3_fold 42 = .ok (.ladd, 1) := by decide +kernel
theorem dX3_fold_43 : decode cX3_fold 43 = .ok (.lstore_n 1, 1) := by decide +kernel
theorem dX3_fold_44 : decode cX3_fold 44 = .ok (.iinc 3 1, 3) := by decide +kernel
theorem dX3_fold_47 : decode cX3_fold 47 = .ok (.goto (-21), 3) := by decide +kernel
theorem dX3_fold_50 : decode cX3_fold 50 = .ok (.lload_n 1, 1) := by decide +kernel
theorem dX3_fold_51 : decode cX3_fold 51 = .ok (.lreturn, 1) := by decide +kernel
theorem dX4_init_0 : decode cX4_init 0 = .ok (.aload_n 0, 1) := by decide +kernel
theorem dX4_init_1 : decode cX4_init 1 = .ok (.invokespecial 3, 3) := by decide +kernel
theorem dX4_init_4 : decode cX4_init 4 = .ok (.aload_n 0, 1) := by decide +kernel
theorem dX4_init_5 : decode cX4_init 5 = .ok (.bipush 50, 2) := by decide +kernel
theorem dX4_init_7 : decode cX4_init 7 = .ok (.newarray .int, 2) := by decide +kernel
theorem dX4_init_9 : decode cX4_init 9 = .ok (.putfield 9, 3) := by decide +kernel
theorem dX4_init_12 : decode cX4_init 12 = .ok (.return_, 1) := by decide +kernel
theorem dX4_read_0 : decode cX4_read 0 = .ok (.aload_n 1, 1) := by decide +kernel
theorem dX4_read_1 : decode cX4_read 1 = .ok (.invokevirtual 15, 3) := by decide +kernel
theorem dX4_read_4 : decode cX4_read 4 = .ok (.aload_n 0, 1) := by decide +kernel
theorem dX4_read_5 : decode cX4_read 5 = .ok (.iconst 0, 1) := by decide +kernel
theorem dX4_read_6 : decode cX4_read 6 = .ok (.putfield 20, 3) := by decide +kernel
theorem dX4_read_9 : decode cX4_read 9 = .ok (.aload_n 0, 1) := by decide +kernel
theorem dX4_read_10 : decode cX4_read 10 = .ok (.iconst 0, 1) := by decide +kernel
theorem dX4_read_11 : decode cX4_read 11 = .ok (.putfield 24, 3) := by decide +kernel
theorem dX4_read_14 : decode cX4_read 14 = .ok (.aload_n 0, 1) := by decide +kernel
theorem dX4_read_15 : decode cX4_read 15 = .ok (.iconst 0, 1) := by decide +kernel
theorem dX4_read_16 : decode cX4_read 16 = .ok (.putfield 27, 3) := by decide +kernel
theorem dX4_read_19 : decode cX4_read 19 = .ok (.aload_n 0, 1) := by decide +kernel
theorem dX4_read_20 : decode cX4_read 20 = .ok (.iconst 1, 1) := by decide +kernel
theorem dX4_read_21 : decode cX4_read 21 = .ok (.putfield 30, 3) := by decide +kernel
theorem dX4_read_24 : decode cX4_read 24 = .ok (.iconst 0, 1) := by decide +kernel
theorem dX4_read_25 : decode cX4_read 25 = .ok (.istore_n 2, 1) := by decide +kernel
theorem dX4_read_26 : decode cX4_read 26 = .ok (.iload_n 2, 1) := by decide +kernel
theorem dX4_read_27 : decode cX4_read 27 = .ok (.aload_n 1, 1) := by decide +kernel
theorem dX4_read_28 : decode cX4_read 28 = .ok (.invokevirtual 34, 3) := by decide +kernel
theorem dX4_read_31 : decode cX4_read 31 = .ok (.if_icmp .ge 150, 3) := by decide +kernel
theorem dX4_read_34 : decode cX4_read 34 = .ok (.aload_n 1, 1) := by decide +kernel
theorem dX4_read_35 : decode cX4_read 35 = .ok (.iload_n 2, 1) := by decide +kernel
theorem dX4_read_36 : decode cX4_read 36 = .ok (.invokevirtual 38, 3) := by decide +kernel
theorem dX4_read_39 : decode cX4_read 39 = .ok (.istore_n 3, 1) := by decide +kernel
theorem dX4_read_40 : decode cX4_read 40 = .ok (.aload_n 0, 1) := by decide +kernel
theorem dX4_read_41 : decode cX4_read 41 = .ok (.getfield 30, 3) := by decide +kernel
theorem dX4_read_44 : decode cX4_read 44 = .ok (.ifCond .eq 61, 3) := by decide +kernel
theorem dX4_read_47 : decode cX4_read 47 = .ok (.iload_n 3, 1) := by decide +kernel
theorem dX4_read_48 : decode cX4_read 48 = .ok (.invokestatic 42, 3) := by decide +kernel
theorem dX4_read_51 : decode cX4_read 51 = .ok (.ifCond .eq 54, 3) := by decide +kernel
theorem dX4_read_54 : decode cX4_read 54 = .ok (.aload_n 1, 1) := by decide +kernel
theorem dX4_read_55 : decode cX4_read 55 = .ok (.iload_n 2, 1) := by decide +kernel
theorem dX4_read_56 : decode cX4_read 56 = .ok (.invokestatic 46, 3) := by decide +kernel
theorem dX4_read_59 : decode cX4_read 59 = .ok (.istore 4, 2) := by decide +kernel
theorem dX4_read_61 : decode cX4_read 61 = .ok (.iload 4, 2) := by decide +kernel
theorem dX4_read_63 : decode cX4_read 63 = .ok (.iload_n 2, 1) := by decide +kernel
theorem dX4_read_64 : decode cX4_read 64 = .ok (.isub, 1) := by decide +kernel
theorem dX4_read_65 : decode cX4_read 65 = .ok (.bipush 6, 2) := by decide +kernel
theorem dX4_read_67 : decode cX4_read 67 = .ok (.if_icmp .le 10, 3) := by decide +kernel
theorem dX4_read_70 : decode cX4_read 70 = .ok (.bipush 10, 2) := by decide +kernel
theorem dX4_read_72 : decode cX4_read 72 = .ok (.iload_n 2, 1) := by decide +kernel
theorem dX4_read_73 : decode cX4_read 73 = .ok (.imul, 1) := by decide +kernel
theorem dX4_read_74 : decode cX4_read 74 = .ok (.iconst 2, 1) := by decide +kernel
theorem dX4_read_75 : decode cX4_read 75 = .ok (.iadd, 1) := by decide +kernel
theorem dX4_read_76 : decode cX4_read 76 = .ok (.ireturn, 1) := by decide +kernel
theorem dX4_read_77 : decode cX4_read 77 = .ok (.aload_n 1, 1) := by decide +kernel
theorem dX4_read_78 : decode cX4_read 78 = .ok (.aload_n 1, 1) := by decide +kernel
theorem dX4_read_79 : decode cX4_read 79 = .ok (.iload_n 2, 1) := by decide +kernel
theorem dX4_read_80 : decode cX4_read 80 = .ok (.iload 4, 2) := by decide +kernel
theorem dX4_read_82 : decode cX4_read 82 = .ok (.invokestatic 50, 3) := by decide +kernel
theorem dX4_read_85 : decode cX4_read 85 = .ok (.invokevirtual 54, 3) := by decide +kernel
theorem dX4_read_88 : decode cX4_read 88 = .ok (.aload_n 0, 1) := by decide +kernel
theorem dX4_read_89 : decode cX4_read 89 = .ok (.iconst 0, 1) := by decide +kernel
theorem dX4_read_90 : decode cX4_read 90 = .ok (.putfield 30, 3) := by decide +kernel
theorem dX4_read_93 : decode cX4_read 93 = .ok (.iload_n 2, 1) := by decide +kernel
theorem dX4_read_94 : decode cX4_read 94 = .ok (.iload 4, 2) := by decide +kernel
theorem dX4_read_96 : decode cX4_read 96 = .ok (.iconst 1, 1) := by decide +kernel
theorem dX4_read_97 : decode cX4_read 97 = .ok (.isub, 1) := by decide +kernel
theorem dX4_read_98 : decode cX4_read 98 = .ok (.invokestatic 58, 3) := by decide +kernel
theorem dX4_read_101 : decode cX4_read 101 = .ok (.istore_n 2, 1) := by decide +kernel
theorem dX4_read_102 : decode cX4_read 102 = .ok (.goto 73, 3) := by decide +kernel
theorem dX4_read_105 : decode cX4_read 105 = .ok (.aload_n 0, 1) := by decide +kernel
theorem dX4_read_106 : decode cX4_read 106 = .ok (.getfield 30, 3) := by decide +kernel
theorem dX4_read_109 : decode cX4_read 109 = .ok (.ifCond .eq 25, 3) := by decide +kernel
theorem dX4_read_112 : decode cX4_read 112 = .ok (.iload_n 3, 1) := by decide +kernel
theorem dX4_read_113 : decode cX4_read 113 = .ok (.bipush 40, 2) := by decide +kernel
theorem dX4_read_115 : decode cX4_read 115 = .ok (.if_icmp .ne 19, 3) := by decide +kernel
theorem dX4_read_118 : decode cX4_read 118 = .ok (.aload_n 0, 1) := by decide +kernel
theorem dX4_read_119 : decode cX4_read 119 = .ok (.getfield 24, 3) := by decide +kernel
theorem dX4_read_122 : decode cX4_read 122 = .ok (.bipush 8, 2) := by decide +kernel
theorem dX4_read_124 : decode cX4_read 124 = .ok (.if_icmp .lt 10, 3) := by decide +kernel
theorem dX4_read_127 : decode cX4_read 127 = .ok (.bipush 10, 2) := by decide +kernel
theorem dX4_read_129 : decode cX4_read 129 = .ok (.iload_n 2, 1) := by decide +kernel
theorem dX4_read_130 : decode cX4_read 130 = .ok (.imul, 1) := by decide +kernel
theorem dX4_read_131 : decode cX4_read 131 = .ok (.iconst 3, 1) := by decide +kernel
theorem dX4_read_132 : decode cX4_read 132 = .ok (.iadd, 1) := by decide +kernel
theorem dX4_read_133 : decode cX4_read 133 = .ok (.ireturn, 1) := by decide +kernel
theorem dX4_read_134 : decode cX4_read 134 = .ok (.iload_n 3, 1) := by decide +kernel
theorem dX4_read_135 : decode cX4_read 135 = .ok (.bipush 32, 2) := by decide +kernel
theorem dX4_read_137 : decode cX4_read 137 = .ok (.if_icmp .eq 38, 3) := by decide +kernel
theorem dX4_read_140 : decode cX4_read 140 = .ok (.aload_n 0, 1) := by decide +kernel
theorem dX4_read_141 : decode cX4_read 141 = .ok (.getfield 30, 3) := by decide +kernel
theorem dX4_read_144 : decode cX4_read 144 = .ok (.ifCond .eq 15, 3) := by decide +kernel
theorem dX4_read_147 : decode cX4_read 147 = .ok (.aload_n 0, 1) := by decide +kernel
theorem dX4_read_148 : decode cX4_read 148 = .ok (.aload_n 1, 1) := by decide +kernel
theorem dX4_read_149 : decode cX4_read 149 = .ok (.iload_n 3, 1) := by decide +kernel
theorem dX4_read_150 : decode cX4_read 150 = .ok (.invokevirtual 64, 3) := by decide +kernel
theorem dX4_read_153 : decode cX4_read 153 = .ok (.ifCond .eq 15, 3) := by decide +kernel
theorem dX4_read_156 : decode cX4_read 156 = .ok (.goto 19, 3) := by decide +kernel
theorem dX4_read_159 : decode cX4_read 159 = .ok (.aload_n 0, 1) := by decide +kernel
theorem dX4_read_160 : decode cX4_read 160 = .ok (.aload_n 1, 1) := by decide +kernel
theorem dX4_read_161 : decode cX4_read 161 = .ok (.iload_n 3, 1) := by decide +kernel
theorem dX4_read_162 : decode cX4_read 162 = .ok (.invokevirtual 68, 3) := by decide +kernel
theorem dX4_read_165 : decode cX4_read 165 = .ok (.ifCond .ne 10, 3) := by decide +kernel
theorem dX4_read_168 : decode cX4_read 168 = .ok (.bipush 10, 2) := by decide +kernel
theorem dX4_read_170 : decode cX4_read 170 = .ok (.iload_n 2, 1) := by decide +kernel
theorem dX4_read_171 : decode cX4_read 171 = .ok (.imul, 1) := by decide +kernel
theorem dX4_read_172 : decode cX4_read 172 = .ok (.iconst 1, 1) := by decide +kernel
theorem dX4_read_173 : decode cX4_read 173 = .ok (.iadd, 1) := by decide +kernel
theorem dX4_read_174 : decode cX4_read 174 = .ok (.ireturn, 1) := by decide +kernel
theorem dX4_read_175 : decode cX4_read 175 = .ok (.iinc 2 1, 3) := by decide +kernel
theorem dX4_read_178 : decode cX4_read 178 = .ok (.goto (-152), 3) := by decide +kernel
theorem dX4_read_181 : decode cX4_read 181 = .ok (.aload_n 0, 1) := by decide +kernel
theorem dX4_read_182 : decode cX4_read 182 = .ok (.getfield 30, 3) := by decide +kernel
theorem dX4_read_185 : decode cX4_read 185 = .ok (.ifCond .ne 10, 3) := by decide +kernel
theorem dX4_read_188 : decode cX4_read 188 = .ok (.aload_n 0, 1) := by decide +kernel
theorem dX4_read_189 : decode cX4_read 189 = .ok (.getfield 24, 3) := by decide +kernel
theorem dX4_read_192 : decode cX4_read 192 = .ok (.ifCond .le 13, 3) := by decide +kernel
theorem dX4_read_195 : decode cX4_read 195 = .ok (.bipush 10, 2) := by decide +kernel
theorem dX4_read_197 : decode cX4_read 197 = .ok (.aload_n 1, 1) := by decide +kernel
theorem dX4_read_198 : decode cX4_read 198 = .ok (.invokevirtual 34, 3) := by decide +kernel
theorem dX4_read_201 : decode cX4_read 201 = .ok (.imul, 1) := by decide +kernel
theorem dX4_read_202 : decode cX4_read 202 = .ok (.iconst 1, 1) := by decide +kernel
theorem dX4_read_203 : decode cX4_read 203 = .ok (.iadd, 1) := by decide +kernel
theorem dX4_read_204 : decode cX4_read 204 = .ok (.ireturn, 1) := by decide +kernel
theorem dX4_read_205 : decode cX4_read 205 = .ok (.aload_n 0, 1) := by decide +kernel
theorem dX4_read_206 : decode cX4_read 206 = .ok (.aload_n 1, 1) := by decide +kernel
theorem dX4_read_207 : decode cX4_read 207 = .ok (.iconst 1, 1) := by decide +kernel
theorem dX4_read_208 : decode cX4_read 208 = .ok (.invokevirtual 73, 3) := by decide +kernel
theorem dX4_read_211 : decode cX4_read 211 = .ok (.iconst (-1), 1) := by decide +kernel
theorem dX4_read_212 : decode cX4_read 212 = .ok (.ireturn, 1) := by decide +kernel
theorem dX4_isDigit_0 : decode cX4_isDigit 0 = .ok (.iload_n 0, 1) := by decide +kernel
theorem dX4_isDigit_1 : decode cX4_isDigit 1 = .ok (.bipush 48, 2) := by decide +kernel
theorem dX4_isDigit_3 : decode cX4_isDigit 3 = .ok (.if_icmp .lt 13, 3) := by decide +kernel
theorem dX4_isDigit_6 : decode cX4_isDigit 6 = .ok (.iload_n 0, 1) := by decide +kernel
theorem dX4_isDigit_7 : decode cX4_isDigit 7 = .ok (.bipush 57, 2) := by decide +kernel
theorem dX4_isDigit_9 : decode cX4_isDigit 9 = .ok (.if_icmp .gt 7, 3) := by decide +kernel
theorem dX4_isDigit_12 : decode cX4_isDigit 12 = .ok (.iconst 1, 1) := by decide +kernel
theorem dX4_isDigit_13 : decode cX4_isDigit 13 = .ok (.goto 4, 3) := by decide +kernel
theorem dX4_isDigit_16 : decode cX4_isDigit 16 = .ok (.iconst 0, 1) := by decide +kernel
theorem dX4_isDigit_17 : decode cX4_isDigit 17 = .ok (.ireturn, 1) := by decide +kernel
theorem dX4_digitsEnd_0 : decode cX4_digitsEnd 0 = .ok (.iload_n 1, 1) := by decide +kernel
theorem dX4_digitsEnd_1 : decode cX4_digitsEnd 1 = .ok (.istore_n 2, 1) := by decide +kernel
theorem dX4_digitsEnd_2 : decode cX4_digitsEnd 2 = .ok (.iload_n 2, 1) := by decide +kernel
theorem dX4_digitsEnd_3 : decode cX4_digitsEnd 3 = .ok (.aload_n 0, 1) := by decide +kernel
theorem dX4_digitsEnd_4 : decode cX4_digitsEnd 4 = .ok (.invokevirtual 34, 3) := by decide +kernel
theorem dX4_digitsEnd_7 : decode cX4_digitsEnd 7 = .ok (.if_icmp .ge 20, 3) := by decide +kernel
theorem dX4_digitsEnd_10 : decode cX4_digitsEnd 10 = .ok (.aload_n 0, 1) := by decide +kernel
theorem dX4_digitsEnd_11 : decode cX4_digitsEnd 11 = .ok (.iload_n 2, 1) := by decide +kernel
theorem dX4_digitsEnd_12 : decode cX4_digitsEnd 12 = .ok (.invokevirtual 38, 3) := by decide +kernel
theorem dX4_digitsEnd_15 : decode cX4_digitsEnd 15 = .ok (.invokestatic 42, 3) := by decide +kernel
theorem dX4_digitsEnd_18 : decode cX4_digitsEnd 18 = .ok (.ifCond .eq 9, 3) := by decide +kernel
theorem dX4_digitsEnd_21 : decode cX4_digitsEnd 21 = .ok (.iinc 2 1, 3) := by decide +kernel
theorem dX4_digitsEnd_24 : decode cX4_digitsEnd 24 = .ok (.goto (-22), 3) := by decide +kernel
theorem dX4_digitsEnd_27 : decode cX4_digitsEnd 27 = .ok (.iload_n 2, 1) := by decide +kernel
theorem dX4_digitsEnd_28 : decode cX4_digitsEnd 28 = .ok (.ireturn, 1) := by decide +kernel
theorem dX4_numberIn_0 : decode cX4_numberIn 0 = .ok (.iconst 0, 1) := by decide +kernel
theorem dX4_numberIn_1 : decode cX4_numberIn 1 = .ok (.istore_n 3, 1) := by decide +kernel
theorem dX4_numberIn_2 : decode cX4_numberIn 2 = .ok (.iload_n 1, 1) := by decide +kernel
theorem dX4_numberIn_3 : decode cX4_numberIn 3 = .ok (.istore 4, 2) := by decide +kernel
theorem dX4_numberIn_5 : decode cX4_numberIn 5 = .ok (.iload 4, 2) := by decide +kernel
theorem dX4_numberIn_7 : decode cX4_numberIn 7 = .ok (.iload_n 2, 1) := by decide +kernel
theorem dX4_numberIn_8 : decode cX4_numberIn 8 = .ok (.if_icmp .ge 24, 3) := by decide +kernel
theorem dX4_numberIn_11 : decode cX4_numberIn 11 = .ok (.bipush 10, 2) := by decide +kernel
theorem dX4_numberIn_13 : decode cX4_numberIn 13 = .ok (.iload_n 3, 1) := by decide +kernel
theorem dX4_numberIn_14 : decode cX4_numberIn 14 = .ok (.imul, 1) := by decide +kernel
theorem dX4_numberIn_15 : decode cX4_numberIn 15 = .ok (.aload_n 0, 1) := by decide +kernel
theorem dX4_numberIn_16 : decode cX4_numberIn 16 = .ok (.iload 4, 2) := by decide +kernel
theorem dX4_numberIn_18 : decode cX4_numberIn 18 = .ok (.invokevirtual 38, 3) := by decide +kernel
theorem dX4_numberIn_21 : decode cX4_numberIn 21 = .ok (.iadd, 1) := by decide +kernel
theorem dX4_numberIn_22 : decode cX4_numberIn 22 = .ok (.bipush 48, 2) := by decide +kernel
theorem dX4_numberIn_24 : decode cX4_numberIn 24 = .ok (.isub, 1) := by decide +kernel
theorem dX4_numberIn_25 : decode cX4_numberIn 25 = .ok (.istore_n 3, 1) := by decide +kernel
theorem dX4_numberIn_26 : decode cX4_numberIn 26 = .ok (.iinc 4 1, 3) := by decide +kernel
theorem dX4_numberIn_29 : decode cX4_numberIn 29 = .ok (.goto (-24), 3) := by decide +kernel
theorem dX4_numberIn_32 : decode cX4_numberIn 32 = .ok (.iload_n 3, 1) := by decide +kernel
theorem dX4_numberIn_33 : decode cX4_numberIn 33 = .ok (.ireturn, 1) := by decide +kernel
theorem dX4_startsUnit_0 : decode cX4_startsUnit 0 = .ok (.iload_n 2, 1) := by decide +kernel
theorem dX4_startsUnit_1 : decode cX4_startsUnit 1 = .ok (.lookupswitch 145 #[(33, 130), (40, 96), (45, 137), (97, 83), (108, 83), (112, 83), (115, 83), (116, 83), (121, 83)], 83) := by decide +kernel
theorem dX4_startsUnit_84 : decode cX4_startsUnit 84 = .ok (.aload_n 1, 1) := by decide +kernel
theorem dX4_startsUnit_85 : decode cX4_startsUnit 85 = .ok (.iload_n 2, 1) := by decide +kernel
theorem dX4_startsUnit_86 : decode cX4_startsUnit 86 = .ok (.ineg, 1) := by decide +kernel
theorem dX4_startsUnit_87 : decode cX4_startsUnit 87 = .ok (.invokevirtual 54, 3) := by decide +kernel
theorem dX4_startsUnit_90 : decode cX4_startsUnit 90 = .ok (.aload_n 0, 1) := by decide +kernel
theorem dX4_startsUnit_91 : decode cX4_startsUnit 91 = .ok (.iconst 0, 1) := by decide +kernel
theorem dX4_startsUnit_92 : decode cX4_startsUnit 92 = .ok (.putfield 30, 3) := by decide +kernel
theorem dX4_startsUnit_95 : decode cX4_startsUnit 95 = .ok (.iconst 1, 1) := by decide +kernel
theorem dX4_startsUnit_96 : decode cX4_startsUnit 96 = .ok (.ireturn, 1) := by decide +kernel
theorem dX4_startsUnit_97 : decode cX4_startsUnit 97 = .ok (.aload_n 0, 1) := by decide +kernel
theorem dX4_startsUnit_98 : decode cX4_startsUnit 98 = .ok (.dup, 1) := by decide +kernel
theorem dX4_startsUnit_99 : decode cX4_startsUnit 99 = .ok (.getfield 24, 3) := by decide +kernel
theorem dX4_startsUnit_102 : decode cX4_startsUnit 102 = .ok (.iconst 1, 1) := by decide +kernel
theorem dX4_startsUnit_103 : decode cX4_startsUnit 103 = .ok (.iadd, 1) := by decide +kernel
theorem dX4_startsUnit_104 : decode cX4_startsUnit 104 = .ok (.putfield 24, 3) := by decide +kernel
theorem dX4_startsUnit_107 : decode cX4_startsUnit 107 = .ok (.aload_n 0, 1) := by decide +kernel
theorem dX4_startsUnit_108 : decode cX4_startsUnit 108 = .ok (.dup, 1) := by decide +kernel
theorem dX4_startsUnit_109 : decode cX4_startsUnit 109 = .ok (.getfield 27, 3) := by decide +kernel
theorem dX4_startsUnit_112 : decode cX4_startsUnit 112 = .ok (.iconst 1, 1) := by decide +kernel
theorem dX4_startsUnit_113 : decode cX4_startsUnit 113 = .ok (.aload_n 0, 1) := by decide +kernel
theorem dX4_startsUnit_114 : decode cX4_startsUnit 114 = .ok (.getfield 24, 3) := by decide +kernel
theorem dX4_startsUnit_117 : decode cX4_startsUnit 117 = .ok (.ishl, 1) := by decide +kernel
theorem dX4_startsUnit_118 : decode cX4_startsUnit 118 = .ok (.iconst (-1), 1) := by decide +kernel
theorem dX4_startsUnit_119 : decode cX4_startsUnit 119 = .ok (.ixor, 1) := by decide +kernel
theorem dX4_startsUnit_120 : decode cX4_startsUnit 120 = .ok (.iand, 1) := by decide +kernel
theorem dX4_startsUnit_121 : decode cX4_startsUnit 121 = .ok (.putfield 27, 3) := by decide +kernel
theorem dX4_startsUnit_124 : decode cX4_startsUnit 124 = .ok (.aload_n 0, 1) := by decide +kernel
theorem dX4_startsUnit_125 : decode cX4_startsUnit 125 = .ok (.iload_n 2, 1) := by decide +kernel
theorem dX4_startsUnit_126 : decode cX4_startsUnit 126 = .ok (.invokevirtual 77, 3) := by decide +kernel
theorem dX4_startsUnit_129 : decode cX4_startsUnit 129 = .ok (.iconst 1, 1) := by decide +kernel
theorem dX4_startsUnit_130 : decode cX4_startsUnit 130 = .ok (.ireturn, 1) := by decide +kernel
theorem dX4_startsUnit_131 : decode cX4_startsUnit 131 = .ok (.aload_n 0, 1) := by decide +kernel
theorem dX4_startsUnit_132 : decode cX4_startsUnit 132 = .ok (.iload_n 2, 1) := by decide +kernel
theorem dX4_startsUnit_133 : decode cX4_startsUnit 133 = .ok (.invokevirtual 77, 3) := by decide +kernel
theorem dX4_startsUnit_136 : decode cX4_startsUnit 136 = .ok (.iconst 1, 1) := by decide +kernel
theorem dX4_startsUnit_137 : decode cX4_startsUnit 137 = .ok (.ireturn, 1) := by decide +kernel
theorem dX4_startsUnit_138 : decode cX4_startsUnit 138 = .ok (.aload_n 0, 1) := by decide +kernel
theorem dX4_startsUnit_139 : decode cX4_startsUnit 139 = .ok (.bipush 126, 2) := by decide +kernel
theorem dX4_startsUnit_141 : decode cX4_startsUnit 141 = .ok (.invokevirtual 77, 3) := by decide +kernel
theorem dX4_startsUnit_144 : decode cX4_startsUnit 144 = .ok (.iconst 1, 1) := by decide +kernel
theorem dX4_startsUnit_145 : decode cX4_startsUnit 145 = .ok (.ireturn, 1) := by decide +kernel
theorem dX4_startsUnit_146 : decode cX4_startsUnit 146 = .ok (.iconst 0, 1) := by decide +kernel
theorem dX4_startsUnit_147 : decode cX4_startsUnit 147 = .ok (.ireturn, 1) := by decide +kernel
theorem dX4_goesOn_0 : decode cX4_goesOn 0 = .ok (.iload_n 2, 1) := by decide +kernel
theorem dX4_goesOn_1 : decode cX4_goesOn 1 = .ok (.bipush 41, 2) := by decide +kernel
theorem dX4_goesOn_3 : decode cX4_goesOn 3 = .ok (.if_icmp .ne 9, 3) := by decide +kernel
theorem dX4_goesOn_6 : decode cX4_goesOn 6 = .ok (.aload_n 0, 1) := by decide +kernel
theorem dX4_goesOn_7 : decode cX4_goesOn 7 = .ok (.aload_n 1, 1) := by decide +kernel
theorem dX4_goesOn_8 : decode cX4_goesOn 8 = .ok (.invokevirtual 80, 3) := by decide +kernel
theorem dX4_goesOn_11 : decode cX4_goesOn 11 = .ok (.ireturn, 1) := by decide +kernel
theorem dX4_goesOn_12 : decode cX4_goesOn 12 = .ok (.iload_n 2, 1) := by decide +kernel
theorem dX4_goesOn_13 : decode cX4_goesOn 13 = .ok (.invokestatic 84, 3) := by decide +kernel
theorem dX4_goesOn_16 : decode cX4_goesOn 16 = .ok (.istore_n 3, 1) := by decide +kernel
theorem dX4_goesOn_17 : decode cX4_goesOn 17 = .ok (.iload_n 3, 1) := by decide +kernel
theorem dX4_goesOn_18 : decode cX4_goesOn 18 = .ok (.iconst 3, 1) := by decide +kernel
theorem dX4_goesOn_19 : decode cX4_goesOn 19 = .ok (.if_icmp .ne 21, 3) := by decide +kernel
theorem dX4_goesOn_22 : decode cX4_goesOn 22 = .ok (.aload_n 0, 1) := by decide +kernel
theorem dX4_goesOn_23 : decode cX4_goesOn 23 = .ok (.getfield 27, 3) := by decide +kernel
theorem dX4_goesOn_26 : decode cX4_goesOn 26 = .ok (.aload_n 0, 1) := by decide +kernel
theorem dX4_goesOn_27 : decode cX4_goesOn 27 = .ok (.getfield 24, 3) := by decide +kernel
theorem dX4_goesOn_30 : decode cX4_goesOn 30 = .ok (.invokestatic 87, 3) := by decide +kernel
theorem dX4_goesOn_33 : decode cX4_goesOn 33 = .ok (.ifCond .eq 7, 3) := by decide +kernel
theorem dX4_goesOn_36 : decode cX4_goesOn 36 = .ok (.iconst 1, 1) := by decide +kernel
theorem dX4_goesOn_37 : decode cX4_goesOn 37 = .ok (.goto 4, 3) := by decide +kernel
theorem dX4_goesOn_40 : decode cX4_goesOn 40 = .ok (.iconst 0, 1) := by decide +kernel
theorem dX4_goesOn_41 : decode cX4_goesOn 41 = .ok (.istore 4, 2) := by decide +kernel
theorem dX4_goesOn_43 : decode cX4_goesOn 43 = .ok (.iload_n 3, 1) := by decide +kernel
theorem dX4_goesOn_44 : decode cX4_goesOn 44 = .ok (.ifCond .eq 14, 3) := by decide +kernel
theorem dX4_goesOn_47 : decode cX4_goesOn 47 = .ok (.iload_n 3, 1) := by decide +kernel
theorem dX4_goesOn_48 : decode cX4_goesOn 48 = .ok (.bipush 6, 2) := by decide +kernel
theorem dX4_goesOn_50 : decode cX4_goesOn 50 = .ok (.if_icmp .eq 8, 3) := by decide +kernel
theorem dX4_goesOn_53 : decode cX4_goesOn 53 = .ok (.iload 4, 2) := by decide +kernel
theorem dX4_goesOn_55 : decode cX4_goesOn 55 = .ok (.ifCond .eq 5, 3) := by decide +kernel
theorem dX4_goesOn_58 : decode cX4_goesOn 58 = .ok (.iconst 0, 1) := by decide +kernel
theorem dX4_goesOn_59 : decode cX4_goesOn 59 = .ok (.ireturn, 1) := by decide +kernel
theorem dX4_goesOn_60 : decode cX4_goesOn 60 = .ok (.iload_n 3, 1) := by decide +kernel
theorem dX4_goesOn_61 : decode cX4_goesOn 61 = .ok (.iconst 3, 1) := by decide +kernel
theorem dX4_goesOn_62 : decode cX4_goesOn 62 = .ok (.if_icmp .ne 21, 3) := by decide +kernel
theorem dX4_goesOn_65 : decode cX4_goesOn 65 = .ok (.aload_n 0, 1) := by decide +kernel
theorem dX4_goesOn_66 : decode cX4_goesOn 66 = .ok (.dup, 1) := by decide +kernel
theorem dX4_goesOn_67 : decode cX4_goesOn 67 = .ok (.getfield 27, 3) := by decide +kernel
theorem dX4_goesOn_70 : decode cX4_goesOn 70 = .ok (.iconst 1, 1) := by decide +kernel
theorem dX4_goesOn_71 : decode cX4_goesOn 71 = .ok (.aload_n 0, 1) := by decide +kernel
theorem dX4_goesOn_72 : decode cX4_goesOn 72 = .ok (.getfield 24, 3) := by decide +kernel
theorem dX4_goesOn_75 : decode cX4_goesOn 75 = .ok (.ishl, 1) := by decide +kernel
theorem dX4_goesOn_76 : decode cX4_goesOn 76 = .ok (.ior, 1) := by decide +kernel
theorem dX4_goesOn_77 : decode cX4_goesOn 77 = .ok (.putfield 27, 3) := by decide +kernel
theorem dX4_goesOn_80 : decode cX4_goesOn 80 = .ok (.goto 25, 3) := by decide +kernel
theorem dX4_goesOn_83 : decode cX4_goesOn 83 = .ok (.iload_n 3, 1) := by decide +kernel
theorem dX4_goesOn_84 : decode cX4_goesOn 84 = .ok (.iconst 3, 1) := by decide +kernel
theorem dX4_goesOn_85 : decode cX4_goesOn 85 = .ok (.if_icmp .ge 20, 3) := by decide +kernel
theorem dX4_goesOn_88 : decode cX4_goesOn 88 = .ok (.aload_n 0, 1) := by decide +kernel
theorem dX4_goesOn_89 : decode cX4_goesOn 89 = .ok (.dup, 1) := by decide +kernel
theorem dX4_goesOn_90 : decode cX4_goesOn 90 = .ok (.getfield 27, 3) := by decide +kernel
theorem dX4_goesOn_93 : decode cX4_goesOn 93 = .ok (.iconst 1, 1) := by decide +kernel
theorem dX4_goesOn_94 : decode cX4_goesOn 94 = .ok (.aload_n 0, 1) := by decide +kernel
theorem dX4_goesOn_95 : decode cX4_goesOn 95 = .ok (.getfield 24, 3) := by decide +kernel
theorem dX4_goesOn_98 : decode cX4_goesOn 98 = .ok (.ishl, 1) := by decide +kernel
theorem dX4_goesOn_99 : decode cX4_goesOn 99 = .ok (.iconst (-1), 1) := by decide +kernel
theorem dX4_goesOn_100 : decode cX4_goesOn 100 = .ok (.ixor, 1) := by decide +kernel
theorem dX4_goesOn_101 : decode cX4_goesOn 101 = .ok (.iand, 1) := by decide +kernel
theorem dX4_goesOn_102 : decode cX4_goesOn 102 = .ok (.putfield 27, 3) := by decide +kernel
theorem dX4_goesOn_105 : decode cX4_goesOn 105 = .ok (.aload_n 0, 1) := by decide +kernel
theorem dX4_goesOn_106 : decode cX4_goesOn 106 = .ok (.aload_n 1, 1) := by decide +kernel
theorem dX4_goesOn_107 : decode cX4_goesOn 107 = .ok (.iload_n 3, 1) := by decide +kernel
theorem dX4_goesOn_108 : decode cX4_goesOn 108 = .ok (.invokevirtual 73, 3) := by decide +kernel
theorem dX4_goesOn_111 : decode cX4_goesOn 111 = .ok (.aload_n 0, 1) := by decide +kernel
theorem dX4_goesOn_112 : decode cX4_goesOn 112 = .ok (.iload_n 2, 1) := by decide +kernel
theorem dX4_goesOn_113 : decode cX4_goesOn 113 = .ok (.invokevirtual 77, 3) := by decide +kernel
theorem dX4_goesOn_116 : decode cX4_goesOn 116 = .ok (.aload_n 0, 1) := by decide +kernel
theorem dX4_goesOn_117 : decode cX4_goesOn 117 = .ok (.iconst 1, 1) := by decide +kernel
theorem dX4_goesOn_118 : decode cX4_goesOn 118 = .ok (.putfield 30, 3) := by decide +kernel
theorem dX4_goesOn_121 : decode cX4_goesOn 121 = .ok (.iconst 1, 1) := by decide +kernel
theorem dX4_goesOn_122 : decode cX4_goesOn 122 = .ok (.ireturn, 1) := by decide +kernel
theorem dX4_closes_0 : decode cX4_closes 0 = .ok (.aload_n 0, 1) := by decide +kernel
theorem dX4_closes_1 : decode cX4_closes 1 = .ok (.getfield 24, 3) := by decide +kernel
theorem dX4_closes_4 : decode cX4_closes 4 = .ok (.ifCond .ne 5, 3) := by decide +kernel
theorem dX4_closes_7 : decode cX4_closes 7 = .ok (.iconst 0, 1) := by decide +kernel
theorem dX4_closes_8 : decode cX4_closes 8 = .ok (.ireturn, 1) := by decide +kernel
theorem dX4_closes_9 : decode cX4_closes 9 = .ok (.aload_n 0, 1) := by decide +kernel
theorem dX4_closes_10 : decode cX4_closes 10 = .ok (.dup, 1) := by decide +kernel
theorem dX4_closes_11 : decode cX4_closes 11 = .ok (.getfield 24, 3) := by decide +kernel
theorem dX4_closes_14 : decode cX4_closes 14 = .ok (.iconst 1, 1) := by decide +kernel
theorem dX4_closes_15 : decode cX4_closes 15 = .ok (.isub, 1) := by decide +kernel
theorem dX4_closes_16 : decode cX4_closes 16 = .ok (.putfield 24, 3) := by decide +kernel
theorem dX4_closes_19 : decode cX4_closes 19 = .ok (.aload_n 0, 1) := by decide +kernel
theorem dX4_closes_20 : decode cX4_closes 20 = .ok (.aload_n 1, 1) := by decide +kernel
theorem dX4_closes_21 : decode cX4_closes 21 = .ok (.iconst 1, 1) := by decide +kernel
theorem dX4_closes_22 : decode cX4_closes 22 = .ok (.invokevirtual 73, 3) := by decide +kernel
theorem dX4_closes_25 : decode cX4_closes 25 = .ok (.aload_n 0, 1) := by decide +kernel
theorem dX4_closes_26 : decode cX4_closes 26 = .ok (.iconst 0, 1) := by decide +kernel
theorem dX4_closes_27 : decode cX4_closes 27 = .ok (.aload_n 0, 1) := by decide +kernel
theorem dX4_closes_28 : decode cX4_closes 28 = .ok (.getfield 20, 3) := by decide +kernel
theorem dX4_closes_31 : decode cX4_closes 31 = .ok (.iconst 1, 1) := by decide +kernel
theorem dX4_closes_32 : decode cX4_closes 32 = .ok (.isub, 1) := by decide +kernel
theorem dX4_closes_33 : decode cX4_closes 33 = .ok (.invokestatic 58, 3) := by decide +kernel
theorem dX4_closes_36 : decode cX4_closes 36 = .ok (.putfield 20, 3) := by decide +kernel
theorem dX4_closes_39 : decode cX4_closes 39 = .ok (.iconst 1, 1) := by decide +kernel
theorem dX4_closes_40 : decode cX4_closes 40 = .ok (.ireturn, 1) := by decide +kernel
theorem dX4_hold_0 : decode cX4_hold 0 = .ok (.aload_n 0, 1) := by decide +kernel
theorem dX4_hold_1 : decode cX4_hold 1 = .ok (.getfield 20, 3) := by decide +kernel
theorem dX4_hold_4 : decode cX4_hold 4 = .ok (.bipush 50, 2) := by decide +kernel
theorem dX4_hold_6 : decode cX4_hold 6 = .ok (.if_icmp .ge 23, 3) := by decide +kernel
theorem dX4_hold_9 : decode cX4_hold 9 = .ok (.aload_n 0, 1) := by decide +kernel
theorem dX4_hold_10 : decode cX4_hold 10 = .ok (.getfield 9, 3) := by decide +kernel
theorem dX4_hold_13 : decode cX4_hold 13 = .ok (.aload_n 0, 1) := by decide +kernel
theorem dX4_hold_14 : decode cX4_hold 14 = .ok (.getfield 20, 3) := by decide +kernel
theorem dX4_hold_17 : decode cX4_hold 17 = .ok (.iload_n 1, 1) := by decide +kernel
theorem dX4_hold_18 : decode cX4_hold 18 = .ok (.iastore, 1) := by decide +kernel
theorem dX4_hold_19 : decode cX4_hold 19 = .ok (.aload_n 0, 1) := by decide +kernel
theorem dX4_hold_20 : decode cX4_hold 20 = .ok (.dup, 1) := by decide +kernel
theorem dX4_hold_21 : decode cX4_hold 21 = .ok (.getfield 20, 3) := by decide +kernel
theorem dX4_hold_24 : decode cX4_hold 24 = .ok (.iconst 1, 1) := by decide +kernel
theorem dX4_hold_25 : decode cX4_hold 25 = .ok (.iadd, 1) := by decide +kernel
theorem dX4_hold_26 : decode cX4_hold 26 = .ok (.putfield 20, 3) := by decide +kernel
theorem dX4_hold_29 : decode cX4_hold 29 = .ok (.return_, 1) := by decide +kernel
theorem dX4_release_0 : decode cX4_release 0 = .ok (.aload_n 0, 1) := by decide +kernel
theorem dX4_release_1 : decode cX4_release 1 = .ok (.getfield 20, 3) := by decide +kernel
theorem dX4_release_4 : decode cX4_release 4 = .ok (.ifCond .le 48, 3) := by decide +kernel
theorem dX4_release_7 : decode cX4_release 7 = .ok (.aload_n 0, 1) := by decide +kernel
theorem dX4_release_8 : decode cX4_release 8 = .ok (.getfield 9, 3) := by decide +kernel
theorem dX4_release_11 : decode cX4_release 11 = .ok (.aload_n 0, 1) := by decide +kernel
theorem dX4_release_12 : decode cX4_release 12 = .ok (.getfield 20, 3) := by decide +kernel
theorem dX4_release_15 : decode cX4_release 15 = .ok (.iconst 1, 1) := by decide +kernel
theorem dX4_release_16 : decode cX4_release 16 = .ok (.isub, 1) := by decide +kernel
theorem dX4_release_17 : decode cX4_release 17 = .ok (.iaload, 1) := by decide +kernel
theorem dX4_release_18 : decode cX4_release 18 = .ok (.invokestatic 84, 3) := by decide +kernel
theorem dX4_release_21 : decode cX4_release 21 = .ok (.iload_n 2, 1) := by decide +kernel
theorem dX4_release_22 : decode cX4_release 22 = .ok (.if_icmp .lt 30, 3) := by decide +kernel
theorem dX4_release_25 : decode cX4_release 25 = .ok (.aload_n 0, 1) := by decide +kernel
theorem dX4_release_26 : decode cX4_release 26 = .ok (.dup, 1) := by decide +kernel
theorem dX4_release_27 : decode cX4_release 27 = .ok (.getfield 20, 3) := by decide +kernel
theorem dX4_release_30 : decode cX4_release 30 = .ok (.iconst 1, 1) := by decide +kernel
theorem dX4_release_31 : decode cX4_release 31 = .ok (.isub, 1) := by decide +kernel
theorem dX4_release_32 : decode cX4_release 32 = .ok (.putfield 20, 3) := by decide +kernel
theorem dX4_release_35 : decode cX4_release 35 = .ok (.aload_n 1, 1) := by decide +kernel
theorem dX4_release_36 : decode cX4_release 36 = .ok (.aload_n 0, 1) := by decide +kernel
theorem dX4_release_37 : decode cX4_release 37 = .ok (.getfield 9, 3) := by decide +kernel
theorem dX4_release_40 : decode cX4_release 40 = .ok (.aload_n 0, 1) := by decide +kernel
theorem dX4_release_41 : decode cX4_release 41 = .ok (.getfield 20, 3) := by decide +kernel
theorem dX4_release_44 : decode cX4_release 44 = .ok (.iaload, 1) := by decide +kernel
theorem dX4_release_45 : decode cX4_release 45 = .ok (.ineg, 1) := by decide +kernel
theorem dX4_release_46 : decode cX4_release 46 = .ok (.invokevirtual 54, 3) := by decide +kernel
theorem dX4_release_49 : decode cX4_release 49 = .ok (.goto (-49), 3) := by decide +kernel
theorem dX4_release_52 : decode cX4_release 52 = .ok (.return_, 1) := by decide +kernel
theorem dX5_init_0 : decode cX5_init 0 = .ok (.aload_n 0, 1) := by decide +kernel
theorem dX5_init_1 : decode cX5_init 1 = .ok (.invokespecial 3, 3) := by decide +kernel
theorem dX5_init_4 : decode cX5_init 4 = .ok (.aload_n 0, 1) := by decide +kernel
theorem dX5_init_5 : decode cX5_init 5 = .ok (.iload_n 1, 1) := by decide +kernel
theorem dX5_init_6 : decode cX5_init 6 = .ok (.putfield 9, 3) := by decide +kernel
theorem dX5_init_9 : decode cX5_init 9 = .ok (.aload_n 0, 1) := by decide +kernel
theorem dX5_init_10 : decode cX5_init 10 = .ok (.iload_n 2, 1) := by decide +kernel
theorem dX5_init_11 : decode cX5_init 11 = .ok (.putfield 15, 3) := by decide +kernel
theorem dX5_init_14 : decode cX5_init 14 = .ok (.aload_n 0, 1) := by decide +kernel
theorem dX5_init_15 : decode cX5_init 15 = .ok (.iload_n 1, 1) := by decide +kernel
theorem dX5_init_16 : decode cX5_init 16 = .ok (.iload_n 2, 1) := by decide +kernel
theorem dX5_init_17 : decode cX5_init 17 = .ok (.imul, 1) := by decide +kernel
theorem dX5_init_18 : decode cX5_init 18 = .ok (.newarray .int, 2) := by decide +kernel
theorem dX5_init_20 : decode cX5_init 20 = .ok (.putfield 18, 3) := by decide +kernel
theorem dX5_init_23 : decode cX5_init 23 = .ok (.return_, 1) := by decide +kernel
theorem dX5_size_0 : decode cX5_size 0 = .ok (.aload_n 0, 1) := by decide +kernel
theorem dX5_size_1 : decode cX5_size 1 = .ok (.getfield 22, 3) := by decide +kernel
theorem dX5_size_4 : decode cX5_size 4 = .ok (.ireturn, 1) := by decide +kernel
theorem dX5_has_0 : decode cX5_has 0 = .ok (.iload_n 1, 1) := by decide +kernel
theorem dX5_has_1 : decode cX5_has 1 = .ok (.ifCond .lt 15, 3) := by decide +kernel
theorem dX5_has_4 : decode cX5_has 4 = .ok (.iload_n 1, 1) := by decide +kernel
theorem dX5_has_5 : decode cX5_has 5 = .ok (.aload_n 0, 1) := by decide +kernel
theorem dX5_has_6 : decode cX5_has 6 = .ok (.getfield 22, 3) := by decide +kernel
theorem dX5_has_9 : decode cX5_has 9 = .ok (.if_icmp .ge 7, 3) := by decide +kernel
theorem dX5_has_12 : decode cX5_has 12 = .ok (.iconst 1, 1) := by decide +kernel
theorem dX5_has_13 : decode cX5_has 13 = .ok (.goto 4, 3) := by decide +kernel
theorem dX5_has_16 : decode cX5_has 16 = .ok (.iconst 0, 1) := by decide +kernel
theorem dX5_has_17 : decode cX5_has 17 = .ok (.ireturn, 1) := by decide +kernel
theorem dX5_grow_0 : decode cX5_grow 0 = .ok (.aload_n 0, 1) := by decide +kernel
theorem dX5_grow_1 : decode cX5_grow 1 = .ok (.getfield 22, 3) := by decide +kernel
theorem dX5_grow_4 : decode cX5_grow 4 = .ok (.aload_n 0, 1) := by decide +kernel
theorem dX5_grow_5 : decode cX5_grow 5 = .ok (.getfield 9, 3) := by decide +kernel
theorem dX5_grow_8 : decode cX5_grow 8 = .ok (.if_icmp .lt 6, 3) := by decide +kernel
theorem dX5_grow_11 : decode cX5_grow 11 = .ok (.bipush (-4), 2) := by decide +kernel
theorem dX5_grow_13 : decode cX5_grow 13 = .ok (.ireturn, 1) := by decide +kernel
theorem dX5_grow_14 : decode cX5_grow 14 = .ok (.aload_n 0, 1) := by decide +kernel
theorem dX5_grow_15 : decode cX5_grow 15 = .ok (.dup, 1) := by decide +kernel
theorem dX5_grow_16 : decode cX5_grow 16 = .ok (.getfield 22, 3) := by decide +kernel
theorem dX5_grow_19 : decode cX5_grow 19 = .ok (.iconst 1, 1) := by decide +kernel
theorem dX5_grow_20 : decode cX5_grow 20 = .ok (.iadd, 1) := by decide +kernel
theorem dX5_grow_21 : decode cX5_grow 21 = .ok (.putfield 22, 3) := by decide +kernel
theorem dX5_grow_24 : decode cX5_grow 24 = .ok (.aload_n 0, 1) := by decide +kernel
theorem dX5_grow_25 : decode cX5_grow 25 = .ok (.getfield 22, 3) := by decide +kernel
theorem dX5_grow_28 : decode cX5_grow 28 = .ok (.iconst 1, 1) := by decide +kernel
theorem dX5_grow_29 : decode cX5_grow 29 = .ok (.isub, 1) := by decide +kernel
theorem dX5_grow_30 : decode cX5_grow 30 = .ok (.ireturn, 1) := by decide +kernel

theorem dX5_at_0 : decode cX5_at 0 = .ok (.iload_n 1, 1) := by decide +kernel
theorem dX5_at_1 : decode cX5_at 1 = .ok (.ifCond .lt 27, 3) := by decide +kernel
theorem dX5_at_4 : decode cX5_at 4 = .ok (.iload_n 1, 1) := by decide +kernel
theorem dX5_at_5 : decode cX5_at 5 = .ok (.aload_n 0, 1) := by decide +kernel
theorem dX5_at_6 : decode cX5_at 6 = .ok (.getfield 22, 3) := by decide +kernel
theorem dX5_at_9 : decode cX5_at 9 = .ok (.if_icmp .ge 19, 3) := by decide +kernel
theorem dX5_at_12 : decode cX5_at 12 = .ok (.iload_n 2, 1) := by decide +kernel
theorem dX5_at_13 : decode cX5_at 13 = .ok (.ifCond .lt 15, 3) := by decide +kernel
theorem dX5_at_16 : decode cX5_at 16 = .ok (.iload_n 2, 1) := by decide +kernel
theorem dX5_at_17 : decode cX5_at 17 = .ok (.aload_n 0, 1) := by decide +kernel
theorem dX5_at_18 : decode cX5_at 18 = .ok (.getfield 15, 3) := by decide +kernel
theorem dX5_at_21 : decode cX5_at 21 = .ok (.if_icmp .ge 7, 3) := by decide +kernel
theorem dX5_at_24 : decode cX5_at 24 = .ok (.iconst 1, 1) := by decide +kernel
theorem dX5_at_25 : decode cX5_at 25 = .ok (.goto 4, 3) := by decide +kernel
theorem dX5_at_28 : decode cX5_at 28 = .ok (.iconst 0, 1) := by decide +kernel
theorem dX5_at_29 : decode cX5_at 29 = .ok (.istore_n 3, 1) := by decide +kernel
theorem dX5_at_30 : decode cX5_at 30 = .ok (.iload_n 3, 1) := by decide +kernel
theorem dX5_at_31 : decode cX5_at 31 = .ok (.ifCond .eq 19, 3) := by decide +kernel
theorem dX5_at_34 : decode cX5_at 34 = .ok (.aload_n 0, 1) := by decide +kernel
theorem dX5_at_35 : decode cX5_at 35 = .ok (.getfield 18, 3) := by decide +kernel
theorem dX5_at_38 : decode cX5_at 38 = .ok (.iload_n 1, 1) := by decide +kernel
theorem dX5_at_39 : decode cX5_at 39 = .ok (.aload_n 0, 1) := by decide +kernel
theorem dX5_at_40 : decode cX5_at 40 = .ok (.getfield 15, 3) := by decide +kernel
theorem dX5_at_43 : decode cX5_at 43 = .ok (.imul, 1) := by decide +kernel
theorem dX5_at_44 : decode cX5_at 44 = .ok (.iload_n 2, 1) := by decide +kernel
theorem dX5_at_45 : decode cX5_at 45 = .ok (.iadd, 1) := by decide +kernel
theorem dX5_at_46 : decode cX5_at 46 = .ok (.iaload, 1) := by decide +kernel
theorem dX5_at_47 : decode cX5_at 47 = .ok (.goto 4, 3) := by decide +kernel
theorem dX5_at_50 : decode cX5_at 50 = .ok (.iconst 0, 1) := by decide +kernel
theorem dX5_at_51 : decode cX5_at 51 = .ok (.ireturn, 1) := by decide +kernel
theorem dX5_set_0 : decode cX5_set 0 = .ok (.iload_n 1, 1) := by decide +kernel
theorem dX5_set_1 : decode cX5_set 1 = .ok (.ifCond .lt 37, 3) := by decide +kernel
theorem dX5_set_4 : decode cX5_set 4 = .ok (.iload_n 1, 1) := by decide +kernel
theorem dX5_set_5 : decode cX5_set 5 = .ok (.aload_n 0, 1) := by decide +kernel
theorem dX5_set_6 : decode cX5_set 6 = .ok (.getfield 22, 3) := by decide +kernel
theorem dX5_set_9 : decode cX5_set 9 = .ok (.if_icmp .ge 29, 3) := by decide +kernel
theorem dX5_set_12 : decode cX5_set 12 = .ok (.iload_n 2, 1) := by decide +kernel
theorem dX5_set_13 : decode cX5_set 13 = .ok (.ifCond .lt 25, 3) := by decide +kernel
theorem dX5_set_16 : decode cX5_set 16 = .ok (.iload_n 2, 1) := by decide +kernel
theorem dX5_set_17 : decode cX5_set 17 = .ok (.aload_n 0, 1) := by decide +kernel
theorem dX5_set_18 : decode cX5_set 18 = .ok (.getfield 15, 3) := by decide +kernel
theorem dX5_set_21 : decode cX5_set 21 = .ok (.if_icmp .ge 17, 3) := by decide +kernel
theorem dX5_set_24 : decode cX5_set 24 = .ok (.aload_n 0, 1) := by decide +kernel
theorem dX5_set_25 : decode cX5_set 25 = .ok (.getfield 18, 3) := by decide +kernel
theorem dX5_set_28 : decode cX5_set 28 = .ok (.iload_n 1, 1) := by decide +kernel
theorem dX5_set_29 : decode cX5_set 29 = .ok (.aload_n 0, 1) := by decide +kernel
theorem dX5_set_30 : decode cX5_set 30 = .ok (.getfield 15, 3) := by decide +kernel
theorem dX5_set_33 : decode cX5_set 33 = .ok (.imul, 1) := by decide +kernel
theorem dX5_set_34 : decode cX5_set 34 = .ok (.iload_n 2, 1) := by decide +kernel
theorem dX5_set_35 : decode cX5_set 35 = .ok (.iadd, 1) := by decide +kernel
theorem dX5_set_36 : decode cX5_set 36 = .ok (.iload_n 3, 1) := by decide +kernel
theorem dX5_set_37 : decode cX5_set 37 = .ok (.iastore, 1) := by decide +kernel
theorem dX5_set_38 : decode cX5_set 38 = .ok (.return_, 1) := by decide +kernel
theorem dX5_copy_0 : decode cX5_copy 0 = .ok (.aload_n 0, 1) := by decide +kernel
theorem dX5_copy_1 : decode cX5_copy 1 = .ok (.aload_n 0, 1) := by decide +kernel
theorem dX5_copy_2 : decode cX5_copy 2 = .ok (.getfield 9, 3) := by decide +kernel
theorem dX5_copy_5 : decode cX5_copy 5 = .ok (.aload_n 1, 1) := by decide +kernel
theorem dX5_copy_6 : decode cX5_copy 6 = .ok (.getfield 22, 3) := by decide +kernel
theorem dX5_copy_9 : decode cX5_copy 9 = .ok (.invokestatic 25, 3) := by decide +kernel
theorem dX5_copy_12 : decode cX5_copy 12 = .ok (.putfield 22, 3) := by decide +kernel
theorem dX5_copy_15 : decode cX5_copy 15 = .ok (.aload_n 1, 1) := by decide +kernel
theorem dX5_copy_16 : decode cX5_copy 16 = .ok (.getfield 18, 3) := by decide +kernel
theorem dX5_copy_19 : decode cX5_copy 19 = .ok (.iconst 0, 1) := by decide +kernel
theorem dX5_copy_20 : decode cX5_copy 20 = .ok (.aload_n 0, 1) := by decide +kernel
theorem dX5_copy_21 : decode cX5_copy 21 = .ok (.getfield 18, 3) := by decide +kernel
theorem dX5_copy_24 : decode cX5_copy 24 = .ok (.iconst 0, 1) := by decide +kernel
theorem dX5_copy_25 : decode cX5_copy 25 = .ok (.aload_n 0, 1) := by decide +kernel
theorem dX5_copy_26 : decode cX5_copy 26 = .ok (.getfield 18, 3) := by decide +kernel
theorem dX5_copy_29 : decode cX5_copy 29 = .ok (.arraylength, 1) := by decide +kernel
theorem dX5_copy_30 : decode cX5_copy 30 = .ok (.aload_n 1, 1) := by decide +kernel
theorem dX5_copy_31 : decode cX5_copy 31 = .ok (.getfield 18, 3) := by decide +kernel
theorem dX5_copy_34 : decode cX5_copy 34 = .ok (.arraylength, 1) := by decide +kernel
theorem dX5_copy_35 : decode cX5_copy 35 = .ok (.invokestatic 25, 3) := by decide +kernel
theorem dX5_copy_38 : decode cX5_copy 38 = .ok (.invokestatic 31, 3) := by decide +kernel
theorem dX5_copy_41 : decode cX5_copy 41 = .ok (.return_, 1) := by decide +kernel
theorem dX5_foldRow_0 : decode cX5_foldRow 0 = .ok (.iconst 0, 1) := by decide +kernel
theorem dX5_foldRow_1 : decode cX5_foldRow 1 = .ok (.istore 4, 2) := by decide +kernel
theorem dX5_foldRow_3 : decode cX5_foldRow 3 = .ok (.iload 4, 2) := by decide +kernel
theorem dX5_foldRow_5 : decode cX5_foldRow 5 = .ok (.aload_n 0, 1) := by decide +kernel
theorem dX5_foldRow_6 : decode cX5_foldRow 6 = .ok (.getfield 15, 3) := by decide +kernel
theorem dX5_foldRow_9 : decode cX5_foldRow 9 = .ok (.if_icmp .ge 24, 3) := by decide +kernel
theorem dX5_foldRow_12 : decode cX5_foldRow 12 = .ok (.ldc2_w 37, 3) := by decide +kernel
theorem dX5_foldRow_15 : decode cX5_foldRow 15 = .ok (.lload_n 1, 1) := by decide +kernel
theorem dX5_foldRow_16 : decode cX5_foldRow 16 = .ok (.lmul, 1) := by decide +kernel
theorem dX5_foldRow_17 : decode cX5_foldRow 17 = .ok (.aload_n 0, 1) := by decide +kernel
theorem dX5_foldRow_18 : decode cX5_foldRow 18 = .ok (.iload_n 3, 1) := by decide +kernel
theorem dX5_foldRow_19 : decode cX5_foldRow 19 = .ok (.iload 4, 2) := by decide +kernel
theorem dX5_foldRow_21 : decode cX5_foldRow 21 = .ok (.invokevirtual 39, 3) := by decide +kernel
theorem dX5_foldRow_24 : decode cX5_foldRow 24 = .ok (.i2l, 1) := by decide +kernel
theorem dX5_foldRow_25 : decode cX5_foldRow 25 = .ok (.ladd, 1) := by decide +kernel
theorem dX5_foldRow_26 : decode cX5_foldRow 26 = .ok (.lstore_n 1, 1) := by decide +kernel
theorem dX5_foldRow_27 : decode cX5_foldRow 27 = .ok (.iinc 4 1, 3) := by decide +kernel
theorem dX5_foldRow_30 : decode cX5_foldRow 30 = .ok (.goto (-27), 3) := by decide +kernel
theorem dX5_foldRow_33 : decode cX5_foldRow 33 = .ok (.lload_n 1, 1) := by decide +kernel
theorem dX5_foldRow_34 : decode cX5_foldRow 34 = .ok (.lreturn, 1) := by decide +kernel
theorem dX5_foldAll_0 : decode cX5_foldAll 0 = .ok (.iconst 0, 1) := by decide +kernel
theorem dX5_foldAll_1 : decode cX5_foldAll 1 = .ok (.istore_n 3, 1) := by decide +kernel
theorem dX5_foldAll_2 : decode cX5_foldAll 2 = .ok (.iload_n 3, 1) := by decide +kernel
theorem dX5_foldAll_3 : decode cX5_foldAll 3 = .ok (.aload_n 0, 1) := by decide +kernel
theorem dX5_foldAll_4 : decode cX5_foldAll 4 = .ok (.getfield 22, 3) := by decide +kernel
theorem dX5_foldAll_7 : decode cX5_foldAll 7 = .ok (.if_icmp .ge 16, 3) := by decide +kernel
theorem dX5_foldAll_10 : decode cX5_foldAll 10 = .ok (.aload_n 0, 1) := by decide +kernel
theorem dX5_foldAll_11 : decode cX5_foldAll 11 = .ok (.lload_n 1, 1) := by decide +kernel
theorem dX5_foldAll_12 : decode cX5_foldAll 12 = .ok (.iload_n 3, 1) := by decide +kernel
theorem dX5_foldAll_13 : decode cX5_foldAll 13 = .ok (.invokevirtual 42, 3) := by decide +kernel
theorem dX5_foldAll_16 : decode cX5_foldAll 16 = .ok (.lstore_n 1, 1) := by decide +kernel
theorem dX5_foldAll_17 : decode cX5_foldAll 17 = .ok (.iinc 3 1, 3) := by decide +kernel
theorem dX5_foldAll_20 : decode cX5_foldAll 20 = .ok (.goto (-18), 3) := by decide +kernel
theorem dX5_foldAll_23 : decode cX5_foldAll 23 = .ok (.lload_n 1, 1) := by decide +kernel
theorem dX5_foldAll_24 : decode cX5_foldAll 24 = .ok (.lreturn, 1) := by decide +kernel
theorem dX6_init_0 : decode cX6_init 0 = .ok (.aload_n 0, 1) := by decide +kernel
theorem dX6_init_1 : decode cX6_init 1 = .ok (.invokespecial 1, 3) := by decide +kernel
theorem dX6_init_4 : decode cX6_init 4 = .ok (.aload_n 0, 1) := by decide +kernel
theorem dX6_init_5 : decode cX6_init 5 = .ok (.new 7, 3) := by decide +kernel
theorem dX6_init_8 : decode cX6_init 8 = .ok (.dup, 1) := by decide +kernel
theorem dX6_init_9 : decode cX6_init 9 = .ok (.invokespecial 9, 3) := by decide +kernel
theorem dX6_init_12 : decode cX6_init 12 = .ok (.putfield 10, 3) := by decide +kernel
theorem dX6_init_15 : decode cX6_init 15 = .ok (.aload_n 0, 1) := by decide +kernel
theorem dX6_init_16 : decode cX6_init 16 = .ok (.iload_n 1, 1) := by decide +kernel
theorem dX6_init_17 : decode cX6_init 17 = .ok (.anewarray 7, 3) := by decide +kernel
theorem dX6_init_20 : decode cX6_init 20 = .ok (.putfield 16, 3) := by decide +kernel
theorem dX6_init_23 : decode cX6_init 23 = .ok (.iconst 0, 1) := by decide +kernel
theorem dX6_init_24 : decode cX6_init 24 = .ok (.istore_n 2, 1) := by decide +kernel
theorem dX6_init_25 : decode cX6_init 25 = .ok (.iload_n 2, 1) := by decide +kernel
theorem dX6_init_26 : decode cX6_init 26 = .ok (.iload_n 1, 1) := by decide +kernel
theorem dX6_init_27 : decode cX6_init 27 = .ok (.if_icmp .ge 22, 3) := by decide +kernel
theorem dX6_init_30 : decode cX6_init 30 = .ok (.aload_n 0, 1) := by decide +kernel
theorem dX6_init_31 : decode cX6_init 31 = .ok (.getfield 16, 3) := by decide +kernel
theorem dX6_init_34 : decode cX6_init 34 = .ok (.iload_n 2, 1) := by decide +kernel
theorem dX6_init_35 : decode cX6_init 35 = .ok (.new 7, 3) := by decide +kernel
theorem dX6_init_38 : decode cX6_init 38 = .ok (.dup, 1) := by decide +kernel
theorem dX6_init_39 : decode cX6_init 39 = .ok (.invokespecial 9, 3) := by decide +kernel
theorem dX6_init_42 : decode cX6_init 42 = .ok (.aastore, 1) := by decide +kernel
theorem dX6_init_43 : decode cX6_init 43 = .ok (.iinc 2 1, 3) := by decide +kernel
theorem dX6_init_46 : decode cX6_init 46 = .ok (.goto (-21), 3) := by decide +kernel
theorem dX6_init_49 : decode cX6_init 49 = .ok (.return_, 1) := by decide +kernel
theorem dX6_get_0 : decode cX6_get 0 = .ok (.iload_n 1, 1) := by decide +kernel
theorem dX6_get_1 : decode cX6_get 1 = .ok (.ifCond .lt 21, 3) := by decide +kernel
theorem dX6_get_4 : decode cX6_get 4 = .ok (.iload_n 1, 1) := by decide +kernel
theorem dX6_get_5 : decode cX6_get 5 = .ok (.aload_n 0, 1) := by decide +kernel
theorem dX6_get_6 : decode cX6_get 6 = .ok (.getfield 16, 3) := by decide +kernel
theorem dX6_get_9 : decode cX6_get 9 = .ok (.arraylength, 1) := by decide +kernel
theorem dX6_get_10 : decode cX6_get 10 = .ok (.if_icmp .ge 12, 3) := by decide +kernel
theorem dX6_get_13 : decode cX6_get 13 = .ok (.aload_n 0, 1) := by decide +kernel
theorem dX6_get_14 : decode cX6_get 14 = .ok (.getfield 16, 3) := by decide +kernel
theorem dX6_get_17 : decode cX6_get 17 = .ok (.iload_n 1, 1) := by decide +kernel
theorem dX6_get_18 : decode cX6_get 18 = .ok (.aaload, 1) := by decide +kernel
theorem dX6_get_19 : decode cX6_get 19 = .ok (.goto 7, 3) := by decide +kernel
theorem dX6_get_22 : decode cX6_get 22 = .ok (.aload_n 0, 1) := by decide +kernel
theorem dX6_get_23 : decode cX6_get 23 = .ok (.getfield 10, 3) := by decide +kernel
theorem dX6_get_26 : decode cX6_get 26 = .ok (.areturn, 1) := by decide +kernel
theorem dX6_copy_0 : decode cX6_copy 0 = .ok (.iconst 0, 1) := by decide +kernel
theorem dX6_copy_1 : decode cX6_copy 1 = .ok (.istore_n 2, 1) := by decide +kernel
theorem dX6_copy_2 : decode cX6_copy 2 = .ok (.iload_n 2, 1) := by decide +kernel
theorem dX6_copy_3 : decode cX6_copy 3 = .ok (.aload_n 0, 1) := by decide +kernel
theorem dX6_copy_4 : decode cX6_copy 4 = .ok (.getfield 16, 3) := by decide +kernel
theorem dX6_copy_7 : decode cX6_copy 7 = .ok (.arraylength, 1) := by decide +kernel
theorem dX6_copy_8 : decode cX6_copy 8 = .ok (.if_icmp .ge 23, 3) := by decide +kernel
theorem dX6_copy_11 : decode cX6_copy 11 = .ok (.aload_n 0, 1) := by decide +kernel
theorem dX6_copy_12 : decode cX6_copy 12 = .ok (.getfield 16, 3) := by decide +kernel
theorem dX6_copy_15 : decode cX6_copy 15 = .ok (.iload_n 2, 1) := by decide +kernel
theorem dX6_copy_16 : decode cX6_copy 16 = .ok (.aaload, 1) := by decide +kernel
theorem dX6_copy_17 : decode cX6_copy 17 = .ok (.aload_n 1, 1) := by decide +kernel
theorem dX6_copy_18 : decode cX6_copy 18 = .ok (.iload_n 2, 1) := by decide +kernel
theorem dX6_copy_19 : decode cX6_copy 19 = .ok (.invokevirtual 20, 3) := by decide +kernel
theorem dX6_copy_22 : decode cX6_copy 22 = .ok (.invokevirtual 24, 3) := by decide +kernel
theorem dX6_copy_25 : decode cX6_copy 25 = .ok (.iinc 2 1, 3) := by decide +kernel
theorem dX6_copy_28 : decode cX6_copy 28 = .ok (.goto (-26), 3) := by decide +kernel
theorem dX6_copy_31 : decode cX6_copy 31 = .ok (.return_, 1) := by decide +kernel
theorem dX7_rank_0 : decode cX7_rank 0 = .ok (.iload_n 0, 1) := by decide +kernel
theorem dX7_rank_1 : decode cX7_rank 1 = .ok (.lookupswitch 112 #[(33, 109), (38, 101), (42, 107), (43, 105), (45, 105), (47, 107), (60, 103), (61, 103), (62, 103), (124, 99), (126, 109)], 99) := by decide +kernel
theorem dX7_rank_100 : decode cX7_rank 100 = .ok (.iconst 1, 1) := by decide +kernel
theorem dX7_rank_101 : decode cX7_rank 101 = .ok (.ireturn, 1) := by decide +kernel
theorem dX7_rank_102 : decode cX7_rank 102 = .ok (.iconst 2, 1) := by decide +kernel
theorem dX7_rank_103 : decode cX7_rank 103 = .ok (.ireturn, 1) := by decide +kernel
theorem dX7_rank_104 : decode cX7_rank 104 = .ok (.iconst 3, 1) := by decide +kernel
theorem dX7_rank_105 : decode cX7_rank 105 = .ok (.ireturn, 1) := by decide +kernel
theorem dX7_rank_106 : decode cX7_rank 106 = .ok (.iconst 4, 1) := by decide +kernel
theorem dX7_rank_107 : decode cX7_rank 107 = .ok (.ireturn, 1) := by decide +kernel
theorem dX7_rank_108 : decode cX7_rank 108 = .ok (.iconst 5, 1) := by decide +kernel
theorem dX7_rank_109 : decode cX7_rank 109 = .ok (.ireturn, 1) := by decide +kernel
theorem dX7_rank_110 : decode cX7_rank 110 = .ok (.bipush 6, 2) := by decide +kernel
theorem dX7_rank_112 : decode cX7_rank 112 = .ok (.ireturn, 1) := by decide +kernel
theorem dX7_rank_113 : decode cX7_rank 113 = .ok (.iconst 0, 1) := by decide +kernel
theorem dX7_rank_114 : decode cX7_rank 114 = .ok (.ireturn, 1) := by decide +kernel
theorem dX7_turned_0 : decode cX7_turned 0 = .ok (.iload_n 0, 1) := by decide +kernel
theorem dX7_turned_1 : decode cX7_turned 1 = .ok (.bipush 33, 2) := by decide +kernel
theorem dX7_turned_3 : decode cX7_turned 3 = .ok (.if_icmp .ne 20, 3) := by decide +kernel
theorem dX7_turned_6 : decode cX7_turned 6 = .ok (.lload_n 1, 1) := by decide +kernel
theorem dX7_turned_7 : decode cX7_turned 7 = .ok (.lconst 0, 1) := by decide +kernel
theorem dX7_turned_8 : decode cX7_turned 8 = .ok (.lcmp, 1) := by decide +kernel
theorem dX7_turned_9 : decode cX7_turned 9 = .ok (.ifCond .ne 7, 3) := by decide +kernel
theorem dX7_turned_12 : decode cX7_turned 12 = .ok (.iconst 1, 1) := by decide +kernel
theorem dX7_turned_13 : decode cX7_turned 13 = .ok (.goto 4, 3) := by decide +kernel
theorem dX7_turned_16 : decode cX7_turned 16 = .ok (.iconst 0, 1) := by decide +kernel
theorem dX7_turned_17 : decode cX7_turned 17 = .ok (.invokestatic 9, 3) := by decide +kernel
theorem dX7_turned_20 : decode cX7_turned 20 = .ok (.goto 5, 3) := by decide +kernel
theorem dX7_turned_23 : decode cX7_turned 23 = .ok (.lload_n 1, 1) := by decide +kernel
theorem dX7_turned_24 : decode cX7_turned 24 = .ok (.lneg, 1) := by decide +kernel
theorem dX7_turned_25 : decode cX7_turned 25 = .ok (.lreturn, 1) := by decide +kernel
theorem dX7_joined_0 : decode cX7_joined 0 = .ok (.iload_n 0, 1) := by decide +kernel
theorem dX7_joined_1 : decode cX7_joined 1 = .ok (.lookupswitch 174 #[(38, 96), (42, 170), (43, 162), (45, 166), (60, 117), (61, 147), (62, 132), (124, 75)], 75) := by decide +kernel
theorem dX7_joined_76 : decode cX7_joined 76 = .ok (.lload_n 1, 1) := by decide +kernel
theorem dX7_joined_77 : decode cX7_joined 77 = .ok (.lconst 0, 1) := by decide +kernel
theorem dX7_joined_78 : decode cX7_joined 78 = .ok (.lcmp, 1) := by decide +kernel
theorem dX7_joined_79 : decode cX7_joined 79 = .ok (.ifCond .ne 9, 3) := by decide +kernel
theorem dX7_joined_82 : decode cX7_joined 82 = .ok (.lload_n 3, 1) := by decide +kernel
theorem dX7_joined_83 : decode cX7_joined 83 = .ok (.lconst 0, 1) := by decide +kernel
theorem dX7_joined_84 : decode cX7_joined 84 = .ok (.lcmp, 1) := by decide +kernel
theorem dX7_joined_85 : decode cX7_joined 85 = .ok (.ifCond .eq 7, 3) := by decide +kernel
theorem dX7_joined_88 : decode cX7_joined 88 = .ok (.iconst 1, 1) := by decide +kernel
theorem dX7_joined_89 : decode cX7_joined 89 = .ok (.goto 4, 3) := by decide +kernel
theorem dX7_joined_92 : decode cX7_joined 92 = .ok (.iconst 0, 1) := by decide +kernel
theorem dX7_joined_93 : decode cX7_joined 93 = .ok (.invokestatic 9, 3) := by decide +kernel
theorem dX7_joined_96 : decode cX7_joined 96 = .ok (.lreturn, 1) := by decide +kernel
theorem dX7_joined_97 : decode cX7_joined 97 = .ok (.lload_n 1, 1) := by decide +kernel
theorem dX7_joined_98 : decode cX7_joined 98 = .ok (.lconst 0, 1) := by decide +kernel
theorem dX7_joined_99 : decode cX7_joined 99 = .ok (.lcmp, 1) := by decide +kernel
theorem dX7_joined_100 : decode cX7_joined 100 = .ok (.ifCond .eq 13, 3) := by decide +kernel
theorem dX7_joined_103 : decode cX7_joined 103 = .ok (.lload_n 3, 1) := by decide +kernel
theorem dX7_joined_104 : decode cX7_joined 104 = .ok (.lconst 0, 1) := by decide +kernel
theorem dX7_joined_105 : decode cX7_joined 105 = .ok (.lcmp, 1) := by decide +kernel
theorem dX7_joined_106 : decode cX7_joined 106 = .ok (.ifCond .eq 7, 3) := by decide +kernel
theorem dX7_joined_109 : decode cX7_joined 109 = .ok (.iconst 1, 1) := by decide +kernel
theorem dX7_joined_110 : decode cX7_joined 110 = .ok (.goto 4, 3) := by decide +kernel
theorem dX7_joined_113 : decode cX7_joined 113 = .ok (.iconst 0, 1) := by decide +kernel
theorem dX7_joined_114 : decode cX7_joined 114 = .ok (.invokestatic 9, 3) := by decide +kernel
theorem dX7_joined_117 : decode cX7_joined 117 = .ok (.lreturn, 1) := by decide +kernel
theorem dX7_joined_118 : decode cX7_joined 118 = .ok (.lload_n 1, 1) := by decide +kernel
theorem dX7_joined_119 : decode cX7_joined 119 = .ok (.lload_n 3, 1) := by decide +kernel
theorem dX7_joined_120 : decode cX7_joined 120 = .ok (.lcmp, 1) := by decide +kernel
theorem dX7_joined_121 : decode cX7_joined 121 = .ok (.ifCond .ge 7, 3) := by decide +kernel
theorem dX7_joined_124 : decode cX7_joined 124 = .ok (.iconst 1, 1) := by decide +kernel
theorem dX7_joined_125 : decode cX7_joined 125 = .ok (.goto 4, 3) := by decide +kernel
theorem dX7_joined_128 : decode cX7_joined 128 = .ok (.iconst 0, 1) := by decide +kernel
theorem dX7_joined_129 : decode cX7_joined 129 = .ok (.invokestatic 9, 3) := by decide +kernel
theorem dX7_joined_132 : decode cX7_joined 132 = .ok (.lreturn, 1) := by decide +kernel
theorem dX7_joined_133 : decode cX7_joined 133 = .ok (.lload_n 1, 1) := by decide +kernel
theorem dX7_joined_134 : decode cX7_joined 134 = .ok (.lload_n 3, 1) := by decide +kernel
theorem dX7_joined_135 : decode cX7_joined 135 = .ok (.lcmp, 1) := by decide +kernel
theorem dX7_joined_136 : decode cX7_joined 136 = .ok (.ifCond .le 7, 3) := by decide +kernel
theorem dX7_joined_139 : decode cX7_joined 139 = .ok (.iconst 1, 1) := by decide +kernel
theorem dX7_joined_140 : decode cX7_joined 140 = .ok (.goto 4, 3) := by decide +kernel
theorem dX7_joined_143 : decode cX7_joined 143 = .ok (.iconst 0, 1) := by decide +kernel
theorem dX7_joined_144 : decode cX7_joined 144 = .ok (.invokestatic 9, 3) := by decide +kernel
theorem dX7_joined_147 : decode cX7_joined 147 = .ok (.lreturn, 1) := by decide +kernel
theorem dX7_joined_148 : decode cX7_joined 148 = .ok (.lload_n 1, 1) := by decide +kernel
theorem dX7_joined_149 : decode cX7_joined 149 = .ok (.lload_n 3, 1) := by decide +kernel
theorem dX7_joined_150 : decode cX7_joined 150 = .ok (.lcmp, 1) := by decide +kernel
theorem dX7_joined_151 : decode cX7_joined 151 = .ok (.ifCond .ne 7, 3) := by decide +kernel
theorem dX7_joined_154 : decode cX7_joined 154 = .ok (.iconst 1, 1) := by decide +kernel
theorem dX7_joined_155 : decode cX7_joined 155 = .ok (.goto 4, 3) := by decide +kernel
theorem dX7_joined_158 : decode cX7_joined 158 = .ok (.iconst 0, 1) := by decide +kernel
theorem dX7_joined_159 : decode cX7_joined 159 = .ok (.invokestatic 9, 3) := by decide +kernel
theorem dX7_joined_162 : decode cX7_joined 162 = .ok (.lreturn, 1) := by decide +kernel
theorem dX7_joined_163 : decode cX7_joined 163 = .ok (.lload_n 1, 1) := by decide +kernel
theorem dX7_joined_164 : decode cX7_joined 164 = .ok (.lload_n 3, 1) := by decide +kernel
theorem dX7_joined_165 : decode cX7_joined 165 = .ok (.ladd, 1) := by decide +kernel
theorem dX7_joined_166 : decode cX7_joined 166 = .ok (.lreturn, 1) := by decide +kernel
theorem dX7_joined_167 : decode cX7_joined 167 = .ok (.lload_n 1, 1) := by decide +kernel
theorem dX7_joined_168 : decode cX7_joined 168 = .ok (.lload_n 3, 1) := by decide +kernel
theorem dX7_joined_169 : decode cX7_joined 169 = .ok (.lsub, 1) := by decide +kernel
theorem dX7_joined_170 : decode cX7_joined 170 = .ok (.lreturn, 1) := by decide +kernel
theorem dX7_joined_171 : decode cX7_joined 171 = .ok (.lload_n 1, 1) := by decide +kernel
theorem dX7_joined_172 : decode cX7_joined 172 = .ok (.lload_n 3, 1) := by decide +kernel
theorem dX7_joined_173 : decode cX7_joined 173 = .ok (.lmul, 1) := by decide +kernel
theorem dX7_joined_174 : decode cX7_joined 174 = .ok (.lreturn, 1) := by decide +kernel
theorem dX7_joined_175 : decode cX7_joined 175 = .ok (.lload_n 3, 1) := by decide +kernel
theorem dX7_joined_176 : decode cX7_joined 176 = .ok (.lconst 0, 1) := by decide +kernel
theorem dX7_joined_177 : decode cX7_joined 177 = .ok (.lcmp, 1) := by decide +kernel
theorem dX7_joined_178 : decode cX7_joined 178 = .ok (.ifCond .ne 7, 3) := by decide +kernel
theorem dX7_joined_181 : decode cX7_joined 181 = .ok (.lconst 0, 1) := by decide +kernel
theorem dX7_joined_182 : decode cX7_joined 182 = .ok (.goto 6, 3) := by decide +kernel
theorem dX7_joined_185 : decode cX7_joined 185 = .ok (.lload_n 1, 1) := by decide +kernel
theorem dX7_joined_186 : decode cX7_joined 186 = .ok (.lload_n 3, 1) := by decide +kernel
theorem dX7_joined_187 : decode cX7_joined 187 = .ok (.ldiv, 1) := by decide +kernel
theorem dX7_joined_188 : decode cX7_joined 188 = .ok (.lreturn, 1) := by decide +kernel
theorem dX7_truth_0 : decode cX7_truth 0 = .ok (.iload_n 0, 1) := by decide +kernel
theorem dX7_truth_1 : decode cX7_truth 1 = .ok (.ifCond .eq 7, 3) := by decide +kernel
theorem dX7_truth_4 : decode cX7_truth 4 = .ok (.lconst 1, 1) := by decide +kernel
theorem dX7_truth_5 : decode cX7_truth 5 = .ok (.goto 4, 3) := by decide +kernel
theorem dX7_truth_8 : decode cX7_truth 8 = .ok (.lconst 0, 1) := by decide +kernel
theorem dX7_truth_9 : decode cX7_truth 9 = .ok (.lreturn, 1) := by decide +kernel
theorem dX8_init_0 : decode cX8_init 0 = .ok (.aload_n 0, 1) := by decide +kernel
theorem dX8_init_1 : decode cX8_init 1 = .ok (.invokespecial 3, 3) := by decide +kernel
theorem dX8_init_4 : decode cX8_init 4 = .ok (.aload_n 0, 1) := by decide +kernel
theorem dX8_init_5 : decode cX8_init 5 = .ok (.bipush 50, 2) := by decide +kernel
theorem dX8_init_7 : decode cX8_init 7 = .ok (.newarray .int, 2) := by decide +kernel
theorem dX8_init_9 : decode cX8_init 9 = .ok (.putfield 9, 3) := by decide +kernel
theorem dX8_init_12 : decode cX8_init 12 = .ok (.aload_n 0, 1) := by decide +kernel
theorem dX8_init_13 : decode cX8_init 13 = .ok (.bipush 50, 2) := by decide +kernel
theorem dX8_init_15 : decode cX8_init 15 = .ok (.newarray .int, 2) := by decide +kernel
theorem dX8_init_17 : decode cX8_init 17 = .ok (.putfield 15, 3) := by decide +kernel
theorem dX8_init_20 : decode cX8_init 20 = .ok (.return_, 1) := by decide +kernel
theorem dX8_length_0 : decode cX8_length 0 = .ok (.aload_n 0, 1) := by decide +kernel
theorem dX8_length_1 : decode cX8_length 1 = .ok (.getfield 18, 3) := by decide +kernel
theorem dX8_length_4 : decode cX8_length 4 = .ok (.ireturn, 1) := by decide +kernel
theorem dX8_signAt_0 : decode cX8_signAt 0 = .ok (.iload_n 1, 1) := by decide +kernel
theorem dX8_signAt_1 : decode cX8_signAt 1 = .ok (.ifCond .lt 20, 3) := by decide +kernel
theorem dX8_signAt_4 : decode cX8_signAt 4 = .ok (.iload_n 1, 1) := by decide +kernel
theorem dX8_signAt_5 : decode cX8_signAt 5 = .ok (.aload_n 0, 1) := by decide +kernel
theorem dX8_signAt_6 : decode cX8_signAt 6 = .ok (.getfield 18, 3) := by decide +kernel
theorem dX8_signAt_9 : decode cX8_signAt 9 = .ok (.if_icmp .ge 12, 3) := by decide +kernel
theorem dX8_signAt_12 : decode cX8_signAt 12 = .ok (.aload_n 0, 1) := by decide +kernel
theorem dX8_signAt_13 : decode cX8_signAt 13 = .ok (.getfield 9, 3) := by decide +kernel
theorem dX8_signAt_16 : decode cX8_signAt 16 = .ok (.iload_n 1, 1) := by decide +kernel
theorem dX8_signAt_17 : decode cX8_signAt 17 = .ok (.iaload, 1) := by decide +kernel
theorem dX8_signAt_18 : decode cX8_signAt 18 = .ok (.goto 4, 3) := by decide +kernel
theorem dX8_signAt_21 : decode cX8_signAt 21 = .ok (.iconst 0, 1) := by decide +kernel
theorem dX8_signAt_22 : decode cX8_signAt 22 = .ok (.ireturn, 1) := by decide +kernel
theorem dX8_put_0 : decode cX8_put 0 = .ok (.aload_n 0, 1) := by decide +kernel
theorem dX8_put_1 : decode cX8_put 1 = .ok (.getfield 18, 3) := by decide +kernel
theorem dX8_put_4 : decode cX8_put 4 = .ok (.bipush 50, 2) := by decide +kernel
theorem dX8_put_6 : decode cX8_put 6 = .ok (.if_icmp .lt 6, 3) := by decide +kernel
theorem dX8_put_9 : decode cX8_put 9 = .ok (.bipush (-4), 2) := by decide +kernel
theorem dX8_put_11 : decode cX8_put 11 = .ok (.ireturn, 1) := by decide +kernel
theorem dX8_put_12 : decode cX8_put 12 = .ok (.aload_n 0, 1) := by decide +kernel
theorem dX8_put_13 : decode cX8_put 13 = .ok (.getfield 9, 3) := by decide +kernel
theorem dX8_put_16 : decode cX8_put 16 = .ok (.aload_n 0, 1) := by decide +kernel
theorem dX8_put_17 : decode cX8_put 17 = .ok (.getfield 18, 3) := by decide +kernel
theorem dX8_put_20 : decode cX8_put 20 = .ok (.iload_n 1, 1) := by decide +kernel
theorem dX8_put_21 : decode cX8_put 21 = .ok (.iastore, 1) := by decide +kernel
theorem dX8_put_22 : decode cX8_put 22 = .ok (.aload_n 0, 1) := by decide +kernel
theorem dX8_put_23 : decode cX8_put 23 = .ok (.dup, 1) := by decide +kernel
theorem dX8_put_24 : decode cX8_put 24 = .ok (.getfield 18, 3) := by decide +kernel
theorem dX8_put_27 : decode cX8_put 27 = .ok (.iconst 1, 1) := by decide +kernel
theorem dX8_put_28 : decode cX8_put 28 = .ok (.iadd, 1) := by decide +kernel
theorem dX8_put_29 : decode cX8_put 29 = .ok (.putfield 18, 3) := by decide +kernel
theorem dX8_put_32 : decode cX8_put 32 = .ok (.aload_n 0, 1) := by decide +kernel
theorem dX8_put_33 : decode cX8_put 33 = .ok (.getfield 18, 3) := by decide +kernel
theorem dX8_put_36 : decode cX8_put 36 = .ok (.ireturn, 1) := by decide +kernel
theorem dX8_clear_0 : decode cX8_clear 0 = .ok (.aload_n 0, 1) := by decide +kernel
theorem dX8_clear_1 : decode cX8_clear 1 = .ok (.getfield 18, 3) := by decide +kernel
theorem dX8_clear_4 : decode cX8_clear 4 = .ok (.istore_n 1, 1) := by decide +kernel
theorem dX8_clear_5 : decode cX8_clear 5 = .ok (.aload_n 0, 1) := by decide +kernel
theorem dX8_clear_6 : decode cX8_clear 6 = .ok (.iconst 0, 1) := by decide +kernel
theorem dX8_clear_7 : decode cX8_clear 7 = .ok (.putfield 18, 3) := by decide +kernel
theorem dX8_clear_10 : decode cX8_clear 10 = .ok (.iload_n 1, 1) := by decide +kernel
theorem dX8_clear_11 : decode cX8_clear 11 = .ok (.ireturn, 1) := by decide +kernel
theorem dX8_stepCount_0 : decode cX8_stepCount 0 = .ok (.aload_n 0, 1) := by decide +kernel
theorem dX8_stepCount_1 : decode cX8_stepCount 1 = .ok (.getfield 22, 3) := by decide +kernel
theorem dX8_stepCount_4 : decode cX8_stepCount 4 = .ok (.ireturn, 1) := by decide +kernel
theorem dX8_stepAt_0 : decode cX8_stepAt 0 = .ok (.iload_n 1, 1) := by decide +kernel
theorem dX8_stepAt_1 : decode cX8_stepAt 1 = .ok (.ifCond .lt 20, 3) := by decide +kernel
theorem dX8_stepAt_4 : decode cX8_stepAt 4 = .ok (.iload_n 1, 1) := by decide +kernel
theorem dX8_stepAt_5 : decode cX8_stepAt 5 = .ok (.aload_n 0, 1) := by decide +kernel
theorem dX8_stepAt_6 : decode cX8_stepAt 6 = .ok (.getfield 22, 3) := by decide +kernel
theorem dX8_stepAt_9 : decode cX8_stepAt 9 = .ok (.if_icmp .ge 12, 3) := by decide +kernel
theorem dX8_stepAt_12 : decode cX8_stepAt 12 = .ok (.aload_n 0, 1) := by decide +kernel
theorem dX8_stepAt_13 : decode cX8_stepAt 13 = .ok (.getfield 15, 3) := by decide +kernel
theorem dX8_stepAt_16 : decode cX8_stepAt 16 = .ok (.iload_n 1, 1) := by decide +kernel
theorem dX8_stepAt_17 : decode cX8_stepAt 17 = .ok (.iaload, 1) := by decide +kernel
theorem dX8_stepAt_18 : decode cX8_stepAt 18 = .ok (.goto 4, 3) := by decide +kernel
theorem dX8_stepAt_21 : decode cX8_stepAt 21 = .ok (.iconst 0, 1) := by decide +kernel
theorem dX8_stepAt_22 : decode cX8_stepAt 22 = .ok (.ireturn, 1) := by decide +kernel
theorem dX8_forgetSteps_0 : decode cX8_forgetSteps 0 = .ok (.aload_n 0, 1) := by decide +kernel
theorem dX8_forgetSteps_1 : decode cX8_forgetSteps 1 = .ok (.iconst 0, 1) := by decide +kernel
theorem dX8_forgetSteps_2 : decode cX8_forgetSteps 2 = .ok (.putfield 22, 3) := by decide +kernel
theorem dX8_forgetSteps_5 : decode cX8_forgetSteps 5 = .ok (.return_, 1) := by decide +kernel
theorem dX8_addStep_0 : decode cX8_addStep 0 = .ok (.aload_n 0, 1) := by decide +kernel
theorem dX8_addStep_1 : decode cX8_addStep 1 = .ok (.getfield 22, 3) := by decide +kernel
theorem dX8_addStep_4 : decode cX8_addStep 4 = .ok (.bipush 50, 2) := by decide +kernel
theorem dX8_addStep_6 : decode cX8_addStep 6 = .ok (.if_icmp .ge 23, 3) := by decide +kernel
theorem dX8_addStep_9 : decode cX8_addStep 9 = .ok (.aload_n 0, 1) := by decide +kernel
theorem dX8_addStep_10 : decode cX8_addStep 10 = .ok (.getfield 15, 3) := by decide +kernel
theorem dX8_addStep_13 : decode cX8_addStep 13 = .ok (.aload_n 0, 1) := by decide +kernel
theorem dX8_addStep_14 : decode cX8_addStep 14 = .ok (.getfield 22, 3) := by decide +kernel
theorem dX8_addStep_17 : decode cX8_addStep 17 = .ok (.iload_n 1, 1) := by decide +kernel
theorem dX8_addStep_18 : decode cX8_addStep 18 = .ok (.iastore, 1) := by decide +kernel
theorem dX8_addStep_19 : decode cX8_addStep 19 = .ok (.aload_n 0, 1) := by decide +kernel
theorem dX8_addStep_20 : decode cX8_addStep 20 = .ok (.dup, 1) := by decide +kernel
theorem dX8_addStep_21 : decode cX8_addStep 21 = .ok (.getfield 22, 3) := by decide +kernel
theorem dX8_addStep_24 : decode cX8_addStep 24 = .ok (.iconst 1, 1) := by decide +kernel
theorem dX8_addStep_25 : decode cX8_addStep 25 = .ok (.iadd, 1) := by decide +kernel
theorem dX8_addStep_26 : decode cX8_addStep 26 = .ok (.putfield 22, 3) := by decide +kernel
theorem dX8_addStep_29 : decode cX8_addStep 29 = .ok (.return_, 1) := by decide +kernel
theorem dX8_copy_0 : decode cX8_copy 0 = .ok (.aload_n 0, 1) := by decide +kernel
theorem dX8_copy_1 : decode cX8_copy 1 = .ok (.aload_n 1, 1) := by decide +kernel
theorem dX8_copy_2 : decode cX8_copy 2 = .ok (.getfield 18, 3) := by decide +kernel
theorem dX8_copy_5 : decode cX8_copy 5 = .ok (.putfield 18, 3) := by decide +kernel
theorem dX8_copy_8 : decode cX8_copy 8 = .ok (.aload_n 0, 1) := by decide +kernel
theorem dX8_copy_9 : decode cX8_copy 9 = .ok (.aload_n 1, 1) := by decide +kernel
theorem dX8_copy_10 : decode cX8_copy 10 = .ok (.getfield 22, 3) := by decide +kernel
theorem dX8_copy_13 : decode cX8_copy 13 = .ok (.putfield 22, 3) := by decide +kernel
theorem dX8_copy_16 : decode cX8_copy 16 = .ok (.aload_n 1, 1) := by decide +kernel
theorem dX8_copy_17 : decode cX8_copy 17 = .ok (.getfield 9, 3) := by decide +kernel
theorem dX8_copy_20 : decode cX8_copy 20 = .ok (.iconst 0, 1) := by decide +kernel
theorem dX8_copy_21 : decode cX8_copy 21 = .ok (.aload_n 0, 1) := by decide +kernel
theorem dX8_copy_22 : decode cX8_copy 22 = .ok (.getfield 9, 3) := by decide +kernel
theorem dX8_copy_25 : decode cX8_copy 25 = .ok (.iconst 0, 1) := by decide +kernel
theorem dX8_copy_26 : decode cX8_copy 26 = .ok (.bipush 50, 2) := by decide +kernel
theorem dX8_copy_28 : decode cX8_copy 28 = .ok (.invokestatic 25, 3) := by decide +kernel
theorem dX8_copy_31 : decode cX8_copy 31 = .ok (.aload_n 1, 1) := by decide +kernel
theorem dX8_copy_32 : decode cX8_copy 32 = .ok (.getfield 15, 3) := by decide +kernel
theorem dX8_copy_35 : decode cX8_copy 35 = .ok (.iconst 0, 1) := by decide +kernel
theorem dX8_copy_36 : decode cX8_copy 36 = .ok (.aload_n 0, 1) := by decide +kernel
theorem dX8_copy_37 : decode cX8_copy 37 = .ok (.getfield 15, 3) := by decide +kernel
theorem dX8_copy_40 : decode cX8_copy 40 = .ok (.iconst 0, 1) := by decide +kernel
theorem dX8_copy_41 : decode cX8_copy 41 = .ok (.bipush 50, 2) := by decide +kernel
theorem dX8_copy_43 : decode cX8_copy 43 = .ok (.invokestatic 25, 3) := by decide +kernel
theorem dX8_copy_46 : decode cX8_copy 46 = .ok (.return_, 1) := by decide +kernel
theorem dX8_fold_0 : decode cX8_fold 0 = .ok (.ldc2_w 31, 3) := by decide +kernel
theorem dX8_fold_3 : decode cX8_fold 3 = .ok (.lload_n 1, 1) := by decide +kernel
theorem dX8_fold_4 : decode cX8_fold 4 = .ok (.lmul, 1) := by decide +kernel
theorem dX8_fold_5 : decode cX8_fold 5 = .ok (.aload_n 0, 1) := by decide +kernel
theorem dX8_fold_6 : decode cX8_fold 6 = .ok (.getfield 18, 3) := by decide +kernel
theorem dX8_fold_9 : decode cX8_fold 9 = .ok (.i2l, 1) := by decide +kernel
theorem dX8_fold_10 : decode cX8_fold 10 = .ok (.ladd, 1) := by decide +kernel
theorem dX8_fold_11 : decode cX8_fold 11 = .ok (.lstore_n 1, 1) := by decide +kernel
theorem dX8_fold_12 : decode cX8_fold 12 = .ok (.iconst 0, 1) := by decide +kernel
theorem dX8_fold_13 : decode cX8_fold 13 = .ok (.istore_n 3, 1) := by decide +kernel
theorem dX8_fold_14 : decode cX8_fold 14 = .ok (.iload_n 3, 1) := by decide +kernel
theorem dX8_fold_15 : decode cX8_fold 15 = .ok (.aload_n 0, 1) := by decide +kernel
theorem dX8_fold_16 : decode cX8_fold 16 = .ok (.getfield 18, 3) := by decide +kernel
theorem dX8_fold_19 : decode cX8_fold 19 = .ok (.if_icmp .ge 23, 3) := by decide +kernel
theorem dX8_fold_22 : decode cX8_fold 22 = .ok (.ldc2_w 31, 3) := by decide +kernel
theorem dX8_fold_25 : decode cX8_fold 25 = .ok (.lload_n 1, 1) := by decide +kernel
theorem dX8_fold_26 : decode cX8_fold 26 = .ok (.lmul, 1) := by decide +kernel
theorem dX8_fold_27 : decode cX8_fold 27 = .ok (.aload_n 0, 1) := by decide +kernel
theorem dX8_fold_28 : decode cX8_fold 28 = .ok (.getfield 9, 3) := by decide +kernel
theorem dX8_fold_31 : decode cX8_fold 31 = .ok (.iload_n 3, 1) := by decide +kernel
theorem dX8_fold_32 : decode cX8_fold 32 = .ok (.iaload, 1) := by decide +kernel
theorem dX8_fold_33 : decode cX8_fold 33 = .ok (.i2l, 1) := by decide +kernel
theorem dX8_fold_34 : decode cX8_fold 34 = .ok (.ladd, 1) := by decide +kernel
theorem dX8_fold_35 : decode cX8_fold 35 = .ok (.lstore_n 1, 1) := by decide +kernel
theorem dX8_fold_36 : decode cX8_fold 36 = .ok (.iinc 3 1, 3) := by decide +kernel
theorem dX8_fold_39 : decode cX8_fold 39 = .ok (.goto (-25), 3) := by decide +kernel
theorem dX8_fold_42 : decode cX8_fold 42 = .ok (.lload_n 1, 1) := by decide +kernel
theorem dX8_fold_43 : decode cX8_fold 43 = .ok (.lreturn, 1) := by decide +kernel
theorem dX9_init_0 : decode cX9_init 0 = .ok (.aload_n 0, 1) := by decide +kernel
theorem dX9_init_1 : decode cX9_init 1 = .ok (.invokespecial 3, 3) := by decide +kernel
theorem dX9_init_4 : decode cX9_init 4 = .ok (.aload_n 0, 1) := by decide +kernel
theorem dX9_init_5 : decode cX9_init 5 = .ok (.bipush 6, 2) := by decide +kernel
theorem dX9_init_7 : decode cX9_init 7 = .ok (.newarray .int, 2) := by decide +kernel
theorem dX9_init_9 : decode cX9_init 9 = .ok (.putfield 11, 3) := by decide +kernel
theorem dX9_init_12 : decode cX9_init 12 = .ok (.aload_n 0, 1) := by decide +kernel
theorem dX9_init_13 : decode cX9_init 13 = .ok (.bipush 6, 2) := by decide +kernel
theorem dX9_init_15 : decode cX9_init 15 = .ok (.newarray .int, 2) := by decide +kernel
theorem dX9_init_17 : decode cX9_init 17 = .ok (.putfield 15, 3) := by decide +kernel
theorem dX9_init_20 : decode cX9_init 20 = .ok (.aload_n 0, 1) := by decide +kernel
theorem dX9_init_21 : decode cX9_init 21 = .ok (.bipush 6, 2) := by decide +kernel
theorem dX9_init_23 : decode cX9_init 23 = .ok (.newarray .int, 2) := by decide +kernel
theorem dX9_init_25 : decode cX9_init 25 = .ok (.putfield 18, 3) := by decide +kernel
theorem dX9_init_28 : decode cX9_init 28 = .ok (.aload_n 0, 1) := by decide +kernel
theorem dX9_init_29 : decode cX9_init 29 = .ok (.bipush 6, 2) := by decide +kernel
theorem dX9_init_31 : decode cX9_init 31 = .ok (.newarray .int, 2) := by decide +kernel
theorem dX9_init_33 : decode cX9_init 33 = .ok (.putfield 21, 3) := by decide +kernel
theorem dX9_init_36 : decode cX9_init 36 = .ok (.return_, 1) := by decide +kernel
theorem dX9_bestAt_0 : decode cX9_bestAt 0 = .ok (.iload_n 1, 1) := by decide +kernel
theorem dX9_bestAt_1 : decode cX9_bestAt 1 = .ok (.ifCond .lt 20, 3) := by decide +kernel
theorem dX9_bestAt_4 : decode cX9_bestAt 4 = .ok (.iload_n 1, 1) := by decide +kernel
theorem dX9_bestAt_5 : decode cX9_bestAt 5 = .ok (.aload_n 0, 1) := by decide +kernel
theorem dX9_bestAt_6 : decode cX9_bestAt 6 = .ok (.getfield 24, 3) := by decide +kernel
theorem dX9_bestAt_9 : decode cX9_bestAt 9 = .ok (.if_icmp .ge 12, 3) := by decide +kernel
theorem dX9_bestAt_12 : decode cX9_bestAt 12 = .ok (.aload_n 0, 1) := by decide +kernel
theorem dX9_bestAt_13 : decode cX9_bestAt 13 = .ok (.getfield 18, 3) := by decide +kernel
theorem dX9_bestAt_16 : decode cX9_bestAt 16 = .ok (.iload_n 1, 1) := by decide +kernel
theorem dX9_bestAt_17 : decode cX9_bestAt 17 = .ok (.iaload, 1) := by decide +kernel
theorem dX9_bestAt_18 : decode cX9_bestAt 18 = .ok (.goto 4, 3) := by decide +kernel
theorem dX9_bestAt_21 : decode cX9_bestAt 21 = .ok (.iconst 0, 1) := by decide +kernel
theorem dX9_bestAt_22 : decode cX9_bestAt 22 = .ok (.ireturn, 1) := by decide +kernel
theorem dX9_seek_0 : decode cX9_seek 0 = .ok (.aload_n 0, 1) := by decide +kernel
theorem dX9_seek_1 : decode cX9_seek 1 = .ok (.aload_n 1, 1) := by decide +kernel
theorem dX9_seek_2 : decode cX9_seek 2 = .ok (.iload_n 2, 1) := by decide +kernel
theorem dX9_seek_3 : decode cX9_seek 3 = .ok (.invokevirtual 28, 3) := by decide +kernel
theorem dX9_seek_6 : decode cX9_seek 6 = .ok (.aload_n 0, 1) := by decide +kernel
theorem dX9_seek_7 : decode cX9_seek 7 = .ok (.aload_n 0, 1) := by decide +kernel
theorem dX9_seek_8 : decode cX9_seek 8 = .ok (.getfield 24, 3) := by decide +kernel
theorem dX9_seek_11 : decode cX9_seek 11 = .ok (.ifCond .ne 7, 3) := by decide +kernel
theorem dX9_seek_14 : decode cX9_seek 14 = .ok (.iconst 0, 1) := by decide +kernel
theorem dX9_seek_15 : decode cX9_seek 15 = .ok (.goto 4, 3) := by decide +kernel
theorem dX9_seek_18 : decode cX9_seek 18 = .ok (.iconst (-1), 1) := by decide +kernel
theorem dX9_seek_19 : decode cX9_seek 19 = .ok (.putfield 32, 3) := by decide +kernel
theorem dX9_seek_22 : decode cX9_seek 22 = .ok (.iconst 0, 1) := by decide +kernel
theorem dX9_seek_23 : decode cX9_seek 23 = .ok (.istore_n 3, 1) := by decide +kernel
theorem dX9_seek_24 : decode cX9_seek 24 = .ok (.aload_n 0, 1) := by decide +kernel
theorem dX9_seek_25 : decode cX9_seek 25 = .ok (.getfield 15, 3) := by decide +kernel
theorem dX9_seek_28 : decode cX9_seek 28 = .ok (.iconst 0, 1) := by decide +kernel
theorem dX9_seek_29 : decode cX9_seek 29 = .ok (.iconst (-1), 1) := by decide +kernel
theorem dX9_seek_30 : decode cX9_seek 30 = .ok (.iastore, 1) := by decide +kernel
theorem dX9_seek_31 : decode cX9_seek 31 = .ok (.iconst 0, 1) := by decide +kernel
theorem dX9_seek_32 : decode cX9_seek 32 = .ok (.istore 4, 2) := by decide +kernel
theorem dX9_seek_34 : decode cX9_seek 34 = .ok (.iload 4, 2) := by decide +kernel
theorem dX9_seek_36 : decode cX9_seek 36 = .ok (.ldc 35, 2) := by decide +kernel
theorem dX9_seek_38 : decode cX9_seek 38 = .ok (.if_icmp .ge 128, 3) := by decide +kernel
theorem dX9_seek_41 : decode cX9_seek 41 = .ok (.iload_n 3, 1) := by decide +kernel
theorem dX9_seek_42 : decode cX9_seek 42 = .ok (.ifCond .lt 124, 3) := by decide +kernel
theorem dX9_seek_45 : decode cX9_seek 45 = .ok (.iload_n 3, 1) := by decide +kernel
theorem dX9_seek_46 : decode cX9_seek 46 = .ok (.aload_n 0, 1) := by decide +kernel
theorem dX9_seek_47 : decode cX9_seek 47 = .ok (.getfield 24, 3) := by decide +kernel
theorem dX9_seek_50 : decode cX9_seek 50 = .ok (.if_icmp .ge 116, 3) := by decide +kernel
theorem dX9_seek_53 : decode cX9_seek 53 = .ok (.aload_n 0, 1) := by decide +kernel
theorem dX9_seek_54 : decode cX9_seek 54 = .ok (.getfield 15, 3) := by decide +kernel
theorem dX9_seek_57 : decode cX9_seek 57 = .ok (.iload_n 3, 1) := by decide +kernel
theorem dX9_seek_58 : decode cX9_seek 58 = .ok (.dup2, 1) := by decide +kernel
theorem dX9_seek_59 : decode cX9_seek 59 = .ok (.iaload, 1) := by decide +kernel
theorem dX9_seek_60 : decode cX9_seek 60 = .ok (.iconst 1, 1) := by decide +kernel
theorem dX9_seek_61 : decode cX9_seek 61 = .ok (.iadd, 1) := by decide +kernel
theorem dX9_seek_62 : decode cX9_seek 62 = .ok (.iastore, 1) := by decide +kernel
theorem dX9_seek_63 : decode cX9_seek 63 = .ok (.aload_n 0, 1) := by decide +kernel
theorem dX9_seek_64 : decode cX9_seek 64 = .ok (.iload_n 3, 1) := by decide +kernel
theorem dX9_seek_65 : decode cX9_seek 65 = .ok (.invokevirtual 36, 3) := by decide +kernel
theorem dX9_seek_68 : decode cX9_seek 68 = .ok (.istore 5, 2) := by decide +kernel
theorem dX9_seek_70 : decode cX9_seek 70 = .ok (.aload_n 0, 1) := by decide +kernel
theorem dX9_seek_71 : decode cX9_seek 71 = .ok (.getfield 15, 3) := by decide +kernel
theorem dX9_seek_74 : decode cX9_seek 74 = .ok (.iload_n 3, 1) := by decide +kernel
theorem dX9_seek_75 : decode cX9_seek 75 = .ok (.iaload, 1) := by decide +kernel
theorem dX9_seek_76 : decode cX9_seek 76 = .ok (.aload_n 0, 1) := by decide +kernel
theorem dX9_seek_77 : decode cX9_seek 77 = .ok (.iload_n 3, 1) := by decide +kernel
theorem dX9_seek_78 : decode cX9_seek 78 = .ok (.invokevirtual 40, 3) := by decide +kernel
theorem dX9_seek_81 : decode cX9_seek 81 = .ok (.if_icmp .gt 20, 3) := by decide +kernel
theorem dX9_seek_84 : decode cX9_seek 84 = .ok (.aload_n 0, 1) := by decide +kernel
theorem dX9_seek_85 : decode cX9_seek 85 = .ok (.getfield 32, 3) := by decide +kernel
theorem dX9_seek_88 : decode cX9_seek 88 = .ok (.iconst (-1), 1) := by decide +kernel
theorem dX9_seek_89 : decode cX9_seek 89 = .ok (.if_icmp .eq 18, 3) := by decide +kernel
theorem dX9_seek_92 : decode cX9_seek 92 = .ok (.iload 5, 2) := by decide +kernel
theorem dX9_seek_94 : decode cX9_seek 94 = .ok (.aload_n 0, 1) := by decide +kernel
theorem dX9_seek_95 : decode cX9_seek 95 = .ok (.getfield 32, 3) := by decide +kernel
theorem dX9_seek_98 : decode cX9_seek 98 = .ok (.if_icmp .lt 9, 3) := by decide +kernel
theorem dX9_seek_101 : decode cX9_seek 101 = .ok (.iinc 3 (-1), 3) := by decide +kernel
theorem dX9_seek_104 : decode cX9_seek 104 = .ok (.goto 56, 3) := by decide +kernel
theorem dX9_seek_107 : decode cX9_seek 107 = .ok (.aload_n 0, 1) := by decide +kernel
theorem dX9_seek_108 : decode cX9_seek 108 = .ok (.aload_n 1, 1) := by decide +kernel
theorem dX9_seek_109 : decode cX9_seek 109 = .ok (.iload_n 3, 1) := by decide +kernel
theorem dX9_seek_110 : decode cX9_seek 110 = .ok (.invokevirtual 43, 3) := by decide +kernel
theorem dX9_seek_113 : decode cX9_seek 113 = .ok (.ifCond .eq 47, 3) := by decide +kernel
theorem dX9_seek_116 : decode cX9_seek 116 = .ok (.iload_n 3, 1) := by decide +kernel
theorem dX9_seek_117 : decode cX9_seek 117 = .ok (.aload_n 0, 1) := by decide +kernel
theorem dX9_seek_118 : decode cX9_seek 118 = .ok (.getfield 24, 3) := by decide +kernel
theorem dX9_seek_121 : decode cX9_seek 121 = .ok (.iconst 1, 1) := by decide +kernel
theorem dX9_seek_122 : decode cX9_seek 122 = .ok (.isub, 1) := by decide +kernel
theorem dX9_seek_123 : decode cX9_seek 123 = .ok (.if_icmp .ne 27, 3) := by decide +kernel
theorem dX9_seek_126 : decode cX9_seek 126 = .ok (.aload_n 0, 1) := by decide +kernel
theorem dX9_seek_127 : decode cX9_seek 127 = .ok (.iload 5, 2) := by decide +kernel
theorem dX9_seek_129 : decode cX9_seek 129 = .ok (.putfield 32, 3) := by decide +kernel
theorem dX9_seek_132 : decode cX9_seek 132 = .ok (.aload_n 0, 1) := by decide +kernel
theorem dX9_seek_133 : decode cX9_seek 133 = .ok (.getfield 15, 3) := by decide +kernel
theorem dX9_seek_136 : decode cX9_seek 136 = .ok (.iconst 0, 1) := by decide +kernel
theorem dX9_seek_137 : decode cX9_seek 137 = .ok (.aload_n 0, 1) := by decide +kernel
theorem dX9_seek_138 : decode cX9_seek 138 = .ok (.getfield 18, 3) := by decide +kernel
theorem dX9_seek_141 : decode cX9_seek 141 = .ok (.iconst 0, 1) := by decide +kernel
theorem dX9_seek_142 : decode cX9_seek 142 = .ok (.bipush 6, 2) := by decide +kernel
theorem dX9_seek_144 : decode cX9_seek 144 = .ok (.invokestatic 47, 3) := by decide +kernel
theorem dX9_seek_147 : decode cX9_seek 147 = .ok (.goto 13, 3) := by decide +kernel
theorem dX9_seek_150 : decode cX9_seek 150 = .ok (.iinc 3 1, 3) := by decide +kernel
theorem dX9_seek_153 : decode cX9_seek 153 = .ok (.aload_n 0, 1) := by decide +kernel
theorem dX9_seek_154 : decode cX9_seek 154 = .ok (.getfield 15, 3) := by decide +kernel
theorem dX9_seek_157 : decode cX9_seek 157 = .ok (.iload_n 3, 1) := by decide +kernel
theorem dX9_seek_158 : decode cX9_seek 158 = .ok (.iconst (-1), 1) := by decide +kernel
theorem dX9_seek_159 : decode cX9_seek 159 = .ok (.iastore, 1) := by decide +kernel
theorem dX9_seek_160 : decode cX9_seek 160 = .ok (.iinc 4 1, 3) := by decide +kernel
theorem dX9_seek_163 : decode cX9_seek 163 = .ok (.goto (-129), 3) := by decide +kernel
theorem dX9_seek_166 : decode cX9_seek 166 = .ok (.return_, 1) := by decide +kernel
theorem dX9_gather_0 : decode cX9_gather 0 = .ok (.aload_n 0, 1) := by decide +kernel
theorem dX9_gather_1 : decode cX9_gather 1 = .ok (.iconst 0, 1) := by decide +kernel
theorem dX9_gather_2 : decode cX9_gather 2 = .ok (.putfield 24, 3) := by decide +kernel
theorem dX9_gather_5 : decode cX9_gather 5 = .ok (.iconst 0, 1) := by decide +kernel
theorem dX9_gather_6 : decode cX9_gather 6 = .ok (.istore_n 3, 1) := by decide +kernel
theorem dX9_gather_7 : decode cX9_gather 7 = .ok (.iload_n 3, 1) := by decide +kernel
theorem dX9_gather_8 : decode cX9_gather 8 = .ok (.aload_n 1, 1) := by decide +kernel
theorem dX9_gather_9 : decode cX9_gather 9 = .ok (.getfield 53, 3) := by decide +kernel
theorem dX9_gather_12 : decode cX9_gather 12 = .ok (.invokevirtual 58, 3) := by decide +kernel
theorem dX9_gather_15 : decode cX9_gather 15 = .ok (.if_icmp .ge 56, 3) := by decide +kernel
theorem dX9_gather_18 : decode cX9_gather 18 = .ok (.aload_n 0, 1) := by decide +kernel
theorem dX9_gather_19 : decode cX9_gather 19 = .ok (.getfield 24, 3) := by decide +kernel
theorem dX9_gather_22 : decode cX9_gather 22 = .ok (.bipush 6, 2) := by decide +kernel
theorem dX9_gather_24 : decode cX9_gather 24 = .ok (.if_icmp .ge 47, 3) := by decide +kernel
theorem dX9_gather_27 : decode cX9_gather 27 = .ok (.iload_n 2, 1) := by decide +kernel
theorem dX9_gather_28 : decode cX9_gather 28 = .ok (.iload_n 3, 1) := by decide +kernel
theorem dX9_gather_29 : decode cX9_gather 29 = .ok (.invokestatic 64, 3) := by decide +kernel
theorem dX9_gather_32 : decode cX9_gather 32 = .ok (.ifCond .eq 33, 3) := by decide +kernel
theorem dX9_gather_35 : decode cX9_gather 35 = .ok (.aload_n 0, 1) := by decide +kernel
theorem dX9_gather_36 : decode cX9_gather 36 = .ok (.getfield 11, 3) := by decide +kernel
theorem dX9_gather_39 : decode cX9_gather 39 = .ok (.aload_n 0, 1) := by decide +kernel
theorem dX9_gather_40 : decode cX9_gather 40 = .ok (.getfield 24, 3) := by decide +kernel
theorem dX9_gather_43 : decode cX9_gather 43 = .ok (.iload_n 3, 1) := by decide +kernel
theorem dX9_gather_44 : decode cX9_gather 44 = .ok (.iastore, 1) := by decide +kernel
theorem dX9_gather_45 : decode cX9_gather 45 = .ok (.aload_n 0, 1) := by decide +kernel
theorem dX9_gather_46 : decode cX9_gather 46 = .ok (.getfield 21, 3) := by decide +kernel
theorem dX9_gather_49 : decode cX9_gather 49 = .ok (.aload_n 0, 1) := by decide +kernel
theorem dX9_gather_50 : decode cX9_gather 50 = .ok (.getfield 24, 3) := by decide +kernel
theorem dX9_gather_53 : decode cX9_gather 53 = .ok (.iconst 0, 1) := by decide +kernel
theorem dX9_gather_54 : decode cX9_gather 54 = .ok (.iastore, 1) := by decide +kernel
theorem dX9_gather_55 : decode cX9_gather 55 = .ok (.aload_n 0, 1) := by decide +kernel
theorem dX9_gather_56 : decode cX9_gather 56 = .ok (.dup, 1) := by decide +kernel
theorem dX9_gather_57 : decode cX9_gather 57 = .ok (.getfield 24, 3) := by decide +kernel
theorem dX9_gather_60 : decode cX9_gather 60 = .ok (.iconst 1, 1) := by decide +kernel
theorem dX9_gather_61 : decode cX9_gather 61 = .ok (.iadd, 1) := by decide +kernel
theorem dX9_gather_62 : decode cX9_gather 62 = .ok (.putfield 24, 3) := by decide +kernel
theorem dX9_gather_65 : decode cX9_gather 65 = .ok (.iinc 3 1, 3) := by decide +kernel
theorem dX9_gather_68 : decode cX9_gather 68 = .ok (.goto (-61), 3) := by decide +kernel
theorem dX9_gather_71 : decode cX9_gather 71 = .ok (.iconst 0, 1) := by decide +kernel
theorem dX9_gather_72 : decode cX9_gather 72 = .ok (.istore_n 3, 1) := by decide +kernel
theorem dX9_gather_73 : decode cX9_gather 73 = .ok (.iload_n 3, 1) := by decide +kernel
theorem dX9_gather_74 : decode cX9_gather 74 = .ok (.aload_n 0, 1) := by decide +kernel
theorem dX9_gather_75 : decode cX9_gather 75 = .ok (.getfield 24, 3) := by decide +kernel
theorem dX9_gather_78 : decode cX9_gather 78 = .ok (.if_icmp .ge 90, 3) := by decide +kernel
theorem dX9_gather_81 : decode cX9_gather 81 = .ok (.iconst 0, 1) := by decide +kernel
theorem dX9_gather_82 : decode cX9_gather 82 = .ok (.istore 4, 2) := by decide +kernel
theorem dX9_gather_84 : decode cX9_gather 84 = .ok (.iload 4, 2) := by decide +kernel
theorem dX9_gather_86 : decode cX9_gather 86 = .ok (.iload_n 3, 1) := by decide +kernel
theorem dX9_gather_87 : decode cX9_gather 87 = .ok (.if_icmp .ge 75, 3) := by decide +kernel
theorem dX9_gather_90 : decode cX9_gather 90 = .ok (.aload_n 1, 1) := by decide +kernel
theorem dX9_gather_91 : decode cX9_gather 91 = .ok (.aload_n 0, 1) := by decide +kernel
theorem dX9_gather_92 : decode cX9_gather 92 = .ok (.getfield 11, 3) := by decide +kernel
theorem dX9_gather_95 : decode cX9_gather 95 = .ok (.iload_n 3, 1) := by decide +kernel
theorem dX9_gather_96 : decode cX9_gather 96 = .ok (.iaload, 1) := by decide +kernel
theorem dX9_gather_97 : decode cX9_gather 97 = .ok (.aload_n 0, 1) := by decide +kernel
theorem dX9_gather_98 : decode cX9_gather 98 = .ok (.getfield 11, 3) := by decide +kernel
theorem dX9_gather_101 : decode cX9_gather 101 = .ok (.iload 4, 2) := by decide +kernel
theorem dX9_gather_103 : decode cX9_gather 103 = .ok (.iaload, 1) := by decide +kernel
theorem dX9_gather_104 : decode cX9_gather 104 = .ok (.invokevirtual 68, 3) := by decide +kernel
theorem dX9_gather_107 : decode cX9_gather 107 = .ok (.ifCond .ne 23, 3) := by decide +kernel
theorem dX9_gather_110 : decode cX9_gather 110 = .ok (.aload_n 1, 1) := by decide +kernel
theorem dX9_gather_111 : decode cX9_gather 111 = .ok (.aload_n 0, 1) := by decide +kernel
theorem dX9_gather_112 : decode cX9_gather 112 = .ok (.getfield 11, 3) := by decide +kernel
theorem dX9_gather_115 : decode cX9_gather 115 = .ok (.iload_n 3, 1) := by decide +kernel
theorem dX9_gather_116 : decode cX9_gather 116 = .ok (.iaload, 1) := by decide +kernel
theorem dX9_gather_117 : decode cX9_gather 117 = .ok (.aload_n 0, 1) := by decide +kernel
theorem dX9_gather_118 : decode cX9_gather 118 = .ok (.getfield 11, 3) := by decide +kernel
theorem dX9_gather_121 : decode cX9_gather 121 = .ok (.iload 4, 2) := by decide +kernel
theorem dX9_gather_123 : decode cX9_gather 123 = .ok (.iaload, 1) := by decide +kernel
theorem dX9_gather_124 : decode cX9_gather 124 = .ok (.invokevirtual 71, 3) := by decide +kernel
theorem dX9_gather_127 : decode cX9_gather 127 = .ok (.ifCond .eq 29, 3) := by decide +kernel
theorem dX9_gather_130 : decode cX9_gather 130 = .ok (.aload_n 0, 1) := by decide +kernel
theorem dX9_gather_131 : decode cX9_gather 131 = .ok (.getfield 21, 3) := by decide +kernel
theorem dX9_gather_134 : decode cX9_gather 134 = .ok (.iload_n 3, 1) := by decide +kernel
theorem dX9_gather_135 : decode cX9_gather 135 = .ok (.dup2, 1) := by decide +kernel
theorem dX9_gather_136 : decode cX9_gather 136 = .ok (.iaload, 1) := by decide +kernel
theorem dX9_gather_137 : decode cX9_gather 137 = .ok (.iconst 1, 1) := by decide +kernel
theorem dX9_gather_138 : decode cX9_gather 138 = .ok (.iload 4, 2) := by decide +kernel
theorem dX9_gather_140 : decode cX9_gather 140 = .ok (.ishl, 1) := by decide +kernel
theorem dX9_gather_141 : decode cX9_gather 141 = .ok (.ior, 1) := by decide +kernel
theorem dX9_gather_142 : decode cX9_gather 142 = .ok (.iastore, 1) := by decide +kernel
theorem dX9_gather_143 : decode cX9_gather 143 = .ok (.aload_n 0, 1) := by decide +kernel
theorem dX9_gather_144 : decode cX9_gather 144 = .ok (.getfield 21, 3) := by decide +kernel
theorem dX9_gather_147 : decode cX9_gather 147 = .ok (.iload 4, 2) := by decide +kernel
theorem dX9_gather_149 : decode cX9_gather 149 = .ok (.dup2, 1) := by decide +kernel
theorem dX9_gather_150 : decode cX9_gather 150 = .ok (.iaload, 1) := by decide +kernel
theorem dX9_gather_151 : decode cX9_gather 151 = .ok (.iconst 1, 1) := by decide +kernel
theorem dX9_gather_152 : decode cX9_gather 152 = .ok (.iload_n 3, 1) := by decide +kernel
theorem dX9_gather_153 : decode cX9_gather 153 = .ok (.ishl, 1) := by decide +kernel
theorem dX9_gather_154 : decode cX9_gather 154 = .ok (.ior, 1) := by decide +kernel
theorem dX9_gather_155 : decode cX9_gather 155 = .ok (.iastore, 1) := by decide +kernel
theorem dX9_gather_156 : decode cX9_gather 156 = .ok (.iinc 4 1, 3) := by decide +kernel
theorem dX9_gather_159 : decode cX9_gather 159 = .ok (.goto (-75), 3) := by decide +kernel
theorem dX9_gather_162 : decode cX9_gather 162 = .ok (.iinc 3 1, 3) := by decide +kernel
theorem dX9_gather_165 : decode cX9_gather 165 = .ok (.goto (-92), 3) := by decide +kernel
theorem dX9_gather_168 : decode cX9_gather 168 = .ok (.return_, 1) := by decide +kernel
theorem dX9_longestOf_0 : decode cX9_longestOf 0 = .ok (.aload_n 0, 1) := by decide +kernel
theorem dX9_longestOf_1 : decode cX9_longestOf 1 = .ok (.getfield 21, 3) := by decide +kernel
theorem dX9_longestOf_4 : decode cX9_longestOf 4 = .ok (.iload_n 1, 1) := by decide +kernel
theorem dX9_longestOf_5 : decode cX9_longestOf 5 = .ok (.iaload, 1) := by decide +kernel
theorem dX9_longestOf_6 : decode cX9_longestOf 6 = .ok (.ifCond .ne 7, 3) := by decide +kernel
theorem dX9_longestOf_9 : decode cX9_longestOf 9 = .ok (.iconst 0, 1) := by decide +kernel
theorem dX9_longestOf_10 : decode cX9_longestOf 10 = .ok (.goto 4, 3) := by decide +kernel
theorem dX9_longestOf_13 : decode cX9_longestOf 13 = .ok (.iconst 5, 1) := by decide +kernel
theorem dX9_longestOf_14 : decode cX9_longestOf 14 = .ok (.ireturn, 1) := by decide +kernel
theorem dX9_sumTo_0 : decode cX9_sumTo 0 = .ok (.iconst 0, 1) := by decide +kernel
theorem dX9_sumTo_1 : decode cX9_sumTo 1 = .ok (.istore_n 2, 1) := by decide +kernel
theorem dX9_sumTo_2 : decode cX9_sumTo 2 = .ok (.iconst 0, 1) := by decide +kernel
theorem dX9_sumTo_3 : decode cX9_sumTo 3 = .ok (.istore_n 3, 1) := by decide +kernel
theorem dX9_sumTo_4 : decode cX9_sumTo 4 = .ok (.iload_n 3, 1) := by decide +kernel
theorem dX9_sumTo_5 : decode cX9_sumTo 5 = .ok (.iload_n 1, 1) := by decide +kernel
theorem dX9_sumTo_6 : decode cX9_sumTo 6 = .ok (.if_icmp .gt 18, 3) := by decide +kernel
theorem dX9_sumTo_9 : decode cX9_sumTo 9 = .ok (.iload_n 2, 1) := by decide +kernel
theorem dX9_sumTo_10 : decode cX9_sumTo 10 = .ok (.aload_n 0, 1) := by decide +kernel
theorem dX9_sumTo_11 : decode cX9_sumTo 11 = .ok (.getfield 15, 3) := by decide +kernel
theorem dX9_sumTo_14 : decode cX9_sumTo 14 = .ok (.iload_n 3, 1) := by decide +kernel
theorem dX9_sumTo_15 : decode cX9_sumTo 15 = .ok (.iaload, 1) := by decide +kernel
theorem dX9_sumTo_16 : decode cX9_sumTo 16 = .ok (.iadd, 1) := by decide +kernel
theorem dX9_sumTo_17 : decode cX9_sumTo 17 = .ok (.istore_n 2, 1) := by decide +kernel
theorem dX9_sumTo_18 : decode cX9_sumTo 18 = .ok (.iinc 3 1, 3) := by decide +kernel
theorem dX9_sumTo_21 : decode cX9_sumTo 21 = .ok (.goto (-17), 3) := by decide +kernel
theorem dX9_sumTo_24 : decode cX9_sumTo 24 = .ok (.iload_n 2, 1) := by decide +kernel
theorem dX9_sumTo_25 : decode cX9_sumTo 25 = .ok (.ireturn, 1) := by decide +kernel
theorem dX9_fits_0 : decode cX9_fits 0 = .ok (.aload_n 1, 1) := by decide +kernel
theorem dX9_fits_1 : decode cX9_fits 1 = .ok (.getfield 53, 3) := by decide +kernel
theorem dX9_fits_4 : decode cX9_fits 4 = .ok (.aload_n 0, 1) := by decide +kernel
theorem dX9_fits_5 : decode cX9_fits 5 = .ok (.getfield 11, 3) := by decide +kernel
theorem dX9_fits_8 : decode cX9_fits 8 = .ok (.iload_n 2, 1) := by decide +kernel
theorem dX9_fits_9 : decode cX9_fits 9 = .ok (.iaload, 1) := by decide +kernel
theorem dX9_fits_10 : decode cX9_fits 10 = .ok (.iconst 0, 1) := by decide +kernel
theorem dX9_fits_11 : decode cX9_fits 11 = .ok (.invokevirtual 74, 3) := by decide +kernel
theorem dX9_fits_14 : decode cX9_fits 14 = .ok (.aload_n 0, 1) := by decide +kernel
theorem dX9_fits_15 : decode cX9_fits 15 = .ok (.getfield 15, 3) := by decide +kernel
theorem dX9_fits_18 : decode cX9_fits 18 = .ok (.iload_n 2, 1) := by decide +kernel
theorem dX9_fits_19 : decode cX9_fits 19 = .ok (.iaload, 1) := by decide +kernel
theorem dX9_fits_20 : decode cX9_fits 20 = .ok (.iadd, 1) := by decide +kernel
theorem dX9_fits_21 : decode cX9_fits 21 = .ok (.istore_n 3, 1) := by decide +kernel
theorem dX9_fits_22 : decode cX9_fits 22 = .ok (.aload_n 1, 1) := by decide +kernel
theorem dX9_fits_23 : decode cX9_fits 23 = .ok (.aload_n 0, 1) := by decide +kernel
theorem dX9_fits_24 : decode cX9_fits 24 = .ok (.getfield 11, 3) := by decide +kernel
theorem dX9_fits_27 : decode cX9_fits 27 = .ok (.iload_n 2, 1) := by decide +kernel
theorem dX9_fits_28 : decode cX9_fits 28 = .ok (.iaload, 1) := by decide +kernel
theorem dX9_fits_29 : decode cX9_fits 29 = .ok (.invokevirtual 78, 3) := by decide +kernel
theorem dX9_fits_32 : decode cX9_fits 32 = .ok (.aload_n 0, 1) := by decide +kernel
theorem dX9_fits_33 : decode cX9_fits 33 = .ok (.getfield 15, 3) := by decide +kernel
theorem dX9_fits_36 : decode cX9_fits 36 = .ok (.iload_n 2, 1) := by decide +kernel
theorem dX9_fits_37 : decode cX9_fits 37 = .ok (.iaload, 1) := by decide +kernel
theorem dX9_fits_38 : decode cX9_fits 38 = .ok (.iadd, 1) := by decide +kernel
theorem dX9_fits_39 : decode cX9_fits 39 = .ok (.istore 4, 2) := by decide +kernel
theorem dX9_fits_41 : decode cX9_fits 41 = .ok (.iconst 0, 1) := by decide +kernel
theorem dX9_fits_42 : decode cX9_fits 42 = .ok (.istore 5, 2) := by decide +kernel
theorem dX9_fits_44 : decode cX9_fits 44 = .ok (.iload 5, 2) := by decide +kernel
theorem dX9_fits_46 : decode cX9_fits 46 = .ok (.iload_n 2, 1) := by decide +kernel
theorem dX9_fits_47 : decode cX9_fits 47 = .ok (.if_icmp .ge 100, 3) := by decide +kernel
theorem dX9_fits_50 : decode cX9_fits 50 = .ok (.aload_n 1, 1) := by decide +kernel
theorem dX9_fits_51 : decode cX9_fits 51 = .ok (.aload_n 0, 1) := by decide +kernel
theorem dX9_fits_52 : decode cX9_fits 52 = .ok (.getfield 11, 3) := by decide +kernel
theorem dX9_fits_55 : decode cX9_fits 55 = .ok (.iload 5, 2) := by decide +kernel
theorem dX9_fits_57 : decode cX9_fits 57 = .ok (.iaload, 1) := by decide +kernel
theorem dX9_fits_58 : decode cX9_fits 58 = .ok (.invokevirtual 78, 3) := by decide +kernel
theorem dX9_fits_61 : decode cX9_fits 61 = .ok (.aload_n 0, 1) := by decide +kernel
theorem dX9_fits_62 : decode cX9_fits 62 = .ok (.getfield 15, 3) := by decide +kernel
theorem dX9_fits_65 : decode cX9_fits 65 = .ok (.iload 5, 2) := by decide +kernel
theorem dX9_fits_67 : decode cX9_fits 67 = .ok (.iaload, 1) := by decide +kernel
theorem dX9_fits_68 : decode cX9_fits 68 = .ok (.iadd, 1) := by decide +kernel
theorem dX9_fits_69 : decode cX9_fits 69 = .ok (.iload_n 3, 1) := by decide +kernel
theorem dX9_fits_70 : decode cX9_fits 70 = .ok (.if_icmp .ge 7, 3) := by decide +kernel
theorem dX9_fits_73 : decode cX9_fits 73 = .ok (.iconst 1, 1) := by decide +kernel
theorem dX9_fits_74 : decode cX9_fits 74 = .ok (.goto 4, 3) := by decide +kernel
theorem dX9_fits_77 : decode cX9_fits 77 = .ok (.iconst 0, 1) := by decide +kernel
theorem dX9_fits_78 : decode cX9_fits 78 = .ok (.istore 6, 2) := by decide +kernel
theorem dX9_fits_80 : decode cX9_fits 80 = .ok (.aload_n 1, 1) := by decide +kernel
theorem dX9_fits_81 : decode cX9_fits 81 = .ok (.getfield 53, 3) := by decide +kernel
theorem dX9_fits_84 : decode cX9_fits 84 = .ok (.aload_n 0, 1) := by decide +kernel
theorem dX9_fits_85 : decode cX9_fits 85 = .ok (.getfield 11, 3) := by decide +kernel
theorem dX9_fits_88 : decode cX9_fits 88 = .ok (.iload 5, 2) := by decide +kernel
theorem dX9_fits_90 : decode cX9_fits 90 = .ok (.iaload, 1) := by decide +kernel
theorem dX9_fits_91 : decode cX9_fits 91 = .ok (.iconst 0, 1) := by decide +kernel
theorem dX9_fits_92 : decode cX9_fits 92 = .ok (.invokevirtual 74, 3) := by decide +kernel
theorem dX9_fits_95 : decode cX9_fits 95 = .ok (.aload_n 0, 1) := by decide +kernel
theorem dX9_fits_96 : decode cX9_fits 96 = .ok (.getfield 15, 3) := by decide +kernel
theorem dX9_fits_99 : decode cX9_fits 99 = .ok (.iload 5, 2) := by decide +kernel
theorem dX9_fits_101 : decode cX9_fits 101 = .ok (.iaload, 1) := by decide +kernel
theorem dX9_fits_102 : decode cX9_fits 102 = .ok (.iadd, 1) := by decide +kernel
theorem dX9_fits_103 : decode cX9_fits 103 = .ok (.iload 4, 2) := by decide +kernel
theorem dX9_fits_105 : decode cX9_fits 105 = .ok (.if_icmp .le 7, 3) := by decide +kernel
theorem dX9_fits_108 : decode cX9_fits 108 = .ok (.iconst 1, 1) := by decide +kernel
theorem dX9_fits_109 : decode cX9_fits 109 = .ok (.goto 4, 3) := by decide +kernel
theorem dX9_fits_112 : decode cX9_fits 112 = .ok (.iconst 0, 1) := by decide +kernel
theorem dX9_fits_113 : decode cX9_fits 113 = .ok (.istore 7, 2) := by decide +kernel
theorem dX9_fits_115 : decode cX9_fits 115 = .ok (.aload_n 0, 1) := by decide +kernel
theorem dX9_fits_116 : decode cX9_fits 116 = .ok (.getfield 21, 3) := by decide +kernel
theorem dX9_fits_119 : decode cX9_fits 119 = .ok (.iload_n 2, 1) := by decide +kernel
theorem dX9_fits_120 : decode cX9_fits 120 = .ok (.iaload, 1) := by decide +kernel
theorem dX9_fits_121 : decode cX9_fits 121 = .ok (.iload 5, 2) := by decide +kernel
theorem dX9_fits_123 : decode cX9_fits 123 = .ok (.invokestatic 64, 3) := by decide +kernel
theorem dX9_fits_126 : decode cX9_fits 126 = .ok (.ifCond .eq 15, 3) := by decide +kernel
theorem dX9_fits_129 : decode cX9_fits 129 = .ok (.iload 6, 2) := by decide +kernel
theorem dX9_fits_131 : decode cX9_fits 131 = .ok (.ifCond .ne 10, 3) := by decide +kernel
theorem dX9_fits_134 : decode cX9_fits 134 = .ok (.iload 7, 2) := by decide +kernel
theorem dX9_fits_136 : decode cX9_fits 136 = .ok (.ifCond .ne 5, 3) := by decide +kernel
theorem dX9_fits_139 : decode cX9_fits 139 = .ok (.iconst 0, 1) := by decide +kernel
theorem dX9_fits_140 : decode cX9_fits 140 = .ok (.ireturn, 1) := by decide +kernel
theorem dX9_fits_141 : decode cX9_fits 141 = .ok (.iinc 5 1, 3) := by decide +kernel
theorem dX9_fits_144 : decode cX9_fits 144 = .ok (.goto (-100), 3) := by decide +kernel
theorem dX9_fits_147 : decode cX9_fits 147 = .ok (.iconst 1, 1) := by decide +kernel
theorem dX9_fits_148 : decode cX9_fits 148 = .ok (.ireturn, 1) := by decide +kernel
theorem dX10_init_0 : decode cX10_init 0 = .ok (.aload_n 0, 1) := by decide +kernel
theorem dX10_init_1 : decode cX10_init 1 = .ok (.invokespecial 3, 3) := by decide +kernel
theorem dX10_init_4 : decode cX10_init 4 = .ok (.aload_n 0, 1) := by decide +kernel
theorem dX10_init_5 : decode cX10_init 5 = .ok (.new 9, 3) := by decide +kernel
theorem dX10_init_8 : decode cX10_init 8 = .ok (.dup, 1) := by decide +kernel
theorem dX10_init_9 : decode cX10_init 9 = .ok (.invokespecial 11, 3) := by decide +kernel
theorem dX10_init_12 : decode cX10_init 12 = .ok (.putfield 12, 3) := by decide +kernel
theorem dX10_init_15 : decode cX10_init 15 = .ok (.aload_n 0, 1) := by decide +kernel
theorem dX10_init_16 : decode cX10_init 16 = .ok (.aload_n 0, 1) := by decide +kernel
theorem dX10_init_17 : decode cX10_init 17 = .ok (.getfield 12, 3) := by decide +kernel
theorem dX10_init_20 : decode cX10_init 20 = .ok (.getfield 16, 3) := by decide +kernel
theorem dX10_init_23 : decode cX10_init 23 = .ok (.putfield 20, 3) := by decide +kernel
theorem dX10_init_26 : decode cX10_init 26 = .ok (.aload_n 0, 1) := by decide +kernel
theorem dX10_init_27 : decode cX10_init 27 = .ok (.iconst 2, 1) := by decide +kernel
theorem dX10_init_28 : decode cX10_init 28 = .ok (.anewarray 21, 3) := by decide +kernel
theorem dX10_init_31 : decode cX10_init 31 = .ok (.putfield 23, 3) := by decide +kernel
theorem dX10_init_34 : decode cX10_init 34 = .ok (.aload_n 0, 1) := by decide +kernel
theorem dX10_init_35 : decode cX10_init 35 = .ok (.iconst 2, 1) := by decide +kernel
theorem dX10_init_36 : decode cX10_init 36 = .ok (.newarray .boolean, 2) := by decide +kernel
theorem dX10_init_38 : decode cX10_init 38 = .ok (.putfield 27, 3) := by decide +kernel
theorem dX10_init_41 : decode cX10_init 41 = .ok (.aload_n 0, 1) := by decide +kernel
theorem dX10_init_42 : decode cX10_init 42 = .ok (.new 31, 3) := by decide +kernel
theorem dX10_init_45 : decode cX10_init 45 = .ok (.dup, 1) := by decide +kernel
theorem dX10_init_46 : decode cX10_init 46 = .ok (.invokespecial 33, 3) := by decide +kernel
theorem dX10_init_49 : decode cX10_init 49 = .ok (.putfield 34, 3) := by decide +kernel
theorem dX10_init_52 : decode cX10_init 52 = .ok (.aload_n 0, 1) := by decide +kernel
theorem dX10_init_53 : decode cX10_init 53 = .ok (.new 38, 3) := by decide +kernel
theorem dX10_init_56 : decode cX10_init 56 = .ok (.dup, 1) := by decide +kernel
theorem dX10_init_57 : decode cX10_init 57 = .ok (.invokespecial 40, 3) := by decide +kernel
theorem dX10_init_60 : decode cX10_init 60 = .ok (.putfield 41, 3) := by decide +kernel
theorem dX10_init_63 : decode cX10_init 63 = .ok (.aload_n 0, 1) := by decide +kernel
theorem dX10_init_64 : decode cX10_init 64 = .ok (.new 45, 3) := by decide +kernel
theorem dX10_init_67 : decode cX10_init 67 = .ok (.dup, 1) := by decide +kernel
theorem dX10_init_68 : decode cX10_init 68 = .ok (.invokespecial 47, 3) := by decide +kernel
theorem dX10_init_71 : decode cX10_init 71 = .ok (.putfield 48, 3) := by decide +kernel
theorem dX10_init_74 : decode cX10_init 74 = .ok (.iconst 0, 1) := by decide +kernel
theorem dX10_init_75 : decode cX10_init 75 = .ok (.istore_n 1, 1) := by decide +kernel
theorem dX10_init_76 : decode cX10_init 76 = .ok (.iload_n 1, 1) := by decide +kernel
theorem dX10_init_77 : decode cX10_init 77 = .ok (.iconst 2, 1) := by decide +kernel
theorem dX10_init_78 : decode cX10_init 78 = .ok (.if_icmp .ge 22, 3) := by decide +kernel
theorem dX10_init_81 : decode cX10_init 81 = .ok (.aload_n 0, 1) := by decide +kernel
theorem dX10_init_82 : decode cX10_init 82 = .ok (.getfield 23, 3) := by decide +kernel
theorem dX10_init_85 : decode cX10_init 85 = .ok (.iload_n 1, 1) := by decide +kernel
theorem dX10_init_86 : decode cX10_init 86 = .ok (.new 21, 3) := by decide +kernel
theorem dX10_init_89 : decode cX10_init 89 = .ok (.dup, 1) := by decide +kernel
theorem dX10_init_90 : decode cX10_init 90 = .ok (.invokespecial 52, 3) := by decide +kernel
theorem dX10_init_93 : decode cX10_init 93 = .ok (.aastore, 1) := by decide +kernel
theorem dX10_init_94 : decode cX10_init 94 = .ok (.iinc 1 1, 3) := by decide +kernel
theorem dX10_init_97 : decode cX10_init 97 = .ok (.goto (-21), 3) := by decide +kernel
theorem dX10_init_100 : decode cX10_init 100 = .ok (.return_, 1) := by decide +kernel
theorem dX10_person_0 : decode cX10_person 0 = .ok (.iload_n 1, 1) := by decide +kernel
theorem dX10_person_1 : decode cX10_person 1 = .ok (.iconst 0, 1) := by decide +kernel
theorem dX10_person_2 : decode cX10_person 2 = .ok (.iconst 3, 1) := by decide +kernel
theorem dX10_person_3 : decode cX10_person 3 = .ok (.invokestatic 53, 3) := by decide +kernel
theorem dX10_person_6 : decode cX10_person 6 = .ok (.ifCond .eq 34, 3) := by decide +kernel
theorem dX10_person_9 : decode cX10_person 9 = .ok (.iload_n 2, 1) := by decide +kernel
theorem dX10_person_10 : decode cX10_person 10 = .ok (.iconst 0, 1) := by decide +kernel
theorem dX10_person_11 : decode cX10_person 11 = .ok (.iconst 3, 1) := by decide +kernel
theorem dX10_person_12 : decode cX10_person 12 = .ok (.invokestatic 53, 3) := by decide +kernel
theorem dX10_person_15 : decode cX10_person 15 = .ok (.ifCond .eq 25, 3) := by decide +kernel
theorem dX10_person_18 : decode cX10_person 18 = .ok (.iload_n 3, 1) := by decide +kernel
theorem dX10_person_19 : decode cX10_person 19 = .ok (.iconst 0, 1) := by decide +kernel
theorem dX10_person_20 : decode cX10_person 20 = .ok (.sipush 1000, 3) := by decide +kernel
theorem dX10_person_23 : decode cX10_person 23 = .ok (.invokestatic 53, 3) := by decide +kernel
theorem dX10_person_26 : decode cX10_person 26 = .ok (.ifCond .eq 14, 3) := by decide +kernel
theorem dX10_person_29 : decode cX10_person 29 = .ok (.iload 4, 2) := by decide +kernel
theorem dX10_person_31 : decode cX10_person 31 = .ok (.iconst 0, 1) := by decide +kernel
theorem dX10_person_32 : decode cX10_person 32 = .ok (.bipush 99, 2) := by decide +kernel
theorem dX10_person_34 : decode cX10_person 34 = .ok (.invokestatic 53, 3) := by decide +kernel
theorem dX10_person_37 : decode cX10_person 37 = .ok (.ifCond .ne 6, 3) := by decide +kernel
theorem dX10_person_40 : decode cX10_person 40 = .ok (.bipush (-2), 2) := by decide +kernel
theorem dX10_person_42 : decode cX10_person 42 = .ok (.ireturn, 1) := by decide +kernel
theorem dX10_person_43 : decode cX10_person 43 = .ok (.aload_n 0, 1) := by decide +kernel
theorem dX10_person_44 : decode cX10_person 44 = .ok (.getfield 20, 3) := by decide +kernel
theorem dX10_person_47 : decode cX10_person 47 = .ok (.getfield 57, 3) := by decide +kernel
theorem dX10_person_50 : decode cX10_person 50 = .ok (.invokevirtual 61, 3) := by decide +kernel
theorem dX10_person_53 : decode cX10_person 53 = .ok (.istore 5, 2) := by decide +kernel
theorem dX10_person_55 : decode cX10_person 55 = .ok (.iload 5, 2) := by decide +kernel
theorem dX10_person_57 : decode cX10_person 57 = .ok (.bipush (-4), 2) := by decide +kernel
theorem dX10_person_59 : decode cX10_person 59 = .ok (.if_icmp .ne 6, 3) := by decide +kernel
theorem dX10_person_62 : decode cX10_person 62 = .ok (.bipush (-4), 2) := by decide +kernel
theorem dX10_person_64 : decode cX10_person 64 = .ok (.ireturn, 1) := by decide +kernel
theorem dX10_person_65 : decode cX10_person 65 = .ok (.aload_n 0, 1) := by decide +kernel
theorem dX10_person_66 : decode cX10_person 66 = .ok (.getfield 20, 3) := by decide +kernel
theorem dX10_person_69 : decode cX10_person 69 = .ok (.getfield 57, 3) := by decide +kernel
theorem dX10_person_72 : decode cX10_person 72 = .ok (.iload 5, 2) := by decide +kernel
theorem dX10_person_74 : decode cX10_person 74 = .ok (.iconst 0, 1) := by decide +kernel
theorem dX10_person_75 : decode cX10_person 75 = .ok (.iload_n 1, 1) := by decide +kernel
theorem dX10_person_76 : decode cX10_person 76 = .ok (.invokevirtual 67, 3) := by decide +kernel
theorem dX10_person_79 : decode cX10_person 79 = .ok (.aload_n 0, 1) := by decide +kernel
theorem dX10_person_80 : decode cX10_person 80 = .ok (.getfield 20, 3) := by decide +kernel
theorem dX10_person_83 : decode cX10_person 83 = .ok (.getfield 57, 3) := by decide +kernel
theorem dX10_person_86 : decode cX10_person 86 = .ok (.iload 5, 2) := by decide +kernel
theorem dX10_person_88 : decode cX10_person 88 = .ok (.iconst 1, 1) := by decide +kernel
theorem dX10_person_89 : decode cX10_person 89 = .ok (.iload_n 2, 1) := by decide +kernel
theorem dX10_person_90 : decode cX10_person 90 = .ok (.invokevirtual 67, 3) := by decide +kernel
theorem dX10_person_93 : decode cX10_person 93 = .ok (.aload_n 0, 1) := by decide +kernel
theorem dX10_person_94 : decode cX10_person 94 = .ok (.getfield 20, 3) := by decide +kernel
theorem dX10_person_97 : decode cX10_person 97 = .ok (.getfield 57, 3) := by decide +kernel
theorem dX10_person_100 : decode cX10_person 100 = .ok (.iload 5, 2) := by decide +kernel
theorem dX10_person_102 : decode cX10_person 102 = .ok (.iconst 2, 1) := by decide +kernel
theorem dX10_person_103 : decode cX10_person 103 = .ok (.iload_n 3, 1) := by decide +kernel
theorem dX10_person_104 : decode cX10_person 104 = .ok (.invokevirtual 67, 3) := by decide +kernel
theorem dX10_person_107 : decode cX10_person 107 = .ok (.aload_n 0, 1) := by decide +kernel
theorem dX10_person_108 : decode cX10_person 108 = .ok (.getfield 20, 3) := by decide +kernel
theorem dX10_person_111 : decode cX10_person 111 = .ok (.getfield 57, 3) := by decide +kernel
theorem dX10_person_114 : decode cX10_person 114 = .ok (.iload 5, 2) := by decide +kernel
theorem dX10_person_116 : decode cX10_person 116 = .ok (.iconst 3, 1) := by decide +kernel
theorem dX10_person_117 : decode cX10_person 117 = .ok (.iload 4, 2) := by decide +kernel
theorem dX10_person_119 : decode cX10_person 119 = .ok (.invokevirtual 67, 3) := by decide +kernel
theorem dX10_person_122 : decode cX10_person 122 = .ok (.aload_n 0, 1) := by decide +kernel
theorem dX10_person_123 : decode cX10_person 123 = .ok (.getfield 12, 3) := by decide +kernel
theorem dX10_person_126 : decode cX10_person 126 = .ok (.iconst 0, 1) := by decide +kernel
theorem dX10_person_127 : decode cX10_person 127 = .ok (.invokevirtual 71, 3) := by decide +kernel
theorem dX10_person_130 : decode cX10_person 130 = .ok (.iload 5, 2) := by decide +kernel
theorem dX10_person_132 : decode cX10_person 132 = .ok (.ireturn, 1) := by decide +kernel
theorem dX10_kin_0 : decode cX10_kin 0 = .ok (.aload_n 0, 1) := by decide +kernel
theorem dX10_kin_1 : decode cX10_kin 1 = .ok (.getfield 20, 3) := by decide +kernel
theorem dX10_kin_4 : decode cX10_kin 4 = .ok (.getfield 57, 3) := by decide +kernel
theorem dX10_kin_7 : decode cX10_kin 7 = .ok (.iload_n 1, 1) := by decide +kernel
theorem dX10_kin_8 : decode cX10_kin 8 = .ok (.invokevirtual 75, 3) := by decide +kernel
theorem dX10_kin_11 : decode cX10_kin 11 = .ok (.ifCond .eq 20, 3) := by decide +kernel
theorem dX10_kin_14 : decode cX10_kin 14 = .ok (.iload_n 2, 1) := by decide +kernel
theorem dX10_kin_15 : decode cX10_kin 15 = .ok (.iconst 0, 1) := by decide +kernel
theorem dX10_kin_16 : decode cX10_kin 16 = .ok (.bipush 9, 2) := by decide +kernel
theorem dX10_kin_18 : decode cX10_kin 18 = .ok (.invokestatic 53, 3) := by decide +kernel
theorem dX10_kin_21 : decode cX10_kin 21 = .ok (.ifCond .eq 10, 3) := by decide +kernel
theorem dX10_kin_24 : decode cX10_kin 24 = .ok (.iload_n 3, 1) := by decide +kernel
theorem dX10_kin_25 : decode cX10_kin 25 = .ok (.invokestatic 79, 3) := by decide +kernel
theorem dX10_kin_28 : decode cX10_kin 28 = .ok (.ifCond .ne 6, 3) := by decide +kernel
theorem dX10_kin_31 : decode cX10_kin 31 = .ok (.bipush (-2), 2) := by decide +kernel
theorem dX10_kin_33 : decode cX10_kin 33 = .ok (.ireturn, 1) := by decide +kernel
theorem dX10_kin_34 : decode cX10_kin 34 = .ok (.aload_n 0, 1) := by decide +kernel
theorem dX10_kin_35 : decode cX10_kin 35 = .ok (.getfield 20, 3) := by decide +kernel
theorem dX10_kin_38 : decode cX10_kin 38 = .ok (.getfield 82, 3) := by decide +kernel
theorem dX10_kin_41 : decode cX10_kin 41 = .ok (.invokevirtual 61, 3) := by decide +kernel
theorem dX10_kin_44 : decode cX10_kin 44 = .ok (.istore 4, 2) := by decide +kernel
theorem dX10_kin_46 : decode cX10_kin 46 = .ok (.iload 4, 2) := by decide +kernel
theorem dX10_kin_48 : decode cX10_kin 48 = .ok (.bipush (-4), 2) := by decide +kernel
theorem dX10_kin_50 : decode cX10_kin 50 = .ok (.if_icmp .ne 6, 3) := by decide +kernel
theorem dX10_kin_53 : decode cX10_kin 53 = .ok (.bipush (-4), 2) := by decide +kernel
theorem dX10_kin_55 : decode cX10_kin 55 = .ok (.ireturn, 1) := by decide +kernel
theorem dX10_kin_56 : decode cX10_kin 56 = .ok (.aload_n 0, 1) := by decide +kernel
theorem dX10_kin_57 : decode cX10_kin 57 = .ok (.getfield 20, 3) := by decide +kernel
theorem dX10_kin_60 : decode cX10_kin 60 = .ok (.getfield 82, 3) := by decide +kernel
theorem dX10_kin_63 : decode cX10_kin 63 = .ok (.iload 4, 2) := by decide +kernel
theorem dX10_kin_65 : decode cX10_kin 65 = .ok (.iconst 0, 1) := by decide +kernel
theorem dX10_kin_66 : decode cX10_kin 66 = .ok (.iload_n 1, 1) := by decide +kernel
theorem dX10_kin_67 : decode cX10_kin 67 = .ok (.invokevirtual 67, 3) := by decide +kernel
theorem dX10_kin_70 : decode cX10_kin 70 = .ok (.aload_n 0, 1) := by decide +kernel
theorem dX10_kin_71 : decode cX10_kin 71 = .ok (.getfield 20, 3) := by decide +kernel
theorem dX10_kin_74 : decode cX10_kin 74 = .ok (.getfield 82, 3) := by decide +kernel
theorem dX10_kin_77 : decode cX10_kin 77 = .ok (.iload 4, 2) := by decide +kernel
theorem dX10_kin_79 : decode cX10_kin 79 = .ok (.iconst 1, 1) := by decide +kernel
theorem dX10_kin_80 : decode cX10_kin 80 = .ok (.iload_n 2, 1) := by decide +kernel
theorem dX10_kin_81 : decode cX10_kin 81 = .ok (.invokevirtual 67, 3) := by decide +kernel
theorem dX10_kin_84 : decode cX10_kin 84 = .ok (.aload_n 0, 1) := by decide +kernel
theorem dX10_kin_85 : decode cX10_kin 85 = .ok (.getfield 20, 3) := by decide +kernel
theorem dX10_kin_88 : decode cX10_kin 88 = .ok (.getfield 82, 3) := by decide +kernel
theorem dX10_kin_91 : decode cX10_kin 91 = .ok (.iload 4, 2) := by decide +kernel
theorem dX10_kin_93 : decode cX10_kin 93 = .ok (.iconst 2, 1) := by decide +kernel
theorem dX10_kin_94 : decode cX10_kin 94 = .ok (.iload_n 3, 1) := by decide +kernel
theorem dX10_kin_95 : decode cX10_kin 95 = .ok (.invokevirtual 67, 3) := by decide +kernel
theorem dX10_kin_98 : decode cX10_kin 98 = .ok (.aload_n 0, 1) := by decide +kernel
theorem dX10_kin_99 : decode cX10_kin 99 = .ok (.getfield 12, 3) := by decide +kernel
theorem dX10_kin_102 : decode cX10_kin 102 = .ok (.iconst 0, 1) := by decide +kernel
theorem dX10_kin_103 : decode cX10_kin 103 = .ok (.invokevirtual 71, 3) := by decide +kernel
theorem dX10_kin_106 : decode cX10_kin 106 = .ok (.iload 4, 2) := by decide +kernel
theorem dX10_kin_108 : decode cX10_kin 108 = .ok (.ireturn, 1) := by decide +kernel

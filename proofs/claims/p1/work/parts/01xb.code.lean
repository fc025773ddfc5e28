theorem dX8_fold_0 : decode cX8_fold 0 = .ok (.ldc2_w 31, 3) := by decide +kernel
theorem dX8_fold_3 : decode cX8_fold 3 = .ok (.lload_n 1, 1) := by decide +kernel
theorem dX8_fold_4 : decode cX8_fold 4 = .ok (.lmul, 1) := by decide +kernel
theorem dX8_fold_5 : decode cX8_fold 5 = .ok (.aload_n 0, 1) := by decide +kernel
theorem dX8_fold_6 : decode cX8_fold 6 = .ok (.getfield 18, 3) := by decide +kernel
theorem dX8_fold_9 : decode cX8_fold 9 = .ok (.i2l, 1) := by decide +kernel
theorem dX8_fold_10 : decode cX8_fold 10 = .ok (.ladd, 1) := by decide +kernel
theorem dX8_fold_11 : decode cX8_fold 11 = .ok (.lstore_n 1, 1) := by decide +kernel
theorem dX8_fold_12 : decode cX8_fold 12 = .ok (.iconst 0, 1) := by decide +kernel
theorem dX8_fold_13 : decode cX8_fold 13 = .ok (.istore_n 3, 1) := by decide +kernel
theorem dX8_fold_14 : decode cX8_fold 14 = .ok (.iload_n 3, 1) := by decide +kernel
theorem dX8_fold_15 : decode cX8_fold 15 = .ok (.aload_n 0, 1) := by decide +kernel
theorem dX8_fold_16 : decode cX8_fold 16 = .ok (.getfield 18, 3) := by decide +kernel
theorem dX8_fold_19 : decode cX8_fold 19 = .ok (.if_icmp .ge 23, 3) := by decide +kernel
theorem dX8_fold_22 : decode cX8_fold 22 = .ok (.ldc2_w 31, 3) := by decide +kernel
theorem dX8_fold_25 : decode cX8_fold 25 = .ok (.lload_n 1, 1) := by decide +kernel
theorem dX8_fold_26 : decode cX8_fold 26 = .ok (.lmul, 1) := by decide +kernel
theorem dX8_fold_27 : decode cX8_fold 27 = .ok (.aload_n 0, 1) := by decide +kernel
theorem dX8_fold_28 : decode cX8_fold 28 = .ok (.getfield 9, 3) := by decide +kernel
theorem dX8_fold_31 : decode cX8_fold 31 = .ok (.iload_n 3, 1) := by decide +kernel
theorem dX8_fold_32 : decode cX8_fold 32 = .ok (.iaload, 1) := by decide +kernel
theorem dX8_fold_33 : decode cX8_fold 33 = .ok (.i2l, 1) := by decide +kernel
theorem dX8_fold_34 : decode cX8_fold 34 = .ok (.ladd, 1) := by decide +kernel
theorem dX8_fold_35 : decode cX8_fold 35 = .ok (.lstore_n 1, 1) := by decide +kernel
theorem dX8_fold_36 : decode cX8_fold 36 = .ok (.iinc 3 1, 3) := by decide +kernel
theorem dX8_fold_39 : decode cX8_fold 39 = .ok (.goto (-25), 3) := by decide +kernel
theorem dX8_fold_42 : decode cX8_fold 42 = .ok (.lload_n 1, 1) := by decide +kernel
theorem dX8_fold_43 : decode cX8_fold 43 = .ok (.lreturn, 1) := by decide +kernel
theorem dX9_init_0 : decode cX9_init 0 = .ok (.aload_n 0, 1) := by decide +kernel
theorem dX9_init_1 : decode cX9_init 1 = .ok (.invokespecial 3, 3) := by decide +kernel
theorem dX9_init_4 : decode cX9_init 4 = .ok (.aload_n 0, 1) := by decide +kernel
theorem dX9_init_5 : decode cX9_init 5 = .ok (.bipush 6, 2) := by decide +kernel
theorem dX9_init_7 : decode cX9_init 7 = .ok (.newarray .int, 2) := by decide +kernel
theorem dX9_init_9 : decode cX9_init 9 = .ok (.putfield 11, 3) := by decide +kernel
theorem dX9_init_12 : decode cX9_init 12 = .ok (.aload_n 0, 1) := by decide +kernel
theorem dX9_init_13 : decode cX9_init 13 = .ok (.bipush 6, 2) := by decide +kernel
theorem dX9_init_15 : decode cX9_init 15 = .ok (.newarray .int, 2) := by decide +kernel
theorem dX9_init_17 : decode cX9_init 17 = .ok (.putfield 15, 3) := by decide +kernel
theorem dX9_init_20 : decode cX9_init 20 = .ok (.aload_n 0, 1) := by decide +kernel
theorem dX9_init_21 : decode cX9_init 21 = .ok (.bipush 6, 2) := by decide +kernel
theorem dX9_init_23 : decode cX9_init 23 = .ok (.newarray .int, 2) := by decide +kernel
theorem dX9_init_25 : decode cX9_init 25 = .ok (.putfield 18, 3) := by decide +kernel
theorem dX9_init_28 : decode cX9_init 28 = .ok (.aload_n 0, 1) := by decide +kernel
theorem dX9_init_29 : decode cX9_init 29 = .ok (.bipush 6, 2) := by decide +kernel
theorem dX9_init_31 : decode cX9_init 31 = .ok (.newarray .int, 2) := by decide +kernel
theorem dX9_init_33 : decode cX9_init 33 = .ok (.putfield 21, 3) := by decide +kernel
theorem dX9_init_36 : decode cX9_init 36 = .ok (.return_, 1) := by decide +kernel
theorem dX9_seek_0 : decode cX9_seek 0 = .ok (.aload_n 0, 1) := by decide +kernel
theorem dX9_seek_1 : decode cX9_seek 1 = .ok (.aload_n 1, 1) := by decide +kernel
theorem dX9_seek_2 : decode cX9_seek 2 = .ok (.iload_n 2, 1) := by decide +kernel
theorem dX9_seek_3 : decode cX9_seek 3 = .ok (.invokevirtual 28, 3) := by decide +kernel
theorem dX9_seek_6 : decode cX9_seek 6 = .ok (.aload_n 0, 1) := by decide +kernel
theorem dX9_seek_7 : decode cX9_seek 7 = .ok (.aload_n 0, 1) := by decide +kernel
theorem dX9_seek_8 : decode cX9_seek 8 = .ok (.getfield 24, 3) := by decide +kernel
theorem dX9_seek_11 : decode cX9_seek 11 = .ok (.ifCond .ne 7, 3) := by decide +kernel
theorem dX9_seek_14 : decode cX9_seek 14 = .ok (.iconst 0, 1) := by decide +kernel
theorem dX9_seek_15 : decode cX9_seek 15 = .ok (.goto 4, 3) := by decide +kernel
theorem dX9_seek_18 : decode cX9_seek 18 = .ok (.iconst (-1), 1) := by decide +kernel
theorem dX9_seek_19 : decode cX9_seek 19 = .ok (.putfield 32, 3) := by decide +kernel
theorem dX9_seek_22 : decode cX9_seek 22 = .ok (.iconst 0, 1) := by decide +kernel
theorem dX9_seek_23 : decode cX9_seek 23 = .ok (.istore_n 3, 1) := by decide +kernel
theorem dX9_seek_24 : decode cX9_seek 24 = .ok (.aload_n 0, 1) := by decide +kernel
theorem dX9_seek_25 : decode cX9_seek 25 = .ok (.getfield 15, 3) := by decide +kernel
theorem dX9_seek_28 : decode cX9_seek 28 = .ok (.iconst 0, 1) := by decide +kernel
theorem dX9_seek_29 : decode cX9_seek 29 = .ok (.iconst (-1), 1) := by decide +kernel
theorem dX9_seek_30 : decode cX9_seek 30 = .ok (.iastore, 1) := by decide +kernel
theorem dX9_seek_31 : decode cX9_seek 31 = .ok (.iconst 0, 1) := by decide +kernel
theorem dX9_seek_32 : decode cX9_seek 32 = .ok (.istore 4, 2) := by decide +kernel
theorem dX9_seek_34 : decode cX9_seek 34 = .ok (.iload 4, 2) := by decide +kernel
theorem dX9_seek_36 : decode cX9_seek 36 = .ok (.ldc 35, 2) := by decide +kernel
theorem dX9_seek_38 : decode cX9_seek 38 = .ok (.if_icmp .ge 128, 3) := by decide +kernel
theorem dX9_seek_41 : decode cX9_seek 41 = .ok (.iload_n 3, 1) := by decide +kernel
theorem dX9_seek_42 : decode cX9_seek 42 = .ok (.ifCond .lt 124, 3) := by decide +kernel
theorem dX9_seek_45 : decode cX9_seek 45 = .ok (.iload_n 3, 1) := by decide +kernel
theorem dX9_seek_46 : decode cX9_seek 46 = .ok (.aload_n 0, 1) := by decide +kernel
theorem dX9_seek_47 : decode cX9_seek 47 = .ok (.getfield 24, 3) := by decide +kernel
theorem dX9_seek_50 : decode cX9_seek 50 = .ok (.if_icmp .ge 116, 3) := by decide +kernel
theorem dX9_seek_53 : decode cX9_seek 53 = .ok (.aload_n 0, 1) := by decide +kernel
theorem dX9_seek_54 : decode cX9_seek 54 = .ok (.getfield 15, 3) := by decide +kernel
theorem dX9_seek_57 : decode cX9_seek 57 = .ok (.iload_n 3, 1) := by decide +kernel
theorem dX9_seek_58 : decode cX9_seek 58 = .ok (.dup2, 1) := by decide +kernel
theorem dX9_seek_59 : decode cX9_seek 59 = .ok (.iaload, 1) := by decide +kernel
theorem dX9_seek_60 : decode cX9_seek 60 = .ok (.iconst 1, 1) := by decide +kernel
theorem dX9_seek_61 : decode cX9_seek 61 = .ok (.iadd, 1) := by decide +kernel
theorem dX9_seek_62 : decode cX9_seek 62 = .ok (.iastore, 1) := by decide +kernel
theorem dX9_seek_63 : decode cX9_seek 63 = .ok (.aload_n 0, 1) := by decide +kernel
theorem dX9_seek_64 : decode cX9_seek 64 = .ok (.iload_n 3, 1) := by decide +kernel
theorem dX9_seek_65 : decode cX9_seek 65 = .ok (.invokevirtual 36, 3) := by decide +kernel
theorem dX9_seek_68 : decode cX9_seek 68 = .ok (.istore 5, 2) := by decide +kernel
theorem dX9_seek_70 : decode cX9_seek 70 = .ok (.aload_n 0, 1) := by decide +kernel
theorem dX9_seek_71 : decode cX9_seek 71 = .ok (.getfield 15, 3) := by decide +kernel
theorem dX9_seek_74 : decode cX9_seek 74 = .ok (.iload_n 3, 1) := by decide +kernel
theorem dX9_seek_75 : decode cX9_seek 75 = .ok (.iaload, 1) := by decide +kernel
theorem dX9_seek_76 : decode cX9_seek 76 = .ok (.aload_n 0, 1) := by decide +kernel
theorem dX9_seek_77 : decode cX9_seek 77 = .ok (.iload_n 3, 1) := by decide +kernel
theorem dX9_seek_78 : decode cX9_seek 78 = .ok (.invokevirtual 40, 3) := by decide +kernel
theorem dX9_seek_81 : decode cX9_seek 81 = .ok (.if_icmp .gt 20, 3) := by decide +kernel
theorem dX9_seek_84 : decode cX9_seek 84 = .ok (.aload_n 0, 1) := by decide +kernel
theorem dX9_seek_85 : decode cX9_seek 85 = .ok (.getfield 32, 3) := by decide +kernel
theorem dX9_seek_88 : decode cX9_seek 88 = .ok (.iconst (-1), 1) := by decide +kernel
theorem dX9_seek_89 : decode cX9_seek 89 = .ok (.if_icmp .eq 18, 3) := by decide +kernel
theorem dX9_seek_92 : decode cX9_seek 92 = .ok (.iload 5, 2) := by decide +kernel
theorem dX9_seek_94 : decode cX9_seek 94 = .ok (.aload_n 0, 1) := by decide +kernel
theorem dX9_seek_95 : decode cX9_seek 95 = .ok (.getfield 32, 3) := by decide +kernel
theorem dX9_seek_98 : decode cX9_seek 98 = .ok (.if_icmp .lt 9, 3) := by decide +kernel
theorem dX9_seek_101 : decode cX9_seek 101 = .ok (.iinc 3 (-1), 3) := by decide +kernel
theorem dX9_seek_104 : decode cX9_seek 104 = .ok (.goto 56, 3) := by decide +kernel
theorem dX9_seek_107 : decode cX9_seek 107 = .ok (.aload_n 0, 1) := by decide +kernel
theorem dX9_seek_108 : decode cX9_seek 108 = .ok (.aload_n 1, 1) := by decide +kernel
theorem dX9_seek_109 : decode cX9_seek 109 = .ok (.iload_n 3, 1) := by decide +kernel
theorem dX9_seek_110 : decode cX9_seek 110 = .ok (.invokevirtual 43, 3) := by decide +kernel
theorem dX9_seek_113 : decode cX9_seek 113 = .ok (.ifCond .eq 47, 3) := by decide +kernel
theorem dX9_seek_116 : decode cX9_seek 116 = .ok (.iload_n 3, 1) := by decide +kernel
theorem dX9_seek_117 : decode cX9_seek 117 = .ok (.aload_n 0, 1) := by decide +kernel
theorem dX9_seek_118 : decode cX9_seek 118 = .ok (.getfield 24, 3) := by decide +kernel
theorem dX9_seek_121 : decode cX9_seek 121 = .ok (.iconst 1, 1) := by decide +kernel
theorem dX9_seek_122 : decode cX9_seek 122 = .ok (.isub, 1) := by decide +kernel
theorem dX9_seek_123 : decode cX9_seek 123 = .ok (.if_icmp .ne 27, 3) := by decide +kernel
theorem dX9_seek_126 : decode cX9_seek 126 = .ok (.aload_n 0, 1) := by decide +kernel
theorem dX9_seek_127 : decode cX9_seek 127 = .ok (.iload 5, 2) := by decide +kernel
theorem dX9_seek_129 : decode cX9_seek 129 = .ok (.putfield 32, 3) := by decide +kernel
theorem dX9_seek_132 : decode cX9_seek 132 = .ok (.aload_n 0, 1) := by decide +kernel
theorem dX9_seek_133 : decode cX9_seek 133 = .ok (.getfield 15, 3) := by decide +kernel
theorem dX9_seek_136 : decode cX9_seek 136 = .ok (.iconst 0, 1) := by decide +kernel
theorem dX9_seek_137 : decode cX9_seek 137 = .ok (.aload_n 0, 1) := by decide +kernel
theorem dX9_seek_138 : decode cX9_seek 138 = .ok (.getfield 18, 3) := by decide +kernel
theorem dX9_seek_141 : decode cX9_seek 141 = .ok (.iconst 0, 1) := by decide +kernel
theorem dX9_seek_142 : decode cX9_seek 142 = .ok (.bipush 6, 2) := by decide +kernel
theorem dX9_seek_144 : decode cX9_seek 144 = .ok (.invokestatic 47, 3) := by decide +kernel
theorem dX9_seek_147 : decode cX9_seek 147 = .ok (.goto 13, 3) := by decide +kernel
theorem dX9_seek_150 : decode cX9_seek 150 = .ok (.iinc 3 1, 3) := by decide +kernel
theorem dX9_seek_153 : decode cX9_seek 153 = .ok (.aload_n 0, 1) := by decide +kernel
theorem dX9_seek_154 : decode cX9_seek 154 = .ok (.getfield 15, 3) := by decide +kernel
theorem dX9_seek_157 : decode cX9_seek 157 = .ok (.iload_n 3, 1) := by decide +kernel
theorem dX9_seek_158 : decode cX9_seek 158 = .ok (.iconst (-1), 1) := by decide +kernel
theorem dX9_seek_159 : decode cX9_seek 159 = .ok (.iastore, 1) := by decide +kernel
theorem dX9_seek_160 : decode cX9_seek 160 = .ok (.iinc 4 1, 3) := by decide +kernel
theorem dX9_seek_163 : decode cX9_seek 163 = .ok (.goto (-129), 3) := by decide +kernel
theorem dX9_seek_166 : decode cX9_seek 166 = .ok (.return_, 1) := by decide +kernel
theorem dX9_gather_0 : decode cX9_gather 0 = .ok (.aload_n 0, 1) := by decide +kernel
theorem dX9_gather_1 : decode cX9_gather 1 = .ok (.iconst 0, 1) := by decide +kernel
theorem dX9_gather_2 : decode cX9_gather 2 = .ok (.putfield 24, 3) := by decide +kernel
theorem dX9_gather_5 : decode cX9_gather 5 = .ok (.iconst 0, 1) := by decide +kernel
theorem dX9_gather_6 : decode cX9_gather 6 = .ok (.istore_n 3, 1) := by decide +kernel
theorem dX9_gather_7 : decode cX9_gather 7 = .ok (.iload_n 3, 1) := by decide +kernel
theorem dX9_gather_8 : decode cX9_gather 8 = .ok (.aload_n 1, 1) := by decide +kernel
theorem dX9_gather_9 : decode cX9_gather 9 = .ok (.getfield 53, 3) := by decide +kernel
theorem dX9_gather_12 : decode cX9_gather 12 = .ok (.invokevirtual 58, 3) := by decide +kernel
theorem dX9_gather_15 : decode cX9_gather 15 = .ok (.if_icmp .ge 56, 3) := by decide +kernel
theorem dX9_gather_18 : decode cX9_gather 18 = .ok (.aload_n 0, 1) := by decide +kernel
theorem dX9_gather_19 : decode cX9_gather 19 = .ok (.getfield 24, 3) := by decide +kernel
theorem dX9_gather_22 : decode cX9_gather 22 = .ok (.bipush 6, 2) := by decide +kernel
theorem dX9_gather_24 : decode cX9_gather 24 = .ok (.if_icmp .ge 47, 3) := by decide +kernel
theorem dX9_gather_27 : decode cX9_gather 27 = .ok (.iload_n 2, 1) := by decide +kernel
theorem dX9_gather_28 : decode cX9_gather 28 = .ok (.iload_n 3, 1) := by decide +kernel
theorem dX9_gather_29 : decode cX9_gather 29 = .ok (.invokestatic 64, 3) := by decide +kernel
theorem dX9_gather_32 : decode cX9_gather 32 = .ok (.ifCond .eq 33, 3) := by decide +kernel
theorem dX9_gather_35 : decode cX9_gather 35 = .ok (.aload_n 0, 1) := by decide +kernel
theorem dX9_gather_36 : decode cX9_gather 36 = .ok (.getfield 11, 3) := by decide +kernel
theorem dX9_gather_39 : decode cX9_gather 39 = .ok (.aload_n 0, 1) := by decide +kernel
theorem dX9_gather_40 : decode cX9_gather 40 = .ok (.getfield 24, 3) := by decide +kernel
theorem dX9_gather_43 : decode cX9_gather 43 = .ok (.iload_n 3, 1) := by decide +kernel
theorem dX9_gather_44 : decode cX9_gather 44 = .ok (.iastore, 1) := by decide +kernel
theorem dX9_gather_45 : decode cX9_gather 45 = .ok (.aload_n 0, 1) := by decide +kernel
theorem dX9_gather_46 : decode cX9_gather 46 = .ok (.getfield 21, 3) := by decide +kernel
theorem dX9_gather_49 : decode cX9_gather 49 = .ok (.aload_n 0, 1) := by decide +kernel
theorem dX9_gather_50 : decode cX9_gather 50 = .ok (.getfield 24, 3) := by decide +kernel
theorem dX9_gather_53 : decode cX9_gather 53 = .ok (.iconst 0, 1) := by decide +kernel
theorem dX9_gather_54 : decode cX9_gather 54 = .ok (.iastore, 1) := by decide +kernel
theorem dX9_gather_55 : decode cX9_gather 55 = .ok (.aload_n 0, 1) := by decide +kernel
theorem dX9_gather_56 : decode cX9_gather 56 = .ok (.dup, 1) := by decide +kernel
theorem dX9_gather_57 : decode cX9_gather 57 = .ok (.getfield 24, 3) := by decide +kernel
theorem dX9_gather_60 : decode cX9_gather 60 = .ok (.iconst 1, 1) := by decide +kernel
theorem dX9_gather_61 : decode cX9_gather 61 = .ok (.iadd, 1) := by decide +kernel
theorem dX9_gather_62 : decode cX9_gather 62 = .ok (.putfield 24, 3) := by decide +kernel
theorem dX9_gather_65 : decode cX9_gather 65 = .ok (.iinc 3 1, 3) := by decide +kernel
theorem dX9_gather_68 : decode cX9_gather 68 = .ok (.goto (-61), 3) := by decide +kernel
theorem dX9_gather_71 : decode cX9_gather 71 = .ok (.iconst 0, 1) := by decide +kernel
theorem dX9_gather_72 : decode cX9_gather 72 = .ok (.istore_n 3, 1) := by decide +kernel
theorem dX9_gather_73 : decode cX9_gather 73 = .ok (.iload_n 3, 1) := by decide +kernel
theorem dX9_gather_74 : decode cX9_gather 74 = .ok (.aload_n 0, 1) := by decide +kernel
theorem dX9_gather_75 : decode cX9_gather 75 = .ok (.getfield 24, 3) := by decide +kernel
theorem dX9_gather_78 : decode cX9_gather 78 = .ok (.if_icmp .ge 90, 3) := by decide +kernel
theorem dX9_gather_81 : decode cX9_gather 81 = .ok (.iconst 0, 1) := by decide +kernel
theorem dX9_gather_82 : decode cX9_gather 82 = .ok (.istore 4, 2) := by decide +kernel
theorem dX9_gather_84 : decode cX9_gather 84 = .ok (.iload 4, 2) := by decide +kernel
theorem dX9_gather_86 : decode cX9_gather 86 = .ok (.iload_n 3, 1) := by decide +kernel
theorem dX9_gather_87 : decode cX9_gather 87 = .ok (.if_icmp .ge 75, 3) := by decide +kernel
theorem dX9_gather_90 : decode cX9_gather 90 = .ok (.aload_n 1, 1) := by decide +kernel
theorem dX9_gather_91 : decode cX9_gather 91 = .ok (.aload_n 0, 1) := by decide +kernel
theorem dX9_gather_92 : decode cX9_gather 92 = .ok (.getfield 11, 3) := by decide +kernel
theorem dX9_gather_95 : decode cX9_gather 95 = .ok (.iload_n 3, 1) := by decide +kernel
theorem dX9_gather_96 : decode cX9_gather 96 = .ok (.iaload, 1) := by decide +kernel
theorem dX9_gather_97 : decode cX9_gather 97 = .ok (.aload_n 0, 1) := by decide +kernel
theorem dX9_gather_98 : decode cX9_gather 98 = .ok (.getfield 11, 3) := by decide +kernel
theorem dX9_gather_101 : decode cX9_gather 101 = .ok (.iload 4, 2) := by decide +kernel
theorem dX9_gather_103 : decode cX9_gather 103 = .ok (.iaload, 1) := by decide +kernel
theorem dX9_gather_104 : decode cX9_gather 104 = .ok (.invokevirtual 68, 3) := by decide +kernel
theorem dX9_gather_107 : decode cX9_gather 107 = .ok (.ifCond .ne 23, 3) := by decide +kernel
theorem dX9_gather_110 : decode cX9_gather 110 = .ok (.aload_n 1, 1) := by decide +kernel
theorem dX9_gather_111 : decode cX9_gather 111 = .ok (.aload_n 0, 1) := by decide +kernel
theorem dX9_gather_112 : decode cX9_gather 112 = .ok (.getfield 11, 3) := by decide +kernel
theorem dX9_gather_115 : decode cX9_gather 115 = .ok (.iload_n 3, 1) := by decide +kernel
theorem dX9_gather_116 : decode cX9_gather 116 = .ok (.iaload, 1) := by decide +kernel
theorem dX9_gather_117 : decode cX9_gather 117 = .ok (.aload_n 0, 1) := by decide +kernel
theorem dX9_gather_118 : decode cX9_gather 118 = .ok (.getfield 11, 3) := by decide +kernel
theorem dX9_gather_121 : decode cX9_gather 121 = .ok (.iload 4, 2) := by decide +kernel
theorem dX9_gather_123 : decode cX9_gather 123 = .ok (.iaload, 1) := by decide +kernel
theorem dX9_gather_124 : decode cX9_gather 124 = .ok (.invokevirtual 71, 3) := by decide +kernel
theorem dX9_gather_127 : decode cX9_gather 127 = .ok (.ifCond .eq 29, 3) := by decide +kernel
theorem dX9_gather_130 : decode cX9_gather 130 = .ok (.aload_n 0, 1) := by decide +kernel
theorem dX9_gather_131 : decode cX9_gather 131 = .ok (.getfield 21, 3) := by decide +kernel
theorem dX9_gather_134 : decode cX9_gather 134 = .ok (.iload_n 3, 1) := by decide +kernel
theorem dX9_gather_135 : decode cX9_gather 135 = .ok (.dup2, 1) := by decide +kernel
theorem dX9_gather_136 : decode cX9_gather 136 = .ok (.iaload, 1) := by decide +kernel
theorem dX9_gather_137 : decode cX9_gather 137 = .ok (.iconst 1, 1) := by decide +kernel
theorem dX9_gather_138 : decode cX9_gather 138 = .ok (.iload 4, 2) := by decide +kernel
theorem dX9_gather_140 : decode cX9_gather 140 = .ok (.ishl, 1) := by decide +kernel
theorem dX9_gather_141 : decode cX9_gather 141 = .ok (.ior, 1) := by decide +kernel
theorem dX9_gather_142 : decode cX9_gather 142 = .ok (.iastore, 1) := by decide +kernel
theorem dX9_gather_143 : decode cX9_gather 143 = .ok (.aload_n 0, 1) := by decide +kernel
theorem dX9_gather_144 : decode cX9_gather 144 = .ok (.getfield 21, 3) := by decide +kernel
theorem dX9_gather_147 : decode cX9_gather 147 = .ok (.iload 4, 2) := by decide +kernel
theorem dX9_gather_149 : decode cX9_gather 149 = .ok (.dup2, 1) := by decide +kernel
theorem dX9_gather_150 : decode cX9_gather 150 = .ok (.iaload, 1) := by decide +kernel
theorem dX9_gather_151 : decode cX9_gather 151 = .ok (.iconst 1, 1) := by decide +kernel
theorem dX9_gather_152 : decode cX9_gather 152 = .ok (.iload_n 3, 1) := by decide +kernel
theorem dX9_gather_153 : decode cX9_gather 153 = .ok (.ishl, 1) := by decide +kernel
theorem dX9_gather_154 : decode cX9_gather 154 = .ok (.ior, 1) := by decide +kernel
theorem dX9_gather_155 : decode cX9_gather 155 = .ok (.iastore, 1) := by decide +kernel
theorem dX9_gather_156 : decode cX9_gather 156 = .ok (.iinc 4 1, 3) := by decide +kernel
theorem dX9_gather_159 : decode cX9_gather 159 = .ok (.goto (-75), 3) := by decide +kernel
theorem dX9_gather_162 : decode cX9_gather 162 = .ok (.iinc 3 1, 3) := by decide +kernel
theorem dX9_gather_165 : decode cX9_gather 165 = .ok (.goto (-92), 3) := by decide +kernel
theorem dX9_gather_168 : decode cX9_gather 168 = .ok (.return_, 1) := by decide +kernel
theorem dX10_init_0 : decode cX10_init 0 = .ok (.aload_n 0, 1) := by decide +kernel
theorem dX10_init_1 : decode cX10_init 1 = .ok (.invokespecial 3, 3) := by decide +kernel
theorem dX10_init_4 : decode cX10_init 4 = .ok (.aload_n 0, 1) := by decide +kernel
theorem dX10_init_5 : decode cX10_init 5 = .ok (.new 9, 3) := by decide +kernel
theorem dX10_init_8 : decode cX10_init 8 = .ok (.dup, 1) := by decide +kernel
theorem dX10_init_9 : decode cX10_init 9 = .ok (.invokespecial 11, 3) := by decide +kernel
theorem dX10_init_12 : decode cX10_init 12 = .ok (.putfield 12, 3) := by decide +kernel
theorem dX10_init_15 : decode cX10_init 15 = .ok (.aload_n 0, 1) := by decide +kernel
theorem dX10_init_16 : decode cX10_init 16 = .ok (.aload_n 0, 1) := by decide +kernel
theorem dX10_init_17 : decode cX10_init 17 = .ok (.getfield 12, 3) := by decide +kernel
theorem dX10_init_20 : decode cX10_init 20 = .ok (.getfield 16, 3) := by decide +kernel
theorem dX10_init_23 : decode cX10_init 23 = .ok (.putfield 20, 3) := by decide +kernel
theorem dX10_init_26 : decode cX10_init 26 = .ok (.aload_n 0, 1) := by decide +kernel
theorem dX10_init_27 : decode cX10_init 27 = .ok (.iconst 2, 1) := by decide +kernel
theorem dX10_init_28 : decode cX10_init 28 = .ok (.anewarray 21, 3) := by decide +kernel
theorem dX10_init_31 : decode cX10_init 31 = .ok (.putfield 23, 3) := by decide +kernel
theorem dX10_init_34 : decode cX10_init 34 = .ok (.aload_n 0, 1) := by decide +kernel
theorem dX10_init_35 : decode cX10_init 35 = .ok (.iconst 2, 1) := by decide +kernel
theorem dX10_init_36 : decode cX10_init 36 = .ok (.newarray .boolean, 2) := by decide +kernel
theorem dX10_init_38 : decode cX10_init 38 = .ok (.putfield 27, 3) := by decide +kernel
theorem dX10_init_41 : decode cX10_init 41 = .ok (.aload_n 0, 1) := by decide +kernel
theorem dX10_init_42 : decode cX10_init 42 = .ok (.new 31, 3) := by decide +kernel
theorem dX10_init_45 : decode cX10_init 45 = .ok (.dup, 1) := by decide +kernel
theorem dX10_init_46 : decode cX10_init 46 = .ok (.invokespecial 33, 3) := by decide +kernel
theorem dX10_init_49 : decode cX10_init 49 = .ok (.putfield 34, 3) := by decide +kernel
theorem dX10_init_52 : decode cX10_init 52 = .ok (.aload_n 0, 1) := by decide +kernel
theorem dX10_init_53 : decode cX10_init 53 = .ok (.new 38, 3) := by decide +kernel
theorem dX10_init_56 : decode cX10_init 56 = .ok (.dup, 1) := by decide +kernel
theorem dX10_init_57 : decode cX10_init 57 = .ok (.invokespecial 40, 3) := by decide +kernel
theorem dX10_init_60 : decode cX10_init 60 = .ok (.putfield 41, 3) := by decide +kernel
theorem dX10_init_63 : decode cX10_init 63 = .ok (.aload_n 0, 1) := by decide +kernel
theorem dX10_init_64 : decode cX10_init 64 = .ok (.new 45, 3) := by decide +kernel
theorem dX10_init_67 : decode cX10_init 67 = .ok (.dup, 1) := by decide +kernel
theorem dX10_init_68 : decode cX10_init 68 = .ok (.invokespecial 47, 3) := by decide +kernel
theorem dX10_init_71 : decode cX10_init 71 = .ok (.putfield 48, 3) := by decide +kernel
theorem dX10_init_74 : decode cX10_init 74 = .ok (.iconst 0, 1) := by decide +kernel
theorem dX10_init_75 : decode cX10_init 75 = .ok (.istore_n 1, 1) := by decide +kernel
theorem dX10_init_76 : decode cX10_init 76 = .ok (.iload_n 1, 1) := by decide +kernel
theorem dX10_init_77 : decode cX10_init 77 = .ok (.iconst 2, 1) := by decide +kernel
theorem dX10_init_78 : decode cX10_init 78 = .ok (.if_icmp .ge 22, 3) := by decide +kernel
theorem dX10_init_81 : decode cX10_init 81 = .ok (.aload_n 0, 1) := by decide +kernel
theorem dX10_init_82 : decode cX10_init 82 = .ok (.getfield 23, 3) := by decide +kernel
theorem dX10_init_85 : decode cX10_init 85 = .ok (.iload_n 1, 1) := by decide +kernel
theorem dX10_init_86 : decode cX10_init 86 = .ok (.new 21, 3) := by decide +kernel
theorem dX10_init_89 : decode cX10_init 89 = .ok (.dup, 1) := by decide +kernel
theorem dX10_init_90 : decode cX10_init 90 = .ok (.invokespecial 52, 3) := by decide +kernel
theorem dX10_init_93 : decode cX10_init 93 = .ok (.aastore, 1) := by decide +kernel
theorem dX10_init_94 : decode cX10_init 94 = .ok (.iinc 1 1, 3) := by decide +kernel
theorem dX10_init_97 : decode cX10_init 97 = .ok (.goto (-21), 3) := by decide +kernel
theorem dX10_init_100 : decode cX10_init 100 = .ok (.return_, 1) := by decide +kernel
theorem dX10_person_0 : decode cX10_person 0 = .ok (.iload_n 1, 1) := by decide +kernel
theorem dX10_person_1 : decode cX10_person 1 = .ok (.iconst 0, 1) := by decide +kernel
theorem dX10_person_2 : decode cX10_person 2 = .ok (.iconst 3, 1) := by decide +kernel
theorem dX10_person_3 : decode cX10_person 3 = .ok (.invokestatic 53, 3) := by decide +kernel
theorem dX10_person_6 : decode cX10_person 6 = .ok (.ifCond .eq 34, 3) := by decide +kernel
theorem dX10_person_9 : decode cX10_person 9 = .ok (.iload_n 2, 1) := by decide +kernel
theorem dX10_person_10 : decode cX10_person 10 = .ok (.iconst 0, 1) := by decide +kernel
theorem dX10_person_11 : decode cX10_person 11 = .ok (.iconst 3, 1) := by decide +kernel
theorem dX10_person_12 : decode cX10_person 12 = .ok (.invokestatic 53, 3) := by decide +kernel
theorem dX10_person_15 : decode cX10_person 15 = .ok (.ifCond .eq 25, 3) := by decide +kernel
theorem dX10_person_18 : decode cX10_person 18 = .ok (.iload_n 3, 1) := by decide +kernel
theorem dX10_person_19 : decode cX10_person 19 = .ok (.iconst 0, 1) := by decide +kernel
theorem dX10_person_20 : decode cX10_person 20 = .ok (.sipush 1000, 3) := by decide +kernel
theorem dX10_person_23 : decode cX10_person 23 = .ok (.invokestatic 53, 3) := by decide +kernel
theorem dX10_person_26 : decode cX10_person 26 = .ok (.ifCond .eq 14, 3) := by decide +kernel
theorem dX10_person_29 : decode cX10_person 29 = .ok (.iload 4, 2) := by decide +kernel
theorem dX10_person_31 : decode cX10_person 31 = .ok (.iconst 0, 1) := by decide +kernel
theorem dX10_person_32 : decode cX10_person 32 = .ok (.bipush 99, 2) := by decide +kernel
theorem dX10_person_34 : decode cX10_person 34 = .ok (.invokestatic 53, 3) := by decide +kernel
theorem dX10_person_37 : decode cX10_person 37 = .ok (.ifCond .ne 6, 3) := by decide +kernel
theorem dX10_person_40 : decode cX10_person 40 = .ok (.bipush (-2), 2) := by decide +kernel
theorem dX10_person_42 : decode cX10_person 42 = .ok (.ireturn, 1) := by decide +kernel
theorem dX10_person_43 : decode cX10_person 43 = .ok (.aload_n 0, 1) := by decide +kernel
theorem dX10_person_44 : decode cX10_person 44 = .ok (.getfield 20, 3) := by decide +kernel
theorem dX10_person_47 : decode cX10_person 47 = .ok (.getfield 57, 3) := by decide +kernel
theorem dX10_person_50 : decode cX10_person 50 = .ok (.invokevirtual 61, 3) := by decide +kernel
theorem dX10_person_53 : decode cX10_person 53 = .ok (.istore 5, 2) := by decide +kernel
theorem dX10_person_55 : decode cX10_person 55 = .ok (.iload 5, 2) := by decide +kernel
theorem dX10_person_57 : decode cX10_person 57 = .ok (.bipush (-4), 2) := by decide +kernel
theorem dX10_person_59 : decode cX10_person 59 = .ok (.if_icmp .ne 6, 3) := by decide +kernel
theorem dX10_person_62 : decode cX10_person 62 = .ok (.bipush (-4), 2) := by decide +kernel
theorem dX10_person_64 : decode cX10_person 64 = .ok (.ireturn, 1) := by decide +kernel
theorem dX10_person_65 : decode cX10_person 65 = .ok (.aload_n 0, 1) := by decide +kernel
theorem dX10_person_66 : decode cX10_person 66 = .ok (.getfield 20, 3) := by decide +kernel
theorem dX10_person_69 : decode cX10_person 69 = .ok (.getfield 57, 3) := by decide +kernel
theorem dX10_person_72 : decode cX10_person 72 = .ok (.iload 5, 2) := by decide +kernel
theorem dX10_person_74 : decode cX10_person 74 = .ok (.iconst 0, 1) := by decide +kernel
theorem dX10_person_75 : decode cX10_person 75 = .ok (.iload_n 1, 1) := by decide +kernel
theorem dX10_person_76 : decode cX10_person 76 = .ok (.invokevirtual 67, 3) := by decide +kernel
theorem dX10_person_79 : decode cX10_person 79 = .ok (.aload_n 0, 1) := by decide +kernel
theorem dX10_person_80 : decode cX10_person 80 = .ok (.getfield 20, 3) := by decide +kernel
theorem dX10_person_83 : decode cX10_person 83 = .ok (.getfield 57, 3) := by decide +kernel
theorem dX10_person_86 : decode cX10_person 86 = .ok (.iload 5, 2) := by decide +kernel
theorem dX10_person_88 : decode cX10_person 88 = .ok (.iconst 1, 1) := by decide +kernel
theorem dX10_person_89 : decode cX10_person 89 = .ok (.iload_n 2, 1) := by decide +kernel
theorem dX10_person_90 : decode cX10_person 90 = .ok (.invokevirtual 67, 3) := by decide +kernel
theorem dX10_person_93 : decode cX10_person 93 = .ok (.aload_n 0, 1) := by decide +kernel
theorem dX10_person_94 : decode cX10_person 94 = .ok (.getfield 20, 3) := by decide +kernel
theorem dX10_person_97 : decode cX10_person 97 = .ok (.getfield 57, 3) := by decide +kernel
theorem dX10_person_100 : decode cX10_person 100 = .ok (.iload 5, 2) := by decide +kernel
theorem dX10_person_102 : decode cX10_person 102 = .ok (.iconst 2, 1) := by decide +kernel
theorem dX10_person_103 : decode cX10_person 103 = .ok (.iload_n 3, 1) := by decide +kernel
theorem dX10_person_104 : decode cX10_person 104 = .ok (.invokevirtual 67, 3) := by decide +kernel
theorem dX10_person_107 : decode cX10_person 107 = .ok (.aload_n 0, 1) := by decide +kernel
theorem dX10_person_108 : decode cX10_person 108 = .ok (.getfield 20, 3) := by decide +kernel
theorem dX10_person_111 : decode cX10_person 111 = .ok (.getfield 57, 3) := by decide +kernel
theorem dX10_person_114 : decode cX10_person 114 = .ok (.iload 5, 2) := by decide +kernel
theorem dX10_person_116 : decode cX10_person 116 = .ok (.iconst 3, 1) := by decide +kernel
theorem dX10_person_117 : decode cX10_person 117 = .ok (.iload 4, 2) := by decide +kernel
theorem dX10_person_119 : decode cX10_person 119 = .ok (.invokevirtual 67, 3) := by decide +kernel
theorem dX10_person_122 : decode cX10_person 122 = .ok (.aload_n 0, 1) := by decide +kernel
theorem dX10_person_123 : decode cX10_person 123 = .ok (.getfield 12, 3) := by decide +kernel
theorem dX10_person_126 : decode cX10_person 126 = .ok (.iconst 0, 1) := by decide +kernel
theorem dX10_person_127 : decode cX10_person 127 = .ok (.invokevirtual 71, 3) := by decide +kernel
theorem dX10_person_130 : decode cX10_person 130 = .ok (.iload 5, 2) := by decide +kernel
theorem dX10_person_132 : decode cX10_person 132 = .ok (.ireturn, 1) := by decide +kernel
theorem dX10_kin_0 : decode cX10_kin 0 = .ok (.aload_n 0, 1) := by decide +kernel
theorem dX10_kin_1 : decode cX10_kin 1 = .ok (.getfield 20, 3) := by decide +kernel
theorem dX10_kin_4 : decode cX10_kin 4 = .ok (.getfield 57, 3) := by decide +kernel
theorem dX10_kin_7 : decode cX10_kin 7 = .ok (.iload_n 1, 1) := by decide +kernel
theorem dX10_kin_8 : decode cX10_kin 8 = .ok (.invokevirtual 75, 3) := by decide +kernel
theorem dX10_kin_11 : decode cX10_kin 11 = .ok (.ifCond .eq 20, 3) := by decide +kernel
theorem dX10_kin_14 : decode cX10_kin 14 = .ok (.iload_n 2, 1) := by decide +kernel
theorem dX10_kin_15 : decode cX10_kin 15 = .ok (.iconst 0, 1) := by decide +kernel
theorem dX10_kin_16 : decode cX10_kin 16 = .ok (.bipush 9, 2) := by decide +kernel
theorem dX10_kin_18 : decode cX10_kin 18 = .ok (.invokestatic 53, 3) := by decide +kernel
theorem dX10_kin_21 : decode cX10_kin 21 = .ok (.ifCond .eq 10, 3) := by decide +kernel
theorem dX10_kin_24 : decode cX10_kin 24 = .ok (.iload_n 3, 1) := by decide +kernel
theorem dX10_kin_25 : decode cX10_kin 25 = .ok (.invokestatic 79, 3) := by decide +kernel
theorem dX10_kin_28 : decode cX10_kin 28 = .ok (.ifCond .ne 6, 3) := by decide +kernel
theorem dX10_kin_31 : decode cX10_kin 31 = .ok (.bipush (-2), 2) := by decide +kernel
theorem dX10_kin_33 : decode cX10_kin 33 = .ok (.ireturn, 1) := by decide +kernel
theorem dX10_kin_34 : decode cX10_kin 34 = .ok (.aload_n 0, 1) := by decide +kernel
theorem dX10_kin_35 : decode cX10_kin 35 = .ok (.getfield 20, 3) := by decide +kernel
theorem dX10_kin_38 : decode cX10_kin 38 = .ok (.getfield 82, 3) := by decide +kernel
theorem dX10_kin_41 : decode cX10_kin 41 = .ok (.invokevirtual 61, 3) := by decide +kernel
theorem dX10_kin_44 : decode cX10_kin 44 = .ok (.istore 4, 2) := by decide +kernel
theorem dX10_kin_46 : decode cX10_kin 46 = .ok (.iload 4, 2) := by decide +kernel
theorem dX10_kin_48 : decode cX10_kin 48 = .ok (.bipush (-4), 2) := by decide +kernel
theorem dX10_kin_50 : decode cX10_kin 50 = .ok (.if_icmp .ne 6, 3) := by decide +kernel
theorem dX10_kin_53 : decode cX10_kin 53 = .ok (.bipush (-4), 2) := by decide +kernel
theorem dX10_kin_55 : decode cX10_kin 55 = .ok (.ireturn, 1) := by decide +kernel
theorem dX10_kin_56 : decode cX10_kin 56 = .ok (.aload_n 0, 1) := by decide +kernel
theorem dX10_kin_57 : decode cX10_kin 57 = .ok (.getfield 20, 3) := by decide +kernel
theorem dX10_kin_60 : decode cX10_kin 60 = .ok (.getfield 82, 3) := by decide +kernel
theorem dX10_kin_63 : decode cX10_kin 63 = .ok (.iload 4, 2) := by decide +kernel
theorem dX10_kin_65 : decode cX10_kin 65 = .ok (.iconst 0, 1) := by decide +kernel
theorem dX10_kin_66 : decode cX10_kin 66 = .ok (.iload_n 1, 1) := by decide +kernel
theorem dX10_kin_67 : decode cX10_kin 67 = .ok (.invokevirtual 67, 3) := by decide +kernel
theorem dX10_kin_70 : decode cX10_kin 70 = .ok (.aload_n 0, 1) := by decide +kernel
theorem dX10_kin_71 : decode cX10_kin 71 = .ok (.getfield 20, 3) := by decide +kernel
theorem dX10_kin_74 : decode cX10_kin 74 = .ok (.getfield 82, 3) := by decide +kernel
theorem dX10_kin_77 : decode cX10_kin 77 = .ok (.iload 4, 2) := by decide +kernel
theorem dX10_kin_79 : decode cX10_kin 79 = .ok (.iconst 1, 1) := by decide +kernel
theorem dX10_kin_80 : decode cX10_kin 80 = .ok (.iload_n 2, 1) := by decide +kernel
theorem dX10_kin_81 : decode cX10_kin 81 = .ok (.invokevirtual 67, 3) := by decide +kernel
theorem dX10_kin_84 : decode cX10_kin 84 = .ok (.aload_n 0, 1) := by decide +kernel
theorem dX10_kin_85 : decode cX10_kin 85 = .ok (.getfield 20, 3) := by decide +kernel
theorem dX10_kin_88 : decode cX10_kin 88 = .ok (.getfield 82, 3) := by decide +kernel
theorem dX10_kin_91 : decode cX10_kin 91 = .ok (.iload 4, 2) := by decide +kernel
theorem dX10_kin_93 : decode cX10_kin 93 = .ok (.iconst 2, 1) := by decide +kernel
theorem dX10_kin_94 : decode cX10_kin 94 = .ok (.iload_n 3, 1) := by decide +kernel
theorem dX10_kin_95 : decode cX10_kin 95 = .ok (.invokevirtual 67, 3) := by decide +kernel
theorem dX10_kin_98 : decode cX10_kin 98 = .ok (.aload_n 0, 1) := by decide +kernel
theorem dX10_kin_99 : decode cX10_kin 99 = .ok (.getfield 12, 3) := by decide +kernel
theorem dX10_kin_102 : decode cX10_kin 102 = .ok (.iconst 0, 1) := by decide +kernel
theorem dX10_kin_103 : decode cX10_kin 103 = .ok (.invokevirtual 71, 3) := by decide +kernel
theorem dX10_kin_106 : decode cX10_kin 106 = .ok (.iload 4, 2) := by decide +kernel
theorem dX10_kin_108 : decode cX10_kin 108 = .ok (.ireturn, 1) := by decide +kernel
theorem dX10_roll_0 : decode cX10_roll 0 = .ok (.iload_n 1, 1) := by decide +kernel
theorem dX10_roll_1 : decode cX10_roll 1 = .ok (.aload_n 0, 1) := by decide +kernel
theorem dX10_roll_2 : decode cX10_roll 2 = .ok (.getfield 20, 3) := by decide +kernel
theorem dX10_roll_5 : decode cX10_roll 5 = .ok (.invokevirtual 85, 3) := by decide +kernel
theorem dX10_roll_8 : decode cX10_roll 8 = .ok (.iconst (-1), 1) := by decide +kernel
theorem dX10_roll_9 : decode cX10_roll 9 = .ok (.ixor, 1) := by decide +kernel
theorem dX10_roll_10 : decode cX10_roll 10 = .ok (.iand, 1) := by decide +kernel
theorem dX10_roll_11 : decode cX10_roll 11 = .ok (.ifCond .ne 21, 3) := by decide +kernel
theorem dX10_roll_14 : decode cX10_roll 14 = .ok (.iload_n 2, 1) := by decide +kernel
theorem dX10_roll_15 : decode cX10_roll 15 = .ok (.iconst 0, 1) := by decide +kernel
theorem dX10_roll_16 : decode cX10_roll 16 = .ok (.sipush 199, 3) := by decide +kernel
theorem dX10_roll_19 : decode cX10_roll 19 = .ok (.invokestatic 53, 3) := by decide +kernel
theorem dX10_roll_22 : decode cX10_roll 22 = .ok (.ifCond .eq 10, 3) := by decide +kernel
theorem dX10_roll_25 : decode cX10_roll 25 = .ok (.iload_n 3, 1) := by decide +kernel
theorem dX10_roll_26 : decode cX10_roll 26 = .ok (.invokestatic 79, 3) := by decide +kernel
theorem dX10_roll_29 : decode cX10_roll 29 = .ok (.ifCond .ne 6, 3) := by decide +kernel
theorem dX10_roll_32 : decode cX10_roll 32 = .ok (.bipush (-2), 2) := by decide +kernel
theorem dX10_roll_34 : decode cX10_roll 34 = .ok (.ireturn, 1) := by decide +kernel
theorem dX10_roll_35 : decode cX10_roll 35 = .ok (.aload_n 0, 1) := by decide +kernel
theorem dX10_roll_36 : decode cX10_roll 36 = .ok (.getfield 20, 3) := by decide +kernel
theorem dX10_roll_39 : decode cX10_roll 39 = .ok (.getfield 88, 3) := by decide +kernel
theorem dX10_roll_42 : decode cX10_roll 42 = .ok (.invokevirtual 61, 3) := by decide +kernel
theorem dX10_roll_45 : decode cX10_roll 45 = .ok (.istore 4, 2) := by decide +kernel
theorem dX10_roll_47 : decode cX10_roll 47 = .ok (.iload 4, 2) := by decide +kernel
theorem dX10_roll_49 : decode cX10_roll 49 = .ok (.bipush (-4), 2) := by decide +kernel
theorem dX10_roll_51 : decode cX10_roll 51 = .ok (.if_icmp .ne 6, 3) := by decide +kernel
theorem dX10_roll_54 : decode cX10_roll 54 = .ok (.bipush (-4), 2) := by decide +kernel
theorem dX10_roll_56 : decode cX10_roll 56 = .ok (.ireturn, 1) := by decide +kernel
theorem dX10_roll_57 : decode cX10_roll 57 = .ok (.aload_n 0, 1) := by decide +kernel
theorem dX10_roll_58 : decode cX10_roll 58 = .ok (.getfield 20, 3) := by decide +kernel
theorem dX10_roll_61 : decode cX10_roll 61 = .ok (.getfield 88, 3) := by decide +kernel
theorem dX10_roll_64 : decode cX10_roll 64 = .ok (.iload 4, 2) := by decide +kernel
theorem dX10_roll_66 : decode cX10_roll 66 = .ok (.iconst 0, 1) := by decide +kernel
theorem dX10_roll_67 : decode cX10_roll 67 = .ok (.iload_n 1, 1) := by decide +kernel
theorem dX10_roll_68 : decode cX10_roll 68 = .ok (.invokevirtual 67, 3) := by decide +kernel
theorem dX10_roll_71 : decode cX10_roll 71 = .ok (.aload_n 0, 1) := by decide +kernel
theorem dX10_roll_72 : decode cX10_roll 72 = .ok (.getfield 20, 3) := by decide +kernel
theorem dX10_roll_75 : decode cX10_roll 75 = .ok (.getfield 88, 3) := by decide +kernel
theorem dX10_roll_78 : decode cX10_roll 78 = .ok (.iload 4, 2) := by decide +kernel
theorem dX10_roll_80 : decode cX10_roll 80 = .ok (.iconst 1, 1) := by decide +kernel
theorem dX10_roll_81 : decode cX10_roll 81 = .ok (.iload_n 2, 1) := by decide +kernel
theorem dX10_roll_82 : decode cX10_roll 82 = .ok (.invokevirtual 67, 3) := by decide +kernel
theorem dX10_roll_85 : decode cX10_roll 85 = .ok (.aload_n 0, 1) := by decide +kernel
theorem dX10_roll_86 : decode cX10_roll 86 = .ok (.getfield 20, 3) := by decide +kernel
theorem dX10_roll_89 : decode cX10_roll 89 = .ok (.getfield 88, 3) := by decide +kernel
theorem dX10_roll_92 : decode cX10_roll 92 = .ok (.iload 4, 2) := by decide +kernel
theorem dX10_roll_94 : decode cX10_roll 94 = .ok (.iconst 2, 1) := by decide +kernel
theorem dX10_roll_95 : decode cX10_roll 95 = .ok (.iload_n 3, 1) := by decide +kernel
theorem dX10_roll_96 : decode cX10_roll 96 = .ok (.invokevirtual 67, 3) := by decide +kernel
theorem dX10_roll_99 : decode cX10_roll 99 = .ok (.aload_n 0, 1) := by decide +kernel
theorem dX10_roll_100 : decode cX10_roll 100 = .ok (.getfield 12, 3) := by decide +kernel
theorem dX10_roll_103 : decode cX10_roll 103 = .ok (.iconst 0, 1) := by decide +kernel
theorem dX10_roll_104 : decode cX10_roll 104 = .ok (.invokevirtual 71, 3) := by decide +kernel
theorem dX10_roll_107 : decode cX10_roll 107 = .ok (.iload 4, 2) := by decide +kernel
theorem dX10_roll_109 : decode cX10_roll 109 = .ok (.ireturn, 1) := by decide +kernel
theorem dX10_rollOf_0 : decode cX10_rollOf 0 = .ok (.iload_n 1, 1) := by decide +kernel
theorem dX10_rollOf_1 : decode cX10_rollOf 1 = .ok (.invokestatic 79, 3) := by decide +kernel
theorem dX10_rollOf_4 : decode cX10_rollOf 4 = .ok (.ifCond .eq 14, 3) := by decide +kernel
theorem dX10_rollOf_7 : decode cX10_rollOf 7 = .ok (.aload_n 0, 1) := by decide +kernel
theorem dX10_rollOf_8 : decode cX10_rollOf 8 = .ok (.getfield 20, 3) := by decide +kernel
theorem dX10_rollOf_11 : decode cX10_rollOf 11 = .ok (.iload_n 1, 1) := by decide +kernel
theorem dX10_rollOf_12 : decode cX10_rollOf 12 = .ok (.invokevirtual 91, 3) := by decide +kernel
theorem dX10_rollOf_15 : decode cX10_rollOf 15 = .ok (.goto 5, 3) := by decide +kernel
theorem dX10_rollOf_18 : decode cX10_rollOf 18 = .ok (.bipush (-2), 2) := by decide +kernel
theorem dX10_rollOf_20 : decode cX10_rollOf 20 = .ok (.ireturn, 1) := by decide +kernel
theorem dX10_write_0 : decode cX10_write 0 = .ok (.iload_n 1, 1) := by decide +kernel
theorem dX10_write_1 : decode cX10_write 1 = .ok (.invokestatic 95, 3) := by decide +kernel
theorem dX10_write_4 : decode cX10_write 4 = .ok (.ifCond .eq 13, 3) := by decide +kernel
theorem dX10_write_7 : decode cX10_write 7 = .ok (.iload_n 2, 1) := by decide +kernel
theorem dX10_write_8 : decode cX10_write 8 = .ok (.iconst 0, 1) := by decide +kernel
theorem dX10_write_9 : decode cX10_write 9 = .ok (.bipush 127, 2) := by decide +kernel
theorem dX10_write_11 : decode cX10_write 11 = .ok (.invokestatic 53, 3) := by decide +kernel
theorem dX10_write_14 : decode cX10_write 14 = .ok (.ifCond .ne 6, 3) := by decide +kernel
theorem dX10_write_17 : decode cX10_write 17 = .ok (.bipush (-2), 2) := by decide +kernel
theorem dX10_write_19 : decode cX10_write 19 = .ok (.ireturn, 1) := by decide +kernel
theorem dX10_write_20 : decode cX10_write 20 = .ok (.aload_n 0, 1) := by decide +kernel
theorem dX10_write_21 : decode cX10_write 21 = .ok (.getfield 20, 3) := by decide +kernel
theorem dX10_write_24 : decode cX10_write 24 = .ok (.getfield 98, 3) := by decide +kernel
theorem dX10_write_27 : decode cX10_write 27 = .ok (.iload_n 1, 1) := by decide +kernel
theorem dX10_write_28 : decode cX10_write 28 = .ok (.invokevirtual 102, 3) := by decide +kernel
theorem dX10_write_31 : decode cX10_write 31 = .ok (.iload_n 2, 1) := by decide +kernel
theorem dX10_write_32 : decode cX10_write 32 = .ok (.invokevirtual 108, 3) := by decide +kernel
theorem dX10_write_35 : decode cX10_write 35 = .ok (.ireturn, 1) := by decide +kernel
theorem dX10_erase_0 : decode cX10_erase 0 = .ok (.iload_n 1, 1) := by decide +kernel
theorem dX10_erase_1 : decode cX10_erase 1 = .ok (.invokestatic 95, 3) := by decide +kernel
theorem dX10_erase_4 : decode cX10_erase 4 = .ok (.ifCond .eq 20, 3) := by decide +kernel
theorem dX10_erase_7 : decode cX10_erase 7 = .ok (.aload_n 0, 1) := by decide +kernel
theorem dX10_erase_8 : decode cX10_erase 8 = .ok (.getfield 20, 3) := by decide +kernel
theorem dX10_erase_11 : decode cX10_erase 11 = .ok (.getfield 98, 3) := by decide +kernel
theorem dX10_erase_14 : decode cX10_erase 14 = .ok (.iload_n 1, 1) := by decide +kernel
theorem dX10_erase_15 : decode cX10_erase 15 = .ok (.invokevirtual 102, 3) := by decide +kernel
theorem dX10_erase_18 : decode cX10_erase 18 = .ok (.invokevirtual 113, 3) := by decide +kernel
theorem dX10_erase_21 : decode cX10_erase 21 = .ok (.goto 5, 3) := by decide +kernel
theorem dX10_erase_24 : decode cX10_erase 24 = .ok (.bipush (-2), 2) := by decide +kernel
theorem dX10_erase_26 : decode cX10_erase 26 = .ok (.ireturn, 1) := by decide +kernel
theorem dX10_fault_0 : decode cX10_fault 0 = .ok (.iload_n 1, 1) := by decide +kernel
theorem dX10_fault_1 : decode cX10_fault 1 = .ok (.invokestatic 95, 3) := by decide +kernel
theorem dX10_fault_4 : decode cX10_fault 4 = .ok (.ifCond .eq 24, 3) := by decide +kernel
theorem dX10_fault_7 : decode cX10_fault 7 = .ok (.aload_n 0, 1) := by decide +kernel
theorem dX10_fault_8 : decode cX10_fault 8 = .ok (.getfield 34, 3) := by decide +kernel
theorem dX10_fault_11 : decode cX10_fault 11 = .ok (.aload_n 0, 1) := by decide +kernel
theorem dX10_fault_12 : decode cX10_fault 12 = .ok (.getfield 20, 3) := by decide +kernel
theorem dX10_fault_15 : decode cX10_fault 15 = .ok (.getfield 98, 3) := by decide +kernel
theorem dX10_fault_18 : decode cX10_fault 18 = .ok (.iload_n 1, 1) := by decide +kernel
theorem dX10_fault_19 : decode cX10_fault 19 = .ok (.invokevirtual 102, 3) := by decide +kernel
theorem dX10_fault_22 : decode cX10_fault 22 = .ok (.invokevirtual 116, 3) := by decide +kernel
theorem dX10_fault_25 : decode cX10_fault 25 = .ok (.goto 5, 3) := by decide +kernel
theorem dX10_fault_28 : decode cX10_fault 28 = .ok (.bipush (-2), 2) := by decide +kernel
theorem dX10_fault_30 : decode cX10_fault 30 = .ok (.ireturn, 1) := by decide +kernel
theorem dX10_tells_0 : decode cX10_tells 0 = .ok (.iload_n 1, 1) := by decide +kernel
theorem dX10_tells_1 : decode cX10_tells 1 = .ok (.invokestatic 95, 3) := by decide +kernel
theorem dX10_tells_4 : decode cX10_tells 4 = .ok (.ifCond .eq 24, 3) := by decide +kernel
theorem dX10_tells_7 : decode cX10_tells 7 = .ok (.aload_n 0, 1) := by decide +kernel
theorem dX10_tells_8 : decode cX10_tells 8 = .ok (.getfield 20, 3) := by decide +kernel
theorem dX10_tells_11 : decode cX10_tells 11 = .ok (.getfield 57, 3) := by decide +kernel
theorem dX10_tells_14 : decode cX10_tells 14 = .ok (.iload_n 2, 1) := by decide +kernel
theorem dX10_tells_15 : decode cX10_tells 15 = .ok (.invokevirtual 75, 3) := by decide +kernel
theorem dX10_tells_18 : decode cX10_tells 18 = .ok (.ifCond .eq 10, 3) := by decide +kernel
theorem dX10_tells_21 : decode cX10_tells 21 = .ok (.iload_n 3, 1) := by decide +kernel
theorem dX10_tells_22 : decode cX10_tells 22 = .ok (.invokestatic 79, 3) := by decide +kernel
theorem dX10_tells_25 : decode cX10_tells 25 = .ok (.ifCond .ne 7, 3) := by decide +kernel
theorem dX10_tells_28 : decode cX10_tells 28 = .ok (.ldc2_w 120, 3) := by decide +kernel
theorem dX10_tells_31 : decode cX10_tells 31 = .ok (.lreturn, 1) := by decide +kernel
theorem dX10_tells_32 : decode cX10_tells 32 = .ok (.aload_n 0, 1) := by decide +kernel
theorem dX10_tells_33 : decode cX10_tells 33 = .ok (.getfield 20, 3) := by decide +kernel
theorem dX10_tells_36 : decode cX10_tells 36 = .ok (.getfield 98, 3) := by decide +kernel
theorem dX10_tells_39 : decode cX10_tells 39 = .ok (.iload_n 1, 1) := by decide +kernel
theorem dX10_tells_40 : decode cX10_tells 40 = .ok (.invokevirtual 102, 3) := by decide +kernel
theorem dX10_tells_43 : decode cX10_tells 43 = .ok (.astore 4, 2) := by decide +kernel
theorem dX10_tells_45 : decode cX10_tells 45 = .ok (.aload_n 0, 1) := by decide +kernel
theorem dX10_tells_46 : decode cX10_tells 46 = .ok (.getfield 34, 3) := by decide +kernel
theorem dX10_tells_49 : decode cX10_tells 49 = .ok (.aload 4, 2) := by decide +kernel
theorem dX10_tells_51 : decode cX10_tells 51 = .ok (.invokevirtual 116, 3) := by decide +kernel
theorem dX10_tells_54 : decode cX10_tells 54 = .ok (.iconst (-1), 1) := by decide +kernel
theorem dX10_tells_55 : decode cX10_tells 55 = .ok (.if_icmp .eq 7, 3) := by decide +kernel
theorem dX10_tells_58 : decode cX10_tells 58 = .ok (.ldc2_w 122, 3) := by decide +kernel
theorem dX10_tells_61 : decode cX10_tells 61 = .ok (.lreturn, 1) := by decide +kernel
theorem dX10_tells_62 : decode cX10_tells 62 = .ok (.aload_n 0, 1) := by decide +kernel
theorem dX10_tells_63 : decode cX10_tells 63 = .ok (.getfield 12, 3) := by decide +kernel
theorem dX10_tells_66 : decode cX10_tells 66 = .ok (.invokevirtual 124, 3) := by decide +kernel
theorem dX10_tells_69 : decode cX10_tells 69 = .ok (.aload_n 0, 1) := by decide +kernel
theorem dX10_tells_70 : decode cX10_tells 70 = .ok (.getfield 12, 3) := by decide +kernel
theorem dX10_tells_73 : decode cX10_tells 73 = .ok (.aload 4, 2) := by decide +kernel
theorem dX10_tells_75 : decode cX10_tells 75 = .ok (.iload_n 2, 1) := by decide +kernel
theorem dX10_tells_76 : decode cX10_tells 76 = .ok (.iload_n 3, 1) := by decide +kernel
theorem dX10_tells_77 : decode cX10_tells 77 = .ok (.invokevirtual 127, 3) := by decide +kernel
theorem dX10_tells_80 : decode cX10_tells 80 = .ok (.lreturn, 1) := by decide +kernel
theorem dX10_act_0 : decode cX10_act 0 = .ok (.iload_n 1, 1) := by decide +kernel
theorem dX10_act_1 : decode cX10_act 1 = .ok (.invokestatic 95, 3) := by decide +kernel
theorem dX10_act_4 : decode cX10_act 4 = .ok (.ifCond .eq 17, 3) := by decide +kernel
theorem dX10_act_7 : decode cX10_act 7 = .ok (.iload_n 2, 1) := by decide +kernel
theorem dX10_act_8 : decode cX10_act 8 = .ok (.invokestatic 131, 3) := by decide +kernel
theorem dX10_act_11 : decode cX10_act 11 = .ok (.ifCond .eq 10, 3) := by decide +kernel
theorem dX10_act_14 : decode cX10_act 14 = .ok (.iload_n 3, 1) := by decide +kernel
theorem dX10_act_15 : decode cX10_act 15 = .ok (.invokestatic 79, 3) := by decide +kernel
theorem dX10_act_18 : decode cX10_act 18 = .ok (.ifCond .ne 6, 3) := by decide +kernel
theorem dX10_act_21 : decode cX10_act 21 = .ok (.bipush (-2), 2) := by decide +kernel
theorem dX10_act_23 : decode cX10_act 23 = .ok (.ireturn, 1) := by decide +kernel
theorem dX10_act_24 : decode cX10_act 24 = .ok (.aload_n 0, 1) := by decide +kernel
theorem dX10_act_25 : decode cX10_act 25 = .ok (.getfield 20, 3) := by decide +kernel
theorem dX10_act_28 : decode cX10_act 28 = .ok (.getfield 98, 3) := by decide +kernel
theorem dX10_act_31 : decode cX10_act 31 = .ok (.iload_n 1, 1) := by decide +kernel
theorem dX10_act_32 : decode cX10_act 32 = .ok (.invokevirtual 102, 3) := by decide +kernel
theorem dX10_act_35 : decode cX10_act 35 = .ok (.astore 4, 2) := by decide +kernel
theorem dX10_act_37 : decode cX10_act 37 = .ok (.aload_n 0, 1) := by decide +kernel
theorem dX10_act_38 : decode cX10_act 38 = .ok (.getfield 34, 3) := by decide +kernel
theorem dX10_act_41 : decode cX10_act 41 = .ok (.aload 4, 2) := by decide +kernel
theorem dX10_act_43 : decode cX10_act 43 = .ok (.invokevirtual 116, 3) := by decide +kernel
theorem dX10_act_46 : decode cX10_act 46 = .ok (.iconst (-1), 1) := by decide +kernel
theorem dX10_act_47 : decode cX10_act 47 = .ok (.if_icmp .eq 6, 3) := by decide +kernel
theorem dX10_act_50 : decode cX10_act 50 = .ok (.bipush (-3), 2) := by decide +kernel
theorem dX10_act_52 : decode cX10_act 52 = .ok (.ireturn, 1) := by decide +kernel
theorem dX10_act_53 : decode cX10_act 53 = .ok (.aload_n 0, 1) := by decide +kernel
theorem dX10_act_54 : decode cX10_act 54 = .ok (.getfield 20, 3) := by decide +kernel
theorem dX10_act_57 : decode cX10_act 57 = .ok (.getfield 134, 3) := by decide +kernel
theorem dX10_act_60 : decode cX10_act 60 = .ok (.invokevirtual 61, 3) := by decide +kernel
theorem dX10_act_63 : decode cX10_act 63 = .ok (.istore 5, 2) := by decide +kernel
theorem dX10_act_65 : decode cX10_act 65 = .ok (.iload 5, 2) := by decide +kernel
theorem dX10_act_67 : decode cX10_act 67 = .ok (.bipush (-4), 2) := by decide +kernel
theorem dX10_act_69 : decode cX10_act 69 = .ok (.if_icmp .ne 6, 3) := by decide +kernel
theorem dX10_act_72 : decode cX10_act 72 = .ok (.bipush (-4), 2) := by decide +kernel
theorem dX10_act_74 : decode cX10_act 74 = .ok (.ireturn, 1) := by decide +kernel
theorem dX10_act_75 : decode cX10_act 75 = .ok (.aload_n 0, 1) := by decide +kernel
theorem dX10_act_76 : decode cX10_act 76 = .ok (.getfield 20, 3) := by decide +kernel
theorem dX10_act_79 : decode cX10_act 79 = .ok (.getfield 134, 3) := by decide +kernel
theorem dX10_act_82 : decode cX10_act 82 = .ok (.iload 5, 2) := by decide +kernel
theorem dX10_act_84 : decode cX10_act 84 = .ok (.iconst 0, 1) := by decide +kernel
theorem dX10_act_85 : decode cX10_act 85 = .ok (.iload_n 2, 1) := by decide +kernel
theorem dX10_act_86 : decode cX10_act 86 = .ok (.invokevirtual 67, 3) := by decide +kernel
theorem dX10_act_89 : decode cX10_act 89 = .ok (.aload_n 0, 1) := by decide +kernel
theorem dX10_act_90 : decode cX10_act 90 = .ok (.getfield 20, 3) := by decide +kernel
theorem dX10_act_93 : decode cX10_act 93 = .ok (.getfield 134, 3) := by decide +kernel
theorem dX10_act_96 : decode cX10_act 96 = .ok (.iload 5, 2) := by decide +kernel
theorem dX10_act_98 : decode cX10_act 98 = .ok (.iconst 1, 1) := by decide +kernel
theorem dX10_act_99 : decode cX10_act 99 = .ok (.iload_n 3, 1) := by decide +kernel
theorem dX10_act_100 : decode cX10_act 100 = .ok (.invokevirtual 67, 3) := by decide +kernel
theorem dX10_act_103 : decode cX10_act 103 = .ok (.aload_n 0, 1) := by decide +kernel
theorem dX10_act_104 : decode cX10_act 104 = .ok (.getfield 20, 3) := by decide +kernel
theorem dX10_act_107 : decode cX10_act 107 = .ok (.getfield 134, 3) := by decide +kernel
theorem dX10_act_110 : decode cX10_act 110 = .ok (.iload 5, 2) := by decide +kernel
theorem dX10_act_112 : decode cX10_act 112 = .ok (.iconst 2, 1) := by decide +kernel
theorem dX10_act_113 : decode cX10_act 113 = .ok (.iconst (-1), 1) := by decide +kernel
theorem dX10_act_114 : decode cX10_act 114 = .ok (.invokevirtual 67, 3) := by decide +kernel
theorem dX10_act_117 : decode cX10_act 117 = .ok (.aload_n 0, 1) := by decide +kernel
theorem dX10_act_118 : decode cX10_act 118 = .ok (.getfield 20, 3) := by decide +kernel
theorem dX10_act_121 : decode cX10_act 121 = .ok (.getfield 137, 3) := by decide +kernel
theorem dX10_act_124 : decode cX10_act 124 = .ok (.iload 5, 2) := by decide +kernel
theorem dX10_act_126 : decode cX10_act 126 = .ok (.invokevirtual 102, 3) := by decide +kernel
theorem dX10_act_129 : decode cX10_act 129 = .ok (.aload 4, 2) := by decide +kernel
theorem dX10_act_131 : decode cX10_act 131 = .ok (.invokevirtual 140, 3) := by decide +kernel
theorem dX10_act_134 : decode cX10_act 134 = .ok (.aload_n 0, 1) := by decide +kernel
theorem dX10_act_135 : decode cX10_act 135 = .ok (.getfield 12, 3) := by decide +kernel
theorem dX10_act_138 : decode cX10_act 138 = .ok (.iconst 0, 1) := by decide +kernel
theorem dX10_act_139 : decode cX10_act 139 = .ok (.invokevirtual 71, 3) := by decide +kernel
theorem dX10_act_142 : decode cX10_act 142 = .ok (.iload 5, 2) := by decide +kernel
theorem dX10_act_144 : decode cX10_act 144 = .ok (.ireturn, 1) := by decide +kernel
theorem dX10_strikeOut_0 : decode cX10_strikeOut 0 = .ok (.aload_n 0, 1) := by decide +kernel
theorem dX10_strikeOut_1 : decode cX10_strikeOut 1 = .ok (.getfield 20, 3) := by decide +kernel
theorem dX10_strikeOut_4 : decode cX10_strikeOut 4 = .ok (.getfield 134, 3) := by decide +kernel
theorem dX10_strikeOut_7 : decode cX10_strikeOut 7 = .ok (.iload_n 1, 1) := by decide +kernel
theorem dX10_strikeOut_8 : decode cX10_strikeOut 8 = .ok (.invokevirtual 75, 3) := by decide +kernel
theorem dX10_strikeOut_11 : decode cX10_strikeOut 11 = .ok (.ifCond .eq 10, 3) := by decide +kernel
theorem dX10_strikeOut_14 : decode cX10_strikeOut 14 = .ok (.iload_n 2, 1) := by decide +kernel
theorem dX10_strikeOut_15 : decode cX10_strikeOut 15 = .ok (.invokestatic 79, 3) := by decide +kernel
theorem dX10_strikeOut_18 : decode cX10_strikeOut 18 = .ok (.ifCond .ne 6, 3) := by decide +kernel
theorem dX10_strikeOut_21 : decode cX10_strikeOut 21 = .ok (.bipush (-2), 2) := by decide +kernel
theorem dX10_strikeOut_23 : decode cX10_strikeOut 23 = .ok (.ireturn, 1) := by decide +kernel
theorem dX10_strikeOut_24 : decode cX10_strikeOut 24 = .ok (.aload_n 0, 1) := by decide +kernel
theorem dX10_strikeOut_25 : decode cX10_strikeOut 25 = .ok (.getfield 20, 3) := by decide +kernel
theorem dX10_strikeOut_28 : decode cX10_strikeOut 28 = .ok (.getfield 134, 3) := by decide +kernel
theorem dX10_strikeOut_31 : decode cX10_strikeOut 31 = .ok (.iload_n 1, 1) := by decide +kernel
theorem dX10_strikeOut_32 : decode cX10_strikeOut 32 = .ok (.iconst 2, 1) := by decide +kernel
theorem dX10_strikeOut_33 : decode cX10_strikeOut 33 = .ok (.invokevirtual 144, 3) := by decide +kernel
theorem dX10_strikeOut_36 : decode cX10_strikeOut 36 = .ok (.iconst (-1), 1) := by decide +kernel
theorem dX10_strikeOut_37 : decode cX10_strikeOut 37 = .ok (.if_icmp .eq 6, 3) := by decide +kernel
theorem dX10_strikeOut_40 : decode cX10_strikeOut 40 = .ok (.bipush (-3), 2) := by decide +kernel
theorem dX10_strikeOut_42 : decode cX10_strikeOut 42 = .ok (.ireturn, 1) := by decide +kernel
theorem dX10_strikeOut_43 : decode cX10_strikeOut 43 = .ok (.aload_n 0, 1) := by decide +kernel
theorem dX10_strikeOut_44 : decode cX10_strikeOut 44 = .ok (.getfield 20, 3) := by decide +kernel
theorem dX10_strikeOut_47 : decode cX10_strikeOut 47 = .ok (.getfield 134, 3) := by decide +kernel
theorem dX10_strikeOut_50 : decode cX10_strikeOut 50 = .ok (.iload_n 1, 1) := by decide +kernel
theorem dX10_strikeOut_51 : decode cX10_strikeOut 51 = .ok (.iconst 2, 1) := by decide +kernel
theorem dX10_strikeOut_52 : decode cX10_strikeOut 52 = .ok (.iload_n 2, 1) := by decide +kernel
theorem dX10_strikeOut_53 : decode cX10_strikeOut 53 = .ok (.invokevirtual 67, 3) := by decide +kernel
theorem dX10_strikeOut_56 : decode cX10_strikeOut 56 = .ok (.aload_n 0, 1) := by decide +kernel
theorem dX10_strikeOut_57 : decode cX10_strikeOut 57 = .ok (.getfield 12, 3) := by decide +kernel
theorem dX10_strikeOut_60 : decode cX10_strikeOut 60 = .ok (.iconst 0, 1) := by decide +kernel
theorem dX10_strikeOut_61 : decode cX10_strikeOut 61 = .ok (.invokevirtual 71, 3) := by decide +kernel
theorem dX10_strikeOut_64 : decode cX10_strikeOut 64 = .ok (.iconst 1, 1) := by decide +kernel
theorem dX10_strikeOut_65 : decode cX10_strikeOut 65 = .ok (.ireturn, 1) := by decide +kernel
theorem dX10_force_0 : decode cX10_force 0 = .ok (.iload_n 1, 1) := by decide +kernel
theorem dX10_force_1 : decode cX10_force 1 = .ok (.invokestatic 131, 3) := by decide +kernel
theorem dX10_force_4 : decode cX10_force 4 = .ok (.ifCond .eq 22, 3) := by decide +kernel
theorem dX10_force_7 : decode cX10_force 7 = .ok (.iload_n 2, 1) := by decide +kernel
theorem dX10_force_8 : decode cX10_force 8 = .ok (.invokestatic 79, 3) := by decide +kernel
theorem dX10_force_11 : decode cX10_force 11 = .ok (.ifCond .eq 15, 3) := by decide +kernel
theorem dX10_force_14 : decode cX10_force 14 = .ok (.aload_n 0, 1) := by decide +kernel
theorem dX10_force_15 : decode cX10_force 15 = .ok (.getfield 20, 3) := by decide +kernel
theorem dX10_force_18 : decode cX10_force 18 = .ok (.iload_n 1, 1) := by decide +kernel
theorem dX10_force_19 : decode cX10_force 19 = .ok (.iload_n 2, 1) := by decide +kernel
theorem dX10_force_20 : decode cX10_force 20 = .ok (.invokevirtual 148, 3) := by decide +kernel
theorem dX10_force_23 : decode cX10_force 23 = .ok (.goto 5, 3) := by decide +kernel
theorem dX10_force_26 : decode cX10_force 26 = .ok (.bipush (-2), 2) := by decide +kernel
theorem dX10_force_28 : decode cX10_force 28 = .ok (.ireturn, 1) := by decide +kernel
theorem dX10_may_0 : decode cX10_may 0 = .ok (.aload_n 0, 1) := by decide +kernel
theorem dX10_may_1 : decode cX10_may 1 = .ok (.getfield 20, 3) := by decide +kernel
theorem dX10_may_4 : decode cX10_may 4 = .ok (.getfield 57, 3) := by decide +kernel
theorem dX10_may_7 : decode cX10_may 7 = .ok (.iload_n 1, 1) := by decide +kernel
theorem dX10_may_8 : decode cX10_may 8 = .ok (.invokevirtual 75, 3) := by decide +kernel
theorem dX10_may_11 : decode cX10_may 11 = .ok (.ifCond .eq 17, 3) := by decide +kernel
theorem dX10_may_14 : decode cX10_may 14 = .ok (.iload_n 2, 1) := by decide +kernel
theorem dX10_may_15 : decode cX10_may 15 = .ok (.invokestatic 79, 3) := by decide +kernel
theorem dX10_may_18 : decode cX10_may 18 = .ok (.ifCond .eq 10, 3) := by decide +kernel
theorem dX10_may_21 : decode cX10_may 21 = .ok (.iload_n 3, 1) := by decide +kernel
theorem dX10_may_22 : decode cX10_may 22 = .ok (.invokestatic 131, 3) := by decide +kernel
theorem dX10_may_25 : decode cX10_may 25 = .ok (.ifCond .ne 6, 3) := by decide +kernel
theorem dX10_may_28 : decode cX10_may 28 = .ok (.bipush (-2), 2) := by decide +kernel
theorem dX10_may_30 : decode cX10_may 30 = .ok (.ireturn, 1) := by decide +kernel
theorem dX10_may_31 : decode cX10_may 31 = .ok (.aload_n 0, 1) := by decide +kernel
theorem dX10_may_32 : decode cX10_may 32 = .ok (.getfield 12, 3) := by decide +kernel
theorem dX10_may_35 : decode cX10_may 35 = .ok (.invokevirtual 124, 3) := by decide +kernel
theorem dX10_may_38 : decode cX10_may 38 = .ok (.aload_n 0, 1) := by decide +kernel
theorem dX10_may_39 : decode cX10_may 39 = .ok (.getfield 12, 3) := by decide +kernel
theorem dX10_may_42 : decode cX10_may 42 = .ok (.aload_n 0, 1) := by decide +kernel
theorem dX10_may_43 : decode cX10_may 43 = .ok (.getfield 20, 3) := by decide +kernel
theorem dX10_may_46 : decode cX10_may 46 = .ok (.iload_n 3, 1) := by decide +kernel
theorem dX10_may_47 : decode cX10_may 47 = .ok (.iload_n 2, 1) := by decide +kernel
theorem dX10_may_48 : decode cX10_may 48 = .ok (.invokevirtual 151, 3) := by decide +kernel
theorem dX10_may_51 : decode cX10_may 51 = .ok (.iload_n 3, 1) := by decide +kernel
theorem dX10_may_52 : decode cX10_may 52 = .ok (.iload_n 2, 1) := by decide +kernel
theorem dX10_may_53 : decode cX10_may 53 = .ok (.iconst 1, 1) := by decide +kernel
theorem dX10_may_54 : decode cX10_may 54 = .ok (.iload_n 1, 1) := by decide +kernel
theorem dX10_may_55 : decode cX10_may 55 = .ok (.ishl, 1) := by decide +kernel
theorem dX10_may_56 : decode cX10_may 56 = .ok (.invokevirtual 155, 3) := by decide +kernel
theorem dX10_may_59 : decode cX10_may 59 = .ok (.ifCond .eq 7, 3) := by decide +kernel
theorem dX10_may_62 : decode cX10_may 62 = .ok (.iconst 1, 1) := by decide +kernel
theorem dX10_may_63 : decode cX10_may 63 = .ok (.goto 4, 3) := by decide +kernel
theorem dX10_may_66 : decode cX10_may 66 = .ok (.iconst 0, 1) := by decide +kernel
theorem dX10_may_67 : decode cX10_may 67 = .ok (.ireturn, 1) := by decide +kernel
theorem dX10_trial_0 : decode cX10_trial 0 = .ok (.aload_n 0, 1) := by decide +kernel
theorem dX10_trial_1 : decode cX10_trial 1 = .ok (.iload_n 1, 1) := by decide +kernel
theorem dX10_trial_2 : decode cX10_trial 2 = .ok (.invokevirtual 159, 3) := by decide +kernel
theorem dX10_trial_5 : decode cX10_trial 5 = .ok (.ifCond .eq 76, 3) := by decide +kernel
theorem dX10_trial_8 : decode cX10_trial 8 = .ok (.iload_n 2, 1) := by decide +kernel
theorem dX10_trial_9 : decode cX10_trial 9 = .ok (.iconst 1, 1) := by decide +kernel
theorem dX10_trial_10 : decode cX10_trial 10 = .ok (.bipush 9, 2) := by decide +kernel
theorem dX10_trial_12 : decode cX10_trial 12 = .ok (.invokestatic 53, 3) := by decide +kernel
theorem dX10_trial_15 : decode cX10_trial 15 = .ok (.ifCond .eq 66, 3) := by decide +kernel
theorem dX10_trial_18 : decode cX10_trial 18 = .ok (.iload_n 3, 1) := by decide +kernel
theorem dX10_trial_19 : decode cX10_trial 19 = .ok (.iconst 1, 1) := by decide +kernel
theorem dX10_trial_20 : decode cX10_trial 20 = .ok (.bipush 8, 2) := by decide +kernel
theorem dX10_trial_22 : decode cX10_trial 22 = .ok (.invokestatic 53, 3) := by decide +kernel
theorem dX10_trial_25 : decode cX10_trial 25 = .ok (.ifCond .eq 56, 3) := by decide +kernel
theorem dX10_trial_28 : decode cX10_trial 28 = .ok (.iload 4, 2) := by decide +kernel
theorem dX10_trial_30 : decode cX10_trial 30 = .ok (.iconst (-1), 1) := by decide +kernel
theorem dX10_trial_31 : decode cX10_trial 31 = .ok (.bipush 9, 2) := by decide +kernel
theorem dX10_trial_33 : decode cX10_trial 33 = .ok (.invokestatic 53, 3) := by decide +kernel
theorem dX10_trial_36 : decode cX10_trial 36 = .ok (.ifCond .eq 45, 3) := by decide +kernel
theorem dX10_trial_39 : decode cX10_trial 39 = .ok (.iload 5, 2) := by decide +kernel
theorem dX10_trial_41 : decode cX10_trial 41 = .ok (.iconst (-1), 1) := by decide +kernel
theorem dX10_trial_42 : decode cX10_trial 42 = .ok (.bipush 9, 2) := by decide +kernel
theorem dX10_trial_44 : decode cX10_trial 44 = .ok (.invokestatic 53, 3) := by decide +kernel
theorem dX10_trial_47 : decode cX10_trial 47 = .ok (.ifCond .eq 34, 3) := by decide +kernel
theorem dX10_trial_50 : decode cX10_trial 50 = .ok (.iload 6, 2) := by decide +kernel
theorem dX10_trial_52 : decode cX10_trial 52 = .ok (.iconst (-1), 1) := by decide +kernel
theorem dX10_trial_53 : decode cX10_trial 53 = .ok (.iconst 3, 1) := by decide +kernel
theorem dX10_trial_54 : decode cX10_trial 54 = .ok (.invokestatic 53, 3) := by decide +kernel
theorem dX10_trial_57 : decode cX10_trial 57 = .ok (.ifCond .eq 24, 3) := by decide +kernel
theorem dX10_trial_60 : decode cX10_trial 60 = .ok (.iload 7, 2) := by decide +kernel
theorem dX10_trial_62 : decode cX10_trial 62 = .ok (.iconst 0, 1) := by decide +kernel
theorem dX10_trial_63 : decode cX10_trial 63 = .ok (.iconst 4, 1) := by decide +kernel
theorem dX10_trial_64 : decode cX10_trial 64 = .ok (.invokestatic 53, 3) := by decide +kernel
theorem dX10_trial_67 : decode cX10_trial 67 = .ok (.ifCond .eq 14, 3) := by decide +kernel
theorem dX10_trial_70 : decode cX10_trial 70 = .ok (.iload 9, 2) := by decide +kernel
theorem dX10_trial_72 : decode cX10_trial 72 = .ok (.iconst 1, 1) := by decide +kernel
theorem dX10_trial_73 : decode cX10_trial 73 = .ok (.bipush 24, 2) := by decide +kernel
theorem dX10_trial_75 : decode cX10_trial 75 = .ok (.invokestatic 53, 3) := by decide +kernel
theorem dX10_trial_78 : decode cX10_trial 78 = .ok (.ifCond .ne 6, 3) := by decide +kernel
theorem dX10_trial_81 : decode cX10_trial 81 = .ok (.bipush (-2), 2) := by decide +kernel
theorem dX10_trial_83 : decode cX10_trial 83 = .ok (.ireturn, 1) := by decide +kernel
theorem dX10_trial_84 : decode cX10_trial 84 = .ok (.aload_n 0, 1) := by decide +kernel
theorem dX10_trial_85 : decode cX10_trial 85 = .ok (.getfield 20, 3) := by decide +kernel
theorem dX10_trial_88 : decode cX10_trial 88 = .ok (.getfield 162, 3) := by decide +kernel
theorem dX10_trial_91 : decode cX10_trial 91 = .ok (.astore 10, 2) := by decide +kernel
theorem dX10_trial_93 : decode cX10_trial 93 = .ok (.aload 10, 2) := by decide +kernel
theorem dX10_trial_95 : decode cX10_trial 95 = .ok (.invokevirtual 61, 3) := by decide +kernel
theorem dX10_trial_98 : decode cX10_trial 98 = .ok (.istore 11, 2) := by decide +kernel
theorem dX10_trial_100 : decode cX10_trial 100 = .ok (.iload 11, 2) := by decide +kernel
theorem dX10_trial_102 : decode cX10_trial 102 = .ok (.bipush (-4), 2) := by decide +kernel
theorem dX10_trial_104 : decode cX10_trial 104 = .ok (.if_icmp .ne 6, 3) := by decide +kernel
theorem dX10_trial_107 : decode cX10_trial 107 = .ok (.bipush (-4), 2) := by decide +kernel
theorem dX10_trial_109 : decode cX10_trial 109 = .ok (.ireturn, 1) := by decide +kernel
theorem dX10_trial_110 : decode cX10_trial 110 = .ok (.aload 10, 2) := by decide +kernel
theorem dX10_trial_112 : decode cX10_trial 112 = .ok (.iload 11, 2) := by decide +kernel
theorem dX10_trial_114 : decode cX10_trial 114 = .ok (.iconst 0, 1) := by decide +kernel
theorem dX10_trial_115 : decode cX10_trial 115 = .ok (.iload_n 1, 1) := by decide +kernel
theorem dX10_trial_116 : decode cX10_trial 116 = .ok (.invokevirtual 67, 3) := by decide +kernel
theorem dX10_trial_119 : decode cX10_trial 119 = .ok (.aload 10, 2) := by decide +kernel
theorem dX10_trial_121 : decode cX10_trial 121 = .ok (.iload 11, 2) := by decide +kernel
theorem dX10_trial_123 : decode cX10_trial 123 = .ok (.iconst 1, 1) := by decide +kernel
theorem dX10_trial_124 : decode cX10_trial 124 = .ok (.iload_n 2, 1) := by decide +kernel
theorem dX10_trial_125 : decode cX10_trial 125 = .ok (.invokevirtual 67, 3) := by decide +kernel
theorem dX10_trial_128 : decode cX10_trial 128 = .ok (.aload 10, 2) := by decide +kernel
theorem dX10_trial_130 : decode cX10_trial 130 = .ok (.iload 11, 2) := by decide +kernel
theorem dX10_trial_132 : decode cX10_trial 132 = .ok (.iconst 2, 1) := by decide +kernel
theorem dX10_trial_133 : decode cX10_trial 133 = .ok (.iload_n 3, 1) := by decide +kernel
theorem dX10_trial_134 : decode cX10_trial 134 = .ok (.invokevirtual 67, 3) := by decide +kernel
theorem dX10_trial_137 : decode cX10_trial 137 = .ok (.aload 10, 2) := by decide +kernel
theorem dX10_trial_139 : decode cX10_trial 139 = .ok (.iload 11, 2) := by decide +kernel
theorem dX10_trial_141 : decode cX10_trial 141 = .ok (.iconst 3, 1) := by decide +kernel
theorem dX10_trial_142 : decode cX10_trial 142 = .ok (.iload 4, 2) := by decide +kernel
theorem dX10_trial_144 : decode cX10_trial 144 = .ok (.invokevirtual 67, 3) := by decide +kernel
theorem dX10_trial_147 : decode cX10_trial 147 = .ok (.aload 10, 2) := by decide +kernel
theorem dX10_trial_149 : decode cX10_trial 149 = .ok (.iload 11, 2) := by decide +kernel
theorem dX10_trial_151 : decode cX10_trial 151 = .ok (.iconst 4, 1) := by decide +kernel
theorem dX10_trial_152 : decode cX10_trial 152 = .ok (.iload 5, 2) := by decide +kernel
theorem dX10_trial_154 : decode cX10_trial 154 = .ok (.invokevirtual 67, 3) := by decide +kernel
theorem dX10_trial_157 : decode cX10_trial 157 = .ok (.aload 10, 2) := by decide +kernel
theorem dX10_trial_159 : decode cX10_trial 159 = .ok (.iload 11, 2) := by decide +kernel
theorem dX10_trial_161 : decode cX10_trial 161 = .ok (.iconst 5, 1) := by decide +kernel
theorem dX10_trial_162 : decode cX10_trial 162 = .ok (.iload 6, 2) := by decide +kernel
theorem dX10_trial_164 : decode cX10_trial 164 = .ok (.invokevirtual 67, 3) := by decide +kernel
theorem dX10_trial_167 : decode cX10_trial 167 = .ok (.aload 10, 2) := by decide +kernel
theorem dX10_trial_169 : decode cX10_trial 169 = .ok (.iload 11, 2) := by decide +kernel
theorem dX10_trial_171 : decode cX10_trial 171 = .ok (.bipush 6, 2) := by decide +kernel
theorem dX10_trial_173 : decode cX10_trial 173 = .ok (.iload 7, 2) := by decide +kernel
theorem dX10_trial_175 : decode cX10_trial 175 = .ok (.invokevirtual 67, 3) := by decide +kernel
theorem dX10_trial_178 : decode cX10_trial 178 = .ok (.aload 10, 2) := by decide +kernel
theorem dX10_trial_180 : decode cX10_trial 180 = .ok (.iload 11, 2) := by decide +kernel
theorem dX10_trial_182 : decode cX10_trial 182 = .ok (.bipush 7, 2) := by decide +kernel
theorem dX10_trial_184 : decode cX10_trial 184 = .ok (.iload 8, 2) := by decide +kernel
theorem dX10_trial_186 : decode cX10_trial 186 = .ok (.invokevirtual 67, 3) := by decide +kernel
theorem dX10_trial_189 : decode cX10_trial 189 = .ok (.aload 10, 2) := by decide +kernel
theorem dX10_trial_191 : decode cX10_trial 191 = .ok (.iload 11, 2) := by decide +kernel
theorem dX10_trial_193 : decode cX10_trial 193 = .ok (.bipush 8, 2) := by decide +kernel
theorem dX10_trial_195 : decode cX10_trial 195 = .ok (.iload 9, 2) := by decide +kernel
theorem dX10_trial_197 : decode cX10_trial 197 = .ok (.invokevirtual 67, 3) := by decide +kernel
theorem dX10_trial_200 : decode cX10_trial 200 = .ok (.iload 11, 2) := by decide +kernel
theorem dX10_trial_202 : decode cX10_trial 202 = .ok (.ireturn, 1) := by decide +kernel
theorem dX10_away_0 : decode cX10_away 0 = .ok (.aload_n 0, 1) := by decide +kernel
theorem dX10_away_1 : decode cX10_away 1 = .ok (.getfield 20, 3) := by decide +kernel
theorem dX10_away_4 : decode cX10_away 4 = .ok (.getfield 162, 3) := by decide +kernel
theorem dX10_away_7 : decode cX10_away 7 = .ok (.iload_n 1, 1) := by decide +kernel
theorem dX10_away_8 : decode cX10_away 8 = .ok (.invokevirtual 75, 3) := by decide +kernel
theorem dX10_away_11 : decode cX10_away 11 = .ok (.ifCond .eq 17, 3) := by decide +kernel
theorem dX10_away_14 : decode cX10_away 14 = .ok (.aload_n 0, 1) := by decide +kernel
theorem dX10_away_15 : decode cX10_away 15 = .ok (.getfield 20, 3) := by decide +kernel
theorem dX10_away_18 : decode cX10_away 18 = .ok (.getfield 57, 3) := by decide +kernel
theorem dX10_away_21 : decode cX10_away 21 = .ok (.iload_n 2, 1) := by decide +kernel
theorem dX10_away_22 : decode cX10_away 22 = .ok (.invokevirtual 75, 3) := by decide +kernel
theorem dX10_away_25 : decode cX10_away 25 = .ok (.ifCond .ne 6, 3) := by decide +kernel
theorem dX10_away_28 : decode cX10_away 28 = .ok (.bipush (-2), 2) := by decide +kernel
theorem dX10_away_30 : decode cX10_away 30 = .ok (.ireturn, 1) := by decide +kernel
theorem dX10_away_31 : decode cX10_away 31 = .ok (.aload_n 0, 1) := by decide +kernel
theorem dX10_away_32 : decode cX10_away 32 = .ok (.getfield 20, 3) := by decide +kernel
theorem dX10_away_35 : decode cX10_away 35 = .ok (.getfield 162, 3) := by decide +kernel
theorem dX10_away_38 : decode cX10_away 38 = .ok (.iload_n 1, 1) := by decide +kernel
theorem dX10_away_39 : decode cX10_away 39 = .ok (.bipush 9, 2) := by decide +kernel
theorem dX10_away_41 : decode cX10_away 41 = .ok (.invokevirtual 144, 3) := by decide +kernel
theorem dX10_away_44 : decode cX10_away 44 = .ok (.istore 4, 2) := by decide +kernel
theorem dX10_away_46 : decode cX10_away 46 = .ok (.iload 4, 2) := by decide +kernel
theorem dX10_away_48 : decode cX10_away 48 = .ok (.iload_n 2, 1) := by decide +kernel
theorem dX10_away_49 : decode cX10_away 49 = .ok (.invokestatic 165, 3) := by decide +kernel
theorem dX10_away_52 : decode cX10_away 52 = .ok (.iload_n 3, 1) := by decide +kernel
theorem dX10_away_53 : decode cX10_away 53 = .ok (.if_icmp .ne 6, 3) := by decide +kernel
theorem dX10_away_56 : decode cX10_away 56 = .ok (.bipush (-3), 2) := by decide +kernel
theorem dX10_away_58 : decode cX10_away 58 = .ok (.ireturn, 1) := by decide +kernel
theorem dX10_away_59 : decode cX10_away 59 = .ok (.aload_n 0, 1) := by decide +kernel
theorem dX10_away_60 : decode cX10_away 60 = .ok (.getfield 20, 3) := by decide +kernel
theorem dX10_away_63 : decode cX10_away 63 = .ok (.getfield 162, 3) := by decide +kernel
theorem dX10_away_66 : decode cX10_away 66 = .ok (.iload_n 1, 1) := by decide +kernel
theorem dX10_away_67 : decode cX10_away 67 = .ok (.bipush 9, 2) := by decide +kernel
theorem dX10_away_69 : decode cX10_away 69 = .ok (.iload 4, 2) := by decide +kernel
theorem dX10_away_71 : decode cX10_away 71 = .ok (.iconst 1, 1) := by decide +kernel
theorem dX10_away_72 : decode cX10_away 72 = .ok (.iload_n 2, 1) := by decide +kernel
theorem dX10_away_73 : decode cX10_away 73 = .ok (.ishl, 1) := by decide +kernel
theorem dX10_away_74 : decode cX10_away 74 = .ok (.ixor, 1) := by decide +kernel
theorem dX10_away_75 : decode cX10_away 75 = .ok (.invokevirtual 67, 3) := by decide +kernel
theorem dX10_away_78 : decode cX10_away 78 = .ok (.aload_n 0, 1) := by decide +kernel
theorem dX10_away_79 : decode cX10_away 79 = .ok (.getfield 12, 3) := by decide +kernel
theorem dX10_away_82 : decode cX10_away 82 = .ok (.iload_n 1, 1) := by decide +kernel
theorem dX10_away_83 : decode cX10_away 83 = .ok (.invokevirtual 71, 3) := by decide +kernel
theorem dX10_away_86 : decode cX10_away 86 = .ok (.iconst 1, 1) := by decide +kernel
theorem dX10_away_87 : decode cX10_away 87 = .ok (.ireturn, 1) := by decide +kernel
theorem dX10_like_0 : decode cX10_like 0 = .ok (.aload_n 0, 1) := by decide +kernel
theorem dX10_like_1 : decode cX10_like 1 = .ok (.getfield 20, 3) := by decide +kernel
theorem dX10_like_4 : decode cX10_like 4 = .ok (.getfield 162, 3) := by decide +kernel
theorem dX10_like_7 : decode cX10_like 7 = .ok (.iload_n 1, 1) := by decide +kernel
theorem dX10_like_8 : decode cX10_like 8 = .ok (.invokevirtual 75, 3) := by decide +kernel
theorem dX10_like_11 : decode cX10_like 11 = .ok (.ifCond .eq 38, 3) := by decide +kernel
theorem dX10_like_14 : decode cX10_like 14 = .ok (.iload_n 2, 1) := by decide +kernel
theorem dX10_like_15 : decode cX10_like 15 = .ok (.iconst 0, 1) := by decide +kernel
theorem dX10_like_16 : decode cX10_like 16 = .ok (.iconst 1, 1) := by decide +kernel
theorem dX10_like_17 : decode cX10_like 17 = .ok (.invokestatic 53, 3) := by decide +kernel
theorem dX10_like_20 : decode cX10_like 20 = .ok (.ifCond .eq 29, 3) := by decide +kernel
theorem dX10_like_23 : decode cX10_like 23 = .ok (.aload_n 0, 1) := by decide +kernel
theorem dX10_like_24 : decode cX10_like 24 = .ok (.getfield 20, 3) := by decide +kernel
theorem dX10_like_27 : decode cX10_like 27 = .ok (.getfield 57, 3) := by decide +kernel
theorem dX10_like_30 : decode cX10_like 30 = .ok (.iload_n 3, 1) := by decide +kernel
theorem dX10_like_31 : decode cX10_like 31 = .ok (.invokevirtual 75, 3) := by decide +kernel
theorem dX10_like_34 : decode cX10_like 34 = .ok (.ifCond .eq 15, 3) := by decide +kernel
theorem dX10_like_37 : decode cX10_like 37 = .ok (.iload 4, 2) := by decide +kernel
theorem dX10_like_39 : decode cX10_like 39 = .ok (.bipush (-100), 2) := by decide +kernel
theorem dX10_like_41 : decode cX10_like 41 = .ok (.bipush 100, 2) := by decide +kernel
theorem dX10_like_43 : decode cX10_like 43 = .ok (.invokestatic 53, 3) := by decide +kernel
theorem dX10_like_46 : decode cX10_like 46 = .ok (.ifCond .ne 7, 3) := by decide +kernel
theorem dX10_like_49 : decode cX10_like 49 = .ok (.sipush (-1000), 3) := by decide +kernel
theorem dX10_like_52 : decode cX10_like 52 = .ok (.ireturn, 1) := by decide +kernel
theorem dX10_like_53 : decode cX10_like 53 = .ok (.iload_n 2, 1) := by decide +kernel
theorem dX10_like_54 : decode cX10_like 54 = .ok (.iload_n 3, 1) := by decide +kernel
theorem dX10_like_55 : decode cX10_like 55 = .ok (.invokestatic 169, 3) := by decide +kernel
theorem dX10_like_58 : decode cX10_like 58 = .ok (.istore 5, 2) := by decide +kernel
theorem dX10_like_60 : decode cX10_like 60 = .ok (.aload_n 0, 1) := by decide +kernel
theorem dX10_like_61 : decode cX10_like 61 = .ok (.getfield 20, 3) := by decide +kernel
theorem dX10_like_64 : decode cX10_like 64 = .ok (.getfield 162, 3) := by decide +kernel
theorem dX10_like_67 : decode cX10_like 67 = .ok (.iload_n 1, 1) := by decide +kernel
theorem dX10_like_68 : decode cX10_like 68 = .ok (.iload 5, 2) := by decide +kernel
theorem dX10_like_70 : decode cX10_like 70 = .ok (.invokevirtual 144, 3) := by decide +kernel
theorem dX10_like_73 : decode cX10_like 73 = .ok (.istore 6, 2) := by decide +kernel
theorem dX10_like_75 : decode cX10_like 75 = .ok (.aload_n 0, 1) := by decide +kernel
theorem dX10_like_76 : decode cX10_like 76 = .ok (.getfield 20, 3) := by decide +kernel
theorem dX10_like_79 : decode cX10_like 79 = .ok (.getfield 162, 3) := by decide +kernel
theorem dX10_like_82 : decode cX10_like 82 = .ok (.iload_n 1, 1) := by decide +kernel
theorem dX10_like_83 : decode cX10_like 83 = .ok (.iload 5, 2) := by decide +kernel
theorem dX10_like_85 : decode cX10_like 85 = .ok (.iload 4, 2) := by decide +kernel
theorem dX10_like_87 : decode cX10_like 87 = .ok (.invokevirtual 67, 3) := by decide +kernel
theorem dX10_like_90 : decode cX10_like 90 = .ok (.aload_n 0, 1) := by decide +kernel
theorem dX10_like_91 : decode cX10_like 91 = .ok (.getfield 12, 3) := by decide +kernel
theorem dX10_like_94 : decode cX10_like 94 = .ok (.iload_n 1, 1) := by decide +kernel
theorem dX10_like_95 : decode cX10_like 95 = .ok (.invokevirtual 71, 3) := by decide +kernel
theorem dX10_like_98 : decode cX10_like 98 = .ok (.iload 6, 2) := by decide +kernel
theorem dX10_like_100 : decode cX10_like 100 = .ok (.ireturn, 1) := by decide +kernel
theorem dX10_box_0 : decode cX10_box 0 = .ok (.aload_n 0, 1) := by decide +kernel
theorem dX10_box_1 : decode cX10_box 1 = .ok (.getfield 20, 3) := by decide +kernel
theorem dX10_box_4 : decode cX10_box 4 = .ok (.getfield 162, 3) := by decide +kernel
theorem dX10_box_7 : decode cX10_box 7 = .ok (.iload_n 1, 1) := by decide +kernel
theorem dX10_box_8 : decode cX10_box 8 = .ok (.invokevirtual 75, 3) := by decide +kernel
theorem dX10_box_11 : decode cX10_box 11 = .ok (.ifCond .ne 6, 3) := by decide +kernel
theorem dX10_box_14 : decode cX10_box 14 = .ok (.bipush (-2), 2) := by decide +kernel
theorem dX10_box_16 : decode cX10_box 16 = .ok (.ireturn, 1) := by decide +kernel
theorem dX10_box_17 : decode cX10_box 17 = .ok (.aload_n 0, 1) := by decide +kernel
theorem dX10_box_18 : decode cX10_box 18 = .ok (.getfield 12, 3) := by decide +kernel
theorem dX10_box_21 : decode cX10_box 21 = .ok (.invokevirtual 124, 3) := by decide +kernel
theorem dX10_box_24 : decode cX10_box 24 = .ok (.aload_n 0, 1) := by decide +kernel
theorem dX10_box_25 : decode cX10_box 25 = .ok (.getfield 12, 3) := by decide +kernel
theorem dX10_box_28 : decode cX10_box 28 = .ok (.iload_n 1, 1) := by decide +kernel
theorem dX10_box_29 : decode cX10_box 29 = .ok (.invokevirtual 172, 3) := by decide +kernel
theorem dX10_box_32 : decode cX10_box 32 = .ok (.getfield 176, 3) := by decide +kernel
theorem dX10_box_35 : decode cX10_box 35 = .ok (.ireturn, 1) := by decide +kernel

theorem dX11_force_0 : decode cX11_force 0 = .ok (.iload_n 1, 1) := by decide +kernel
theorem dX11_force_1 : decode cX11_force 1 = .ok (.i2l, 1) := by decide +kernel
theorem dX11_force_2 : decode cX11_force 2 = .ok (.lconst 0, 1) := by decide +kernel
theorem dX11_force_3 : decode cX11_force 3 = .ok (.lconst 1, 1) := by decide +kernel
theorem dX11_force_4 : decode cX11_force 4 = .ok (.invokestatic 67, 3) := by decide +kernel
theorem dX11_force_7 : decode cX11_force 7 = .ok (.ifCond .eq 19, 3) := by decide +kernel
theorem dX11_force_10 : decode cX11_force 10 = .ok (.iload_n 2, 1) := by decide +kernel
theorem dX11_force_11 : decode cX11_force 11 = .ok (.invokestatic 93, 3) := by decide +kernel
theorem dX11_force_14 : decode cX11_force 14 = .ok (.ifCond .eq 12, 3) := by decide +kernel
theorem dX11_force_17 : decode cX11_force 17 = .ok (.aload_n 0, 1) := by decide +kernel
theorem dX11_force_18 : decode cX11_force 18 = .ok (.iload_n 1, 1) := by decide +kernel
theorem dX11_force_19 : decode cX11_force 19 = .ok (.iload_n 2, 1) := by decide +kernel
theorem dX11_force_20 : decode cX11_force 20 = .ok (.invokevirtual 185, 3) := by decide +kernel
theorem dX11_force_23 : decode cX11_force 23 = .ok (.goto 5, 3) := by decide +kernel
theorem dX11_force_26 : decode cX11_force 26 = .ok (.bipush (-2), 2) := by decide +kernel
theorem dX11_force_28 : decode cX11_force 28 = .ok (.ireturn, 1) := by decide +kernel
theorem dX11_whom_0 : decode cX11_whom 0 = .ok (.aload_n 0, 1) := by decide +kernel
theorem dX11_whom_1 : decode cX11_whom 1 = .ok (.iload_n 1, 1) := by decide +kernel
theorem dX11_whom_2 : decode cX11_whom 2 = .ok (.iload_n 2, 1) := by decide +kernel
theorem dX11_whom_3 : decode cX11_whom 3 = .ok (.invokevirtual 185, 3) := by decide +kernel
theorem dX11_whom_6 : decode cX11_whom 6 = .ok (.istore 4, 2) := by decide +kernel
theorem dX11_whom_8 : decode cX11_whom 8 = .ok (.iload_n 3, 1) := by decide +kernel
theorem dX11_whom_9 : decode cX11_whom 9 = .ok (.iconst (-1), 1) := by decide +kernel
theorem dX11_whom_10 : decode cX11_whom 10 = .ok (.if_icmp .eq 14, 3) := by decide +kernel
theorem dX11_whom_13 : decode cX11_whom 13 = .ok (.sipush 262, 3) := by decide +kernel
theorem dX11_whom_16 : decode cX11_whom 16 = .ok (.bipush 51, 2) := by decide +kernel
theorem dX11_whom_18 : decode cX11_whom 18 = .ok (.iload_n 3, 1) := by decide +kernel
theorem dX11_whom_19 : decode cX11_whom 19 = .ok (.imul, 1) := by decide +kernel
theorem dX11_whom_20 : decode cX11_whom 20 = .ok (.iadd, 1) := by decide +kernel
theorem dX11_whom_21 : decode cX11_whom 21 = .ok (.goto 24, 3) := by decide +kernel
theorem dX11_whom_24 : decode cX11_whom 24 = .ok (.iload 4, 2) := by decide +kernel
theorem dX11_whom_26 : decode cX11_whom 26 = .ok (.iconst (-1), 1) := by decide +kernel
theorem dX11_whom_27 : decode cX11_whom 27 = .ok (.if_icmp .ne 7, 3) := by decide +kernel
theorem dX11_whom_30 : decode cX11_whom 30 = .ok (.iconst (-1), 1) := by decide +kernel
theorem dX11_whom_31 : decode cX11_whom 31 = .ok (.goto 14, 3) := by decide +kernel
theorem dX11_whom_34 : decode cX11_whom 34 = .ok (.sipush 466, 3) := by decide +kernel
theorem dX11_whom_37 : decode cX11_whom 37 = .ok (.bipush 54, 2) := by decide +kernel
theorem dX11_whom_39 : decode cX11_whom 39 = .ok (.iload 4, 2) := by decide +kernel
theorem dX11_whom_41 : decode cX11_whom 41 = .ok (.imul, 1) := by decide +kernel
theorem dX11_whom_42 : decode cX11_whom 42 = .ok (.iadd, 1) := by decide +kernel
theorem dX11_whom_43 : decode cX11_whom 43 = .ok (.iconst 3, 1) := by decide +kernel
theorem dX11_whom_44 : decode cX11_whom 44 = .ok (.iadd, 1) := by decide +kernel
theorem dX11_whom_45 : decode cX11_whom 45 = .ok (.istore 5, 2) := by decide +kernel
theorem dX11_whom_47 : decode cX11_whom 47 = .ok (.iload 5, 2) := by decide +kernel
theorem dX11_whom_49 : decode cX11_whom 49 = .ok (.iconst (-1), 1) := by decide +kernel
theorem dX11_whom_50 : decode cX11_whom 50 = .ok (.if_icmp .ne 16, 3) := by decide +kernel
theorem dX11_whom_53 : decode cX11_whom 53 = .ok (.iload_n 1, 1) := by decide +kernel
theorem dX11_whom_54 : decode cX11_whom 54 = .ok (.ifCond .ne 10, 3) := by decide +kernel
theorem dX11_whom_57 : decode cX11_whom 57 = .ok (.aload_n 0, 1) := by decide +kernel
theorem dX11_whom_58 : decode cX11_whom 58 = .ok (.invokevirtual 97, 3) := by decide +kernel
theorem dX11_whom_61 : decode cX11_whom 61 = .ok (.goto 4, 3) := by decide +kernel
theorem dX11_whom_64 : decode cX11_whom 64 = .ok (.iconst 0, 1) := by decide +kernel
theorem dX11_whom_65 : decode cX11_whom 65 = .ok (.ireturn, 1) := by decide +kernel
theorem dX11_whom_66 : decode cX11_whom 66 = .ok (.aload_n 0, 1) := by decide +kernel
theorem dX11_whom_67 : decode cX11_whom 67 = .ok (.iload 5, 2) := by decide +kernel
theorem dX11_whom_69 : decode cX11_whom 69 = .ok (.invokevirtual 171, 3) := by decide +kernel
theorem dX11_whom_72 : decode cX11_whom 72 = .ok (.pop, 1) := by decide +kernel
theorem dX11_whom_73 : decode cX11_whom 73 = .ok (.iconst 0, 1) := by decide +kernel
theorem dX11_whom_74 : decode cX11_whom 74 = .ok (.istore 6, 2) := by decide +kernel
theorem dX11_whom_76 : decode cX11_whom 76 = .ok (.iconst 0, 1) := by decide +kernel
theorem dX11_whom_77 : decode cX11_whom 77 = .ok (.istore 7, 2) := by decide +kernel
theorem dX11_whom_79 : decode cX11_whom 79 = .ok (.iload 7, 2) := by decide +kernel
theorem dX11_whom_81 : decode cX11_whom 81 = .ok (.aload_n 0, 1) := by decide +kernel
theorem dX11_whom_82 : decode cX11_whom 82 = .ok (.getfield 7, 3) := by decide +kernel
theorem dX11_whom_85 : decode cX11_whom 85 = .ok (.iconst 0, 1) := by decide +kernel
theorem dX11_whom_86 : decode cX11_whom 86 = .ok (.iaload, 1) := by decide +kernel
theorem dX11_whom_87 : decode cX11_whom 87 = .ok (.if_icmp .ge 34, 3) := by decide +kernel
theorem dX11_whom_90 : decode cX11_whom 90 = .ok (.iload 6, 2) := by decide +kernel
theorem dX11_whom_92 : decode cX11_whom 92 = .ok (.aload_n 0, 1) := by decide +kernel
theorem dX11_whom_93 : decode cX11_whom 93 = .ok (.iload 7, 2) := by decide +kernel
theorem dX11_whom_95 : decode cX11_whom 95 = .ok (.iload_n 2, 1) := by decide +kernel
theorem dX11_whom_96 : decode cX11_whom 96 = .ok (.invokevirtual 181, 3) := by decide +kernel
theorem dX11_whom_99 : decode cX11_whom 99 = .ok (.lconst 0, 1) := by decide +kernel
theorem dX11_whom_100 : decode cX11_whom 100 = .ok (.lcmp, 1) := by decide +kernel
theorem dX11_whom_101 : decode cX11_whom 101 = .ok (.ifCond .eq 10, 3) := by decide +kernel
theorem dX11_whom_104 : decode cX11_whom 104 = .ok (.iconst 1, 1) := by decide +kernel
theorem dX11_whom_105 : decode cX11_whom 105 = .ok (.iload 7, 2) := by decide +kernel
theorem dX11_whom_107 : decode cX11_whom 107 = .ok (.ishl, 1) := by decide +kernel
theorem dX11_whom_108 : decode cX11_whom 108 = .ok (.goto 4, 3) := by decide +kernel
theorem dX11_whom_111 : decode cX11_whom 111 = .ok (.iconst 0, 1) := by decide +kernel
theorem dX11_whom_112 : decode cX11_whom 112 = .ok (.ior, 1) := by decide +kernel
theorem dX11_whom_113 : decode cX11_whom 113 = .ok (.istore 6, 2) := by decide +kernel
theorem dX11_whom_115 : decode cX11_whom 115 = .ok (.iinc 7 1, 3) := by decide +kernel
theorem dX11_whom_118 : decode cX11_whom 118 = .ok (.goto (-39), 3) := by decide +kernel
theorem dX11_whom_121 : decode cX11_whom 121 = .ok (.iload 6, 2) := by decide +kernel
theorem dX11_whom_123 : decode cX11_whom 123 = .ok (.ireturn, 1) := by decide +kernel
theorem dX11_may_0 : decode cX11_may 0 = .ok (.aload_n 0, 1) := by decide +kernel
theorem dX11_may_1 : decode cX11_may 1 = .ok (.iconst 0, 1) := by decide +kernel
theorem dX11_may_2 : decode cX11_may 2 = .ok (.iload_n 1, 1) := by decide +kernel
theorem dX11_may_3 : decode cX11_may 3 = .ok (.invokevirtual 87, 3) := by decide +kernel
theorem dX11_may_6 : decode cX11_may 6 = .ok (.ifCond .eq 20, 3) := by decide +kernel
theorem dX11_may_9 : decode cX11_may 9 = .ok (.iload_n 2, 1) := by decide +kernel
theorem dX11_may_10 : decode cX11_may 10 = .ok (.invokestatic 93, 3) := by decide +kernel
theorem dX11_may_13 : decode cX11_may 13 = .ok (.ifCond .eq 13, 3) := by decide +kernel
theorem dX11_may_16 : decode cX11_may 16 = .ok (.iload_n 3, 1) := by decide +kernel
theorem dX11_may_17 : decode cX11_may 17 = .ok (.i2l, 1) := by decide +kernel
theorem dX11_may_18 : decode cX11_may 18 = .ok (.lconst 0, 1) := by decide +kernel
theorem dX11_may_19 : decode cX11_may 19 = .ok (.lconst 1, 1) := by decide +kernel
theorem dX11_may_20 : decode cX11_may 20 = .ok (.invokestatic 67, 3) := by decide +kernel
theorem dX11_may_23 : decode cX11_may 23 = .ok (.ifCond .ne 6, 3) := by decide +kernel
theorem dX11_may_26 : decode cX11_may 26 = .ok (.bipush (-2), 2) := by decide +kernel
theorem dX11_may_28 : decode cX11_may 28 = .ok (.ireturn, 1) := by decide +kernel
theorem dX11_may_29 : decode cX11_may 29 = .ok (.aload_n 0, 1) := by decide +kernel
theorem dX11_may_30 : decode cX11_may 30 = .ok (.invokevirtual 176, 3) := by decide +kernel
theorem dX11_may_33 : decode cX11_may 33 = .ok (.aload_n 0, 1) := by decide +kernel
theorem dX11_may_34 : decode cX11_may 34 = .ok (.iload_n 3, 1) := by decide +kernel
theorem dX11_may_35 : decode cX11_may 35 = .ok (.iload_n 2, 1) := by decide +kernel
theorem dX11_may_36 : decode cX11_may 36 = .ok (.iconst (-1), 1) := by decide +kernel
theorem dX11_may_37 : decode cX11_may 37 = .ok (.invokevirtual 188, 3) := by decide +kernel
theorem dX11_may_40 : decode cX11_may 40 = .ok (.iload_n 1, 1) := by decide +kernel
theorem dX11_may_41 : decode cX11_may 41 = .ok (.ishr, 1) := by decide +kernel
theorem dX11_may_42 : decode cX11_may 42 = .ok (.iconst 1, 1) := by decide +kernel
theorem dX11_may_43 : decode cX11_may 43 = .ok (.iand, 1) := by decide +kernel
theorem dX11_may_44 : decode cX11_may 44 = .ok (.ireturn, 1) := by decide +kernel
theorem dX11_trial_0 : decode cX11_trial 0 = .ok (.aload_n 0, 1) := by decide +kernel
theorem dX11_trial_1 : decode cX11_trial 1 = .ok (.getfield 7, 3) := by decide +kernel
theorem dX11_trial_4 : decode cX11_trial 4 = .ok (.iconst 4, 1) := by decide +kernel
theorem dX11_trial_5 : decode cX11_trial 5 = .ok (.iaload, 1) := by decide +kernel
theorem dX11_trial_6 : decode cX11_trial 6 = .ok (.ifCond .ne 7, 3) := by decide +kernel
theorem dX11_trial_9 : decode cX11_trial 9 = .ok (.iconst 0, 1) := by decide +kernel
theorem dX11_trial_10 : decode cX11_trial 10 = .ok (.goto 16, 3) := by decide +kernel
theorem dX11_trial_13 : decode cX11_trial 13 = .ok (.aload_n 0, 1) := by decide +kernel
theorem dX11_trial_14 : decode cX11_trial 14 = .ok (.aload_n 0, 1) := by decide +kernel
theorem dX11_trial_15 : decode cX11_trial 15 = .ok (.getfield 7, 3) := by decide +kernel
theorem dX11_trial_18 : decode cX11_trial 18 = .ok (.iconst 4, 1) := by decide +kernel
theorem dX11_trial_19 : decode cX11_trial 19 = .ok (.iaload, 1) := by decide +kernel
theorem dX11_trial_20 : decode cX11_trial 20 = .ok (.iconst 1, 1) := by decide +kernel
theorem dX11_trial_21 : decode cX11_trial 21 = .ok (.isub, 1) := by decide +kernel
theorem dX11_trial_22 : decode cX11_trial 22 = .ok (.iconst 0, 1) := by decide +kernel
theorem dX11_trial_23 : decode cX11_trial 23 = .ok (.invokevirtual 149, 3) := by decide +kernel
theorem dX11_trial_26 : decode cX11_trial 26 = .ok (.istore 10, 2) := by decide +kernel
theorem dX11_trial_28 : decode cX11_trial 28 = .ok (.iload_n 1, 1) := by decide +kernel
theorem dX11_trial_29 : decode cX11_trial 29 = .ok (.i2l, 1) := by decide +kernel
theorem dX11_trial_30 : decode cX11_trial 30 = .ok (.iload 10, 2) := by decide +kernel
theorem dX11_trial_32 : decode cX11_trial 32 = .ok (.i2l, 1) := by decide +kernel
theorem dX11_trial_33 : decode cX11_trial 33 = .ok (.ldc2_w 75, 3) := by decide +kernel
theorem dX11_trial_36 : decode cX11_trial 36 = .ok (.invokestatic 67, 3) := by decide +kernel
theorem dX11_trial_39 : decode cX11_trial 39 = .ok (.ifCond .eq 98, 3) := by decide +kernel
theorem dX11_trial_42 : decode cX11_trial 42 = .ok (.iload_n 2, 1) := by decide +kernel
theorem dX11_trial_43 : decode cX11_trial 43 = .ok (.i2l, 1) := by decide +kernel
theorem dX11_trial_44 : decode cX11_trial 44 = .ok (.lconst 1, 1) := by decide +kernel
theorem dX11_trial_45 : decode cX11_trial 45 = .ok (.ldc2_w 91, 3) := by decide +kernel
theorem dX11_trial_48 : decode cX11_trial 48 = .ok (.invokestatic 67, 3) := by decide +kernel
theorem dX11_trial_51 : decode cX11_trial 51 = .ok (.ifCond .eq 86, 3) := by decide +kernel
theorem dX11_trial_54 : decode cX11_trial 54 = .ok (.iload_n 3, 1) := by decide +kernel
theorem dX11_trial_55 : decode cX11_trial 55 = .ok (.i2l, 1) := by decide +kernel
theorem dX11_trial_56 : decode cX11_trial 56 = .ok (.lconst 1, 1) := by decide +kernel
theorem dX11_trial_57 : decode cX11_trial 57 = .ok (.ldc2_w 192, 3) := by decide +kernel
theorem dX11_trial_60 : decode cX11_trial 60 = .ok (.invokestatic 67, 3) := by decide +kernel
theorem dX11_trial_63 : decode cX11_trial 63 = .ok (.ifCond .eq 74, 3) := by decide +kernel
theorem dX11_trial_66 : decode cX11_trial 66 = .ok (.iload 4, 2) := by decide +kernel
theorem dX11_trial_68 : decode cX11_trial 68 = .ok (.i2l, 1) := by decide +kernel
theorem dX11_trial_69 : decode cX11_trial 69 = .ok (.ldc2_w 194, 3) := by decide +kernel
theorem dX11_trial_72 : decode cX11_trial 72 = .ok (.ldc2_w 91, 3) := by decide +kernel
theorem dX11_trial_75 : decode cX11_trial 75 = .ok (.invokestatic 67, 3) := by decide +kernel
theorem dX11_trial_78 : decode cX11_trial 78 = .ok (.ifCond .eq 59, 3) := by decide +kernel
theorem dX11_trial_81 : decode cX11_trial 81 = .ok (.iload 5, 2) := by decide +kernel
theorem dX11_trial_83 : decode cX11_trial 83 = .ok (.i2l, 1) := by decide +kernel
theorem dX11_trial_84 : decode cX11_trial 84 = .ok (.ldc2_w 194, 3) := by decide +kernel
theorem dX11_trial_87 : decode cX11_trial 87 = .ok (.ldc2_w 91, 3) := by decide +kernel
theorem dX11_trial_90 : decode cX11_trial 90 = .ok (.invokestatic 67, 3) := by decide +kernel
theorem dX11_trial_93 : decode cX11_trial 93 = .ok (.ifCond .eq 44, 3) := by decide +kernel
theorem dX11_trial_96 : decode cX11_trial 96 = .ok (.iload 6, 2) := by decide +kernel
theorem dX11_trial_98 : decode cX11_trial 98 = .ok (.i2l, 1) := by decide +kernel
theorem dX11_trial_99 : decode cX11_trial 99 = .ok (.ldc2_w 194, 3) := by decide +kernel
theorem dX11_trial_102 : decode cX11_trial 102 = .ok (.ldc2_w 77, 3) := by decide +kernel
theorem dX11_trial_105 : decode cX11_trial 105 = .ok (.invokestatic 67, 3) := by decide +kernel
theorem dX11_trial_108 : decode cX11_trial 108 = .ok (.ifCond .eq 29, 3) := by decide +kernel
theorem dX11_trial_111 : decode cX11_trial 111 = .ok (.iload 7, 2) := by decide +kernel
theorem dX11_trial_113 : decode cX11_trial 113 = .ok (.i2l, 1) := by decide +kernel
theorem dX11_trial_114 : decode cX11_trial 114 = .ok (.lconst 0, 1) := by decide +kernel
theorem dX11_trial_115 : decode cX11_trial 115 = .ok (.ldc2_w 196, 3) := by decide +kernel
theorem dX11_trial_118 : decode cX11_trial 118 = .ok (.invokestatic 67, 3) := by decide +kernel
theorem dX11_trial_121 : decode cX11_trial 121 = .ok (.ifCond .eq 16, 3) := by decide +kernel
theorem dX11_trial_124 : decode cX11_trial 124 = .ok (.iload 9, 2) := by decide +kernel
theorem dX11_trial_126 : decode cX11_trial 126 = .ok (.i2l, 1) := by decide +kernel
theorem dX11_trial_127 : decode cX11_trial 127 = .ok (.lconst 1, 1) := by decide +kernel
theorem dX11_trial_128 : decode cX11_trial 128 = .ok (.ldc2_w 198, 3) := by decide +kernel
theorem dX11_trial_131 : decode cX11_trial 131 = .ok (.invokestatic 67, 3) := by decide +kernel
theorem dX11_trial_134 : decode cX11_trial 134 = .ok (.ifCond .ne 6, 3) := by decide +kernel
theorem dX11_trial_137 : decode cX11_trial 137 = .ok (.bipush (-2), 2) := by decide +kernel
theorem dX11_trial_139 : decode cX11_trial 139 = .ok (.ireturn, 1) := by decide +kernel
theorem dX11_trial_140 : decode cX11_trial 140 = .ok (.aload_n 0, 1) := by decide +kernel
theorem dX11_trial_141 : decode cX11_trial 141 = .ok (.getfield 7, 3) := by decide +kernel
theorem dX11_trial_144 : decode cX11_trial 144 = .ok (.iconst 4, 1) := by decide +kernel
theorem dX11_trial_145 : decode cX11_trial 145 = .ok (.iaload, 1) := by decide +kernel
theorem dX11_trial_146 : decode cX11_trial 146 = .ok (.bipush 10, 2) := by decide +kernel
theorem dX11_trial_148 : decode cX11_trial 148 = .ok (.if_icmp .ne 6, 3) := by decide +kernel
theorem dX11_trial_151 : decode cX11_trial 151 = .ok (.bipush (-4), 2) := by decide +kernel
theorem dX11_trial_153 : decode cX11_trial 153 = .ok (.ireturn, 1) := by decide +kernel
theorem dX11_trial_154 : decode cX11_trial 154 = .ok (.sipush 1546, 3) := by decide +kernel
theorem dX11_trial_157 : decode cX11_trial 157 = .ok (.bipush 10, 2) := by decide +kernel
theorem dX11_trial_159 : decode cX11_trial 159 = .ok (.aload_n 0, 1) := by decide +kernel
theorem dX11_trial_160 : decode cX11_trial 160 = .ok (.getfield 7, 3) := by decide +kernel
theorem dX11_trial_163 : decode cX11_trial 163 = .ok (.iconst 4, 1) := by decide +kernel
theorem dX11_trial_164 : decode cX11_trial 164 = .ok (.iaload, 1) := by decide +kernel
theorem dX11_trial_165 : decode cX11_trial 165 = .ok (.imul, 1) := by decide +kernel
theorem dX11_trial_166 : decode cX11_trial 166 = .ok (.iadd, 1) := by decide +kernel
theorem dX11_trial_167 : decode cX11_trial 167 = .ok (.istore 11, 2) := by decide +kernel
theorem dX11_trial_169 : decode cX11_trial 169 = .ok (.aload_n 0, 1) := by decide +kernel
theorem dX11_trial_170 : decode cX11_trial 170 = .ok (.getfield 7, 3) := by decide +kernel
theorem dX11_trial_173 : decode cX11_trial 173 = .ok (.iload 11, 2) := by decide +kernel
theorem dX11_trial_175 : decode cX11_trial 175 = .ok (.iload_n 1, 1) := by decide +kernel
theorem dX11_trial_176 : decode cX11_trial 176 = .ok (.iastore, 1) := by decide +kernel
theorem dX11_trial_177 : decode cX11_trial 177 = .ok (.aload_n 0, 1) := by decide +kernel
theorem dX11_trial_178 : decode cX11_trial 178 = .ok (.getfield 7, 3) := by decide +kernel
theorem dX11_trial_181 : decode cX11_trial 181 = .ok (.iload 11, 2) := by decide +kernel
theorem dX11_trial_183 : decode cX11_trial 183 = .ok (.iconst 1, 1) := by decide +kernel
theorem dX11_trial_184 : decode cX11_trial 184 = .ok (.iadd, 1) := by decide +kernel
theorem dX11_trial_185 : decode cX11_trial 185 = .ok (.iload_n 2, 1) := by decide +kernel
theorem dX11_trial_186 : decode cX11_trial 186 = .ok (.iastore, 1) := by decide +kernel
theorem dX11_trial_187 : decode cX11_trial 187 = .ok (.aload_n 0, 1) := by decide +kernel
theorem dX11_trial_188 : decode cX11_trial 188 = .ok (.getfield 7, 3) := by decide +kernel
theorem dX11_trial_191 : decode cX11_trial 191 = .ok (.iload 11, 2) := by decide +kernel
theorem dX11_trial_193 : decode cX11_trial 193 = .ok (.iconst 2, 1) := by decide +kernel
theorem dX11_trial_194 : decode cX11_trial 194 = .ok (.iadd, 1) := by decide +kernel
theorem dX11_trial_195 : decode cX11_trial 195 = .ok (.iload_n 3, 1) := by decide +kernel
theorem dX11_trial_196 : decode cX11_trial 196 = .ok (.iastore, 1) := by decide +kernel
theorem dX11_trial_197 : decode cX11_trial 197 = .ok (.aload_n 0, 1) := by decide +kernel
theorem dX11_trial_198 : decode cX11_trial 198 = .ok (.getfield 7, 3) := by decide +kernel
theorem dX11_trial_201 : decode cX11_trial 201 = .ok (.iload 11, 2) := by decide +kernel
theorem dX11_trial_203 : decode cX11_trial 203 = .ok (.iconst 3, 1) := by decide +kernel
theorem dX11_trial_204 : decode cX11_trial 204 = .ok (.iadd, 1) := by decide +kernel
theorem dX11_trial_205 : decode cX11_trial 205 = .ok (.iload 4, 2) := by decide +kernel
theorem dX11_trial_207 : decode cX11_trial 207 = .ok (.iastore, 1) := by decide +kernel
theorem dX11_trial_208 : decode cX11_trial 208 = .ok (.aload_n 0, 1) := by decide +kernel
theorem dX11_trial_209 : decode cX11_trial 209 = .ok (.getfield 7, 3) := by decide +kernel
theorem dX11_trial_212 : decode cX11_trial 212 = .ok (.iload 11, 2) := by decide +kernel
theorem dX11_trial_214 : decode cX11_trial 214 = .ok (.iconst 3, 1) := by decide +kernel
theorem dX11_trial_215 : decode cX11_trial 215 = .ok (.iadd, 1) := by decide +kernel
theorem dX11_trial_216 : decode cX11_trial 216 = .ok (.iconst 1, 1) := by decide +kernel
theorem dX11_trial_217 : decode cX11_trial 217 = .ok (.iadd, 1) := by decide +kernel
theorem dX11_trial_218 : decode cX11_trial 218 = .ok (.iload 5, 2) := by decide +kernel
theorem dX11_trial_220 : decode cX11_trial 220 = .ok (.iastore, 1) := by decide +kernel
theorem dX11_trial_221 : decode cX11_trial 221 = .ok (.aload_n 0, 1) := by decide +kernel
theorem dX11_trial_222 : decode cX11_trial 222 = .ok (.getfield 7, 3) := by decide +kernel
theorem dX11_trial_225 : decode cX11_trial 225 = .ok (.iload 11, 2) := by decide +kernel
theorem dX11_trial_227 : decode cX11_trial 227 = .ok (.iconst 5, 1) := by decide +kernel
theorem dX11_trial_228 : decode cX11_trial 228 = .ok (.iadd, 1) := by decide +kernel
theorem dX11_trial_229 : decode cX11_trial 229 = .ok (.iload 6, 2) := by decide +kernel
theorem dX11_trial_231 : decode cX11_trial 231 = .ok (.iastore, 1) := by decide +kernel
theorem dX11_trial_232 : decode cX11_trial 232 = .ok (.aload_n 0, 1) := by decide +kernel
theorem dX11_trial_233 : decode cX11_trial 233 = .ok (.getfield 7, 3) := by decide +kernel
theorem dX11_trial_236 : decode cX11_trial 236 = .ok (.iload 11, 2) := by decide +kernel
theorem dX11_trial_238 : decode cX11_trial 238 = .ok (.bipush 6, 2) := by decide +kernel
theorem dX11_trial_240 : decode cX11_trial 240 = .ok (.iadd, 1) := by decide +kernel
theorem dX11_trial_241 : decode cX11_trial 241 = .ok (.iload 7, 2) := by decide +kernel
theorem dX11_trial_243 : decode cX11_trial 243 = .ok (.iastore, 1) := by decide +kernel
theorem dX11_trial_244 : decode cX11_trial 244 = .ok (.aload_n 0, 1) := by decide +kernel
theorem dX11_trial_245 : decode cX11_trial 245 = .ok (.getfield 7, 3) := by decide +kernel
theorem dX11_trial_248 : decode cX11_trial 248 = .ok (.iload 11, 2) := by decide +kernel
theorem dX11_trial_250 : decode cX11_trial 250 = .ok (.bipush 7, 2) := by decide +kernel
theorem dX11_trial_252 : decode cX11_trial 252 = .ok (.iadd, 1) := by decide +kernel
theorem dX11_trial_253 : decode cX11_trial 253 = .ok (.iload 8, 2) := by decide +kernel
theorem dX11_trial_255 : decode cX11_trial 255 = .ok (.iastore, 1) := by decide +kernel
theorem dX11_trial_256 : decode cX11_trial 256 = .ok (.aload_n 0, 1) := by decide +kernel
theorem dX11_trial_257 : decode cX11_trial 257 = .ok (.getfield 7, 3) := by decide +kernel
theorem dX11_trial_260 : decode cX11_trial 260 = .ok (.iload 11, 2) := by decide +kernel
theorem dX11_trial_262 : decode cX11_trial 262 = .ok (.bipush 8, 2) := by decide +kernel
theorem dX11_trial_264 : decode cX11_trial 264 = .ok (.iadd, 1) := by decide +kernel
theorem dX11_trial_265 : decode cX11_trial 265 = .ok (.iload 9, 2) := by decide +kernel
theorem dX11_trial_267 : decode cX11_trial 267 = .ok (.iastore, 1) := by decide +kernel
theorem dX11_trial_268 : decode cX11_trial 268 = .ok (.aload_n 0, 1) := by decide +kernel
theorem dX11_trial_269 : decode cX11_trial 269 = .ok (.getfield 7, 3) := by decide +kernel
theorem dX11_trial_272 : decode cX11_trial 272 = .ok (.iload 11, 2) := by decide +kernel
theorem dX11_trial_274 : decode cX11_trial 274 = .ok (.bipush 9, 2) := by decide +kernel
theorem dX11_trial_276 : decode cX11_trial 276 = .ok (.iadd, 1) := by decide +kernel
theorem dX11_trial_277 : decode cX11_trial 277 = .ok (.iconst 0, 1) := by decide +kernel
theorem dX11_trial_278 : decode cX11_trial 278 = .ok (.iastore, 1) := by decide +kernel
theorem dX11_trial_279 : decode cX11_trial 279 = .ok (.iconst 0, 1) := by decide +kernel
theorem dX11_trial_280 : decode cX11_trial 280 = .ok (.istore 12, 2) := by decide +kernel
theorem dX11_trial_282 : decode cX11_trial 282 = .ok (.iload 12, 2) := by decide +kernel
theorem dX11_trial_284 : decode cX11_trial 284 = .ok (.bipush 60, 2) := by decide +kernel
theorem dX11_trial_286 : decode cX11_trial 286 = .ok (.if_icmp .ge 31, 3) := by decide +kernel
theorem dX11_trial_289 : decode cX11_trial 289 = .ok (.aload_n 0, 1) := by decide +kernel
theorem dX11_trial_290 : decode cX11_trial 290 = .ok (.getfield 7, 3) := by decide +kernel
theorem dX11_trial_293 : decode cX11_trial 293 = .ok (.sipush 1646, 3) := by decide +kernel
theorem dX11_trial_296 : decode cX11_trial 296 = .ok (.bipush 60, 2) := by decide +kernel
theorem dX11_trial_298 : decode cX11_trial 298 = .ok (.aload_n 0, 1) := by decide +kernel
theorem dX11_trial_299 : decode cX11_trial 299 = .ok (.getfield 7, 3) := by decide +kernel
theorem dX11_trial_302 : decode cX11_trial 302 = .ok (.iconst 4, 1) := by decide +kernel
theorem dX11_trial_303 : decode cX11_trial 303 = .ok (.iaload, 1) := by decide +kernel
theorem dX11_trial_304 : decode cX11_trial 304 = .ok (.imul, 1) := by decide +kernel
theorem dX11_trial_305 : decode cX11_trial 305 = .ok (.iadd, 1) := by decide +kernel
theorem dX11_trial_306 : decode cX11_trial 306 = .ok (.iload 12, 2) := by decide +kernel
theorem dX11_trial_308 : decode cX11_trial 308 = .ok (.iadd, 1) := by decide +kernel
theorem dX11_trial_309 : decode cX11_trial 309 = .ok (.iconst 0, 1) := by decide +kernel
theorem dX11_trial_310 : decode cX11_trial 310 = .ok (.iastore, 1) := by decide +kernel
theorem dX11_trial_311 : decode cX11_trial 311 = .ok (.iinc 12 1, 3) := by decide +kernel
theorem dX11_trial_314 : decode cX11_trial 314 = .ok (.goto (-32), 3) := by decide +kernel
theorem dX11_trial_317 : decode cX11_trial 317 = .ok (.aload_n 0, 1) := by decide +kernel
theorem dX11_trial_318 : decode cX11_trial 318 = .ok (.iconst 4, 1) := by decide +kernel
theorem dX11_trial_319 : decode cX11_trial 319 = .ok (.invokevirtual 83, 3) := by decide +kernel
theorem dX11_trial_322 : decode cX11_trial 322 = .ok (.ireturn, 1) := by decide +kernel
theorem dX11_away_0 : decode cX11_away 0 = .ok (.aload_n 0, 1) := by decide +kernel
theorem dX11_away_1 : decode cX11_away 1 = .ok (.iconst 4, 1) := by decide +kernel
theorem dX11_away_2 : decode cX11_away 2 = .ok (.iload_n 1, 1) := by decide +kernel
theorem dX11_away_3 : decode cX11_away 3 = .ok (.invokevirtual 87, 3) := by decide +kernel
theorem dX11_away_6 : decode cX11_away 6 = .ok (.ifCond .eq 12, 3) := by decide +kernel
theorem dX11_away_9 : decode cX11_away 9 = .ok (.aload_n 0, 1) := by decide +kernel
theorem dX11_away_10 : decode cX11_away 10 = .ok (.iconst 0, 1) := by decide +kernel
theorem dX11_away_11 : decode cX11_away 11 = .ok (.iload_n 2, 1) := by decide +kernel
theorem dX11_away_12 : decode cX11_away 12 = .ok (.invokevirtual 87, 3) := by decide +kernel
theorem dX11_away_15 : decode cX11_away 15 = .ok (.ifCond .ne 6, 3) := by decide +kernel
theorem dX11_away_18 : decode cX11_away 18 = .ok (.bipush (-2), 2) := by decide +kernel
theorem dX11_away_20 : decode cX11_away 20 = .ok (.ireturn, 1) := by decide +kernel
theorem dX11_away_21 : decode cX11_away 21 = .ok (.sipush 1546, 3) := by decide +kernel
theorem dX11_away_24 : decode cX11_away 24 = .ok (.bipush 10, 2) := by decide +kernel
theorem dX11_away_26 : decode cX11_away 26 = .ok (.iload_n 1, 1) := by decide +kernel
theorem dX11_away_27 : decode cX11_away 27 = .ok (.imul, 1) := by decide +kernel
theorem dX11_away_28 : decode cX11_away 28 = .ok (.iadd, 1) := by decide +kernel
theorem dX11_away_29 : decode cX11_away 29 = .ok (.bipush 9, 2) := by decide +kernel
theorem dX11_away_31 : decode cX11_away 31 = .ok (.iadd, 1) := by decide +kernel
theorem dX11_away_32 : decode cX11_away 32 = .ok (.istore 4, 2) := by decide +kernel
theorem dX11_away_34 : decode cX11_away 34 = .ok (.aload_n 0, 1) := by decide +kernel
theorem dX11_away_35 : decode cX11_away 35 = .ok (.getfield 7, 3) := by decide +kernel
theorem dX11_away_38 : decode cX11_away 38 = .ok (.iload 4, 2) := by decide +kernel
theorem dX11_away_40 : decode cX11_away 40 = .ok (.iaload, 1) := by decide +kernel
theorem dX11_away_41 : decode cX11_away 41 = .ok (.iload_n 2, 1) := by decide +kernel
theorem dX11_away_42 : decode cX11_away 42 = .ok (.ishr, 1) := by decide +kernel
theorem dX11_away_43 : decode cX11_away 43 = .ok (.iconst 1, 1) := by decide +kernel
theorem dX11_away_44 : decode cX11_away 44 = .ok (.iand, 1) := by decide +kernel
theorem dX11_away_45 : decode cX11_away 45 = .ok (.iconst 1, 1) := by decide +kernel
theorem dX11_away_46 : decode cX11_away 46 = .ok (.if_icmp .ne 7, 3) := by decide +kernel
theorem dX11_away_49 : decode cX11_away 49 = .ok (.iconst 1, 1) := by decide +kernel
theorem dX11_away_50 : decode cX11_away 50 = .ok (.goto 4, 3) := by decide +kernel
theorem dX11_away_53 : decode cX11_away 53 = .ok (.iconst 0, 1) := by decide +kernel
theorem dX11_away_54 : decode cX11_away 54 = .ok (.iload_n 3, 1) := by decide +kernel
theorem dX11_away_55 : decode cX11_away 55 = .ok (.if_icmp .ne 6, 3) := by decide +kernel
theorem dX11_away_58 : decode cX11_away 58 = .ok (.bipush (-3), 2) := by decide +kernel
theorem dX11_away_60 : decode cX11_away 60 = .ok (.ireturn, 1) := by decide +kernel
theorem dX11_away_61 : decode cX11_away 61 = .ok (.aload_n 0, 1) := by decide +kernel
theorem dX11_away_62 : decode cX11_away 62 = .ok (.getfield 7, 3) := by decide +kernel
theorem dX11_away_65 : decode cX11_away 65 = .ok (.iload 4, 2) := by decide +kernel
theorem dX11_away_67 : decode cX11_away 67 = .ok (.dup2, 1) := by decide +kernel
theorem dX11_away_68 : decode cX11_away 68 = .ok (.iaload, 1) := by decide +kernel
theorem dX11_away_69 : decode cX11_away 69 = .ok (.iconst 1, 1) := by decide +kernel
theorem dX11_away_70 : decode cX11_away 70 = .ok (.iload_n 2, 1) := by decide +kernel
theorem dX11_away_71 : decode cX11_away 71 = .ok (.ishl, 1) := by decide +kernel
theorem dX11_away_72 : decode cX11_away 72 = .ok (.ixor, 1) := by decide +kernel
theorem dX11_away_73 : decode cX11_away 73 = .ok (.iastore, 1) := by decide +kernel
theorem dX11_away_74 : decode cX11_away 74 = .ok (.aload_n 0, 1) := by decide +kernel
theorem dX11_away_75 : decode cX11_away 75 = .ok (.iconst 0, 1) := by decide +kernel
theorem dX11_away_76 : decode cX11_away 76 = .ok (.putfield 71, 3) := by decide +kernel
theorem dX11_away_79 : decode cX11_away 79 = .ok (.iconst 1, 1) := by decide +kernel
theorem dX11_away_80 : decode cX11_away 80 = .ok (.ireturn, 1) := by decide +kernel
theorem dX11_like_0 : decode cX11_like 0 = .ok (.aload_n 0, 1) := by decide +kernel
theorem dX11_like_1 : decode cX11_like 1 = .ok (.iconst 4, 1) := by decide +kernel
theorem dX11_like_2 : decode cX11_like 2 = .ok (.iload_n 1, 1) := by decide +kernel
theorem dX11_like_3 : decode cX11_like 3 = .ok (.invokevirtual 87, 3) := by decide +kernel
theorem dX11_like_6 : decode cX11_like 6 = .ok (.ifCond .eq 37, 3) := by decide +kernel
theorem dX11_like_9 : decode cX11_like 9 = .ok (.iload_n 2, 1) := by decide +kernel
theorem dX11_like_10 : decode cX11_like 10 = .ok (.i2l, 1) := by decide +kernel
theorem dX11_like_11 : decode cX11_like 11 = .ok (.lconst 0, 1) := by decide +kernel
theorem dX11_like_12 : decode cX11_like 12 = .ok (.lconst 1, 1) := by decide +kernel
theorem dX11_like_13 : decode cX11_like 13 = .ok (.invokestatic 67, 3) := by decide +kernel
theorem dX11_like_16 : decode cX11_like 16 = .ok (.ifCond .eq 27, 3) := by decide +kernel
theorem dX11_like_19 : decode cX11_like 19 = .ok (.aload_n 0, 1) := by decide +kernel
theorem dX11_like_20 : decode cX11_like 20 = .ok (.iconst 0, 1) := by decide +kernel
theorem dX11_like_21 : decode cX11_like 21 = .ok (.iload_n 3, 1) := by decide +kernel
theorem dX11_like_22 : decode cX11_like 22 = .ok (.invokevirtual 87, 3) := by decide +kernel
theorem dX11_like_25 : decode cX11_like 25 = .ok (.ifCond .eq 18, 3) := by decide +kernel
theorem dX11_like_28 : decode cX11_like 28 = .ok (.iload 4, 2) := by decide +kernel
theorem dX11_like_30 : decode cX11_like 30 = .ok (.i2l, 1) := by decide +kernel
theorem dX11_like_31 : decode cX11_like 31 = .ok (.ldc2_w 200, 3) := by decide +kernel
theorem dX11_like_34 : decode cX11_like 34 = .ok (.ldc2_w 202, 3) := by decide +kernel
theorem dX11_like_37 : decode cX11_like 37 = .ok (.invokestatic 67, 3) := by decide +kernel
theorem dX11_like_40 : decode cX11_like 40 = .ok (.ifCond .ne 7, 3) := by decide +kernel
theorem dX11_like_43 : decode cX11_like 43 = .ok (.sipush (-1000), 3) := by decide +kernel
theorem dX11_like_46 : decode cX11_like 46 = .ok (.ireturn, 1) := by decide +kernel
theorem dX11_like_47 : decode cX11_like 47 = .ok (.sipush 1646, 3) := by decide +kernel
theorem dX11_like_50 : decode cX11_like 50 = .ok (.bipush 60, 2) := by decide +kernel
theorem dX11_like_52 : decode cX11_like 52 = .ok (.iload_n 1, 1) := by decide +kernel
theorem dX11_like_53 : decode cX11_like 53 = .ok (.imul, 1) := by decide +kernel
theorem dX11_like_54 : decode cX11_like 54 = .ok (.iadd, 1) := by decide +kernel
theorem dX11_like_55 : decode cX11_like 55 = .ok (.bipush 30, 2) := by decide +kernel
theorem dX11_like_57 : decode cX11_like 57 = .ok (.iload_n 2, 1) := by decide +kernel
theorem dX11_like_58 : decode cX11_like 58 = .ok (.imul, 1) := by decide +kernel
theorem dX11_like_59 : decode cX11_like 59 = .ok (.iadd, 1) := by decide +kernel
theorem dX11_like_60 : decode cX11_like 60 = .ok (.iload_n 3, 1) := by decide +kernel
theorem dX11_like_61 : decode cX11_like 61 = .ok (.iadd, 1) := by decide +kernel
theorem dX11_like_62 : decode cX11_like 62 = .ok (.istore 5, 2) := by decide +kernel
theorem dX11_like_64 : decode cX11_like 64 = .ok (.aload_n 0, 1) := by decide +kernel
theorem dX11_like_65 : decode cX11_like 65 = .ok (.getfield 7, 3) := by decide +kernel
theorem dX11_like_68 : decode cX11_like 68 = .ok (.iload 5, 2) := by decide +kernel
theorem dX11_like_70 : decode cX11_like 70 = .ok (.iaload, 1) := by decide +kernel
theorem dX11_like_71 : decode cX11_like 71 = .ok (.istore 6, 2) := by decide +kernel
theorem dX11_like_73 : decode cX11_like 73 = .ok (.aload_n 0, 1) := by decide +kernel
theorem dX11_like_74 : decode cX11_like 74 = .ok (.getfield 7, 3) := by decide +kernel
theorem dX11_like_77 : decode cX11_like 77 = .ok (.iload 5, 2) := by decide +kernel
theorem dX11_like_79 : decode cX11_like 79 = .ok (.iload 4, 2) := by decide +kernel
theorem dX11_like_81 : decode cX11_like 81 = .ok (.iastore, 1) := by decide +kernel
theorem dX11_like_82 : decode cX11_like 82 = .ok (.aload_n 0, 1) := by decide +kernel
theorem dX11_like_83 : decode cX11_like 83 = .ok (.iconst 0, 1) := by decide +kernel
theorem dX11_like_84 : decode cX11_like 84 = .ok (.putfield 71, 3) := by decide +kernel
theorem dX11_like_87 : decode cX11_like 87 = .ok (.iload 6, 2) := by decide +kernel
theorem dX11_like_89 : decode cX11_like 89 = .ok (.ireturn, 1) := by decide +kernel
theorem dX11_finds_0 : decode cX11_finds 0 = .ok (.aload_n 0, 1) := by decide +kernel
theorem dX11_finds_1 : decode cX11_finds 1 = .ok (.getfield 71, 3) := by decide +kernel
theorem dX11_finds_4 : decode cX11_finds 4 = .ok (.ifCond .eq 4, 3) := by decide +kernel
theorem dX11_finds_7 : decode cX11_finds 7 = .ok (.return_, 1) := by decide +kernel
theorem dX11_finds_8 : decode cX11_finds 8 = .ok (.aload_n 0, 1) := by decide +kernel
theorem dX11_finds_9 : decode cX11_finds 9 = .ok (.iconst 1, 1) := by decide +kernel
theorem dX11_finds_10 : decode cX11_finds 10 = .ok (.putfield 71, 3) := by decide +kernel
theorem dX11_finds_13 : decode cX11_finds 13 = .ok (.aload_n 0, 1) := by decide +kernel
theorem dX11_finds_14 : decode cX11_finds 14 = .ok (.iconst 0, 1) := by decide +kernel
theorem dX11_finds_15 : decode cX11_finds 15 = .ok (.putfield 146, 3) := by decide +kernel
theorem dX11_finds_18 : decode cX11_finds 18 = .ok (.iconst 0, 1) := by decide +kernel
theorem dX11_finds_19 : decode cX11_finds 19 = .ok (.istore_n 1, 1) := by decide +kernel
theorem dX11_finds_20 : decode cX11_finds 20 = .ok (.iload_n 1, 1) := by decide +kernel
theorem dX11_finds_21 : decode cX11_finds 21 = .ok (.aload_n 0, 1) := by decide +kernel
theorem dX11_finds_22 : decode cX11_finds 22 = .ok (.getfield 7, 3) := by decide +kernel
theorem dX11_finds_25 : decode cX11_finds 25 = .ok (.iconst 4, 1) := by decide +kernel
theorem dX11_finds_26 : decode cX11_finds 26 = .ok (.iaload, 1) := by decide +kernel
theorem dX11_finds_27 : decode cX11_finds 27 = .ok (.if_icmp .ge 24, 3) := by decide +kernel
theorem dX11_finds_30 : decode cX11_finds 30 = .ok (.aload_n 0, 1) := by decide +kernel
theorem dX11_finds_31 : decode cX11_finds 31 = .ok (.iload_n 1, 1) := by decide +kernel
theorem dX11_finds_32 : decode cX11_finds 32 = .ok (.iload_n 1, 1) := by decide +kernel
theorem dX11_finds_33 : decode cX11_finds 33 = .ok (.iconst (-1), 1) := by decide +kernel
theorem dX11_finds_34 : decode cX11_finds 34 = .ok (.iconst (-1), 1) := by decide +kernel
theorem dX11_finds_35 : decode cX11_finds 35 = .ok (.invokevirtual 225, 3) := by decide +kernel
theorem dX11_finds_38 : decode cX11_finds 38 = .ok (.aload_n 0, 1) := by decide +kernel
theorem dX11_finds_39 : decode cX11_finds 39 = .ok (.iload_n 1, 1) := by decide +kernel
theorem dX11_finds_40 : decode cX11_finds 40 = .ok (.iconst 1, 1) := by decide +kernel
theorem dX11_finds_41 : decode cX11_finds 41 = .ok (.iadd, 1) := by decide +kernel
theorem dX11_finds_42 : decode cX11_finds 42 = .ok (.putfield 146, 3) := by decide +kernel
theorem dX11_finds_45 : decode cX11_finds 45 = .ok (.iinc 1 1, 3) := by decide +kernel
theorem dX11_finds_48 : decode cX11_finds 48 = .ok (.goto (-28), 3) := by decide +kernel
theorem dX11_finds_51 : decode cX11_finds 51 = .ok (.return_, 1) := by decide +kernel
theorem dX11_isTrial_0 : decode cX11_isTrial 0 = .ok (.aload_n 0, 1) := by decide +kernel
theorem dX11_isTrial_1 : decode cX11_isTrial 1 = .ok (.invokevirtual 176, 3) := by decide +kernel
theorem dX11_isTrial_4 : decode cX11_isTrial 4 = .ok (.aload_n 0, 1) := by decide +kernel
theorem dX11_isTrial_5 : decode cX11_isTrial 5 = .ok (.iconst 4, 1) := by decide +kernel
theorem dX11_isTrial_6 : decode cX11_isTrial 6 = .ok (.iload_n 1, 1) := by decide +kernel
theorem dX11_isTrial_7 : decode cX11_isTrial 7 = .ok (.invokevirtual 87, 3) := by decide +kernel
theorem dX11_isTrial_10 : decode cX11_isTrial 10 = .ok (.ireturn, 1) := by decide +kernel
theorem dX11_box_0 : decode cX11_box 0 = .ok (.aload_n 0, 1) := by decide +kernel
theorem dX11_box_1 : decode cX11_box 1 = .ok (.iload_n 1, 1) := by decide +kernel
theorem dX11_box_2 : decode cX11_box 2 = .ok (.invokevirtual 229, 3) := by decide +kernel
theorem dX11_box_5 : decode cX11_box 5 = .ok (.ifCond .eq 12, 3) := by decide +kernel
theorem dX11_box_8 : decode cX11_box 8 = .ok (.aload_n 0, 1) := by decide +kernel
theorem dX11_box_9 : decode cX11_box 9 = .ok (.getfield 33, 3) := by decide +kernel
theorem dX11_box_12 : decode cX11_box 12 = .ok (.iload_n 1, 1) := by decide +kernel
theorem dX11_box_13 : decode cX11_box 13 = .ok (.iaload, 1) := by decide +kernel
theorem dX11_box_14 : decode cX11_box 14 = .ok (.goto 5, 3) := by decide +kernel
theorem dX11_box_17 : decode cX11_box 17 = .ok (.bipush (-2), 2) := by decide +kernel
theorem dX11_box_19 : decode cX11_box 19 = .ok (.ireturn, 1) := by decide +kernel
theorem dX11_drawn_0 : decode cX11_drawn 0 = .ok (.aload_n 0, 1) := by decide +kernel
theorem dX11_drawn_1 : decode cX11_drawn 1 = .ok (.iload_n 1, 1) := by decide +kernel
theorem dX11_drawn_2 : decode cX11_drawn 2 = .ok (.invokevirtual 229, 3) := by decide +kernel
theorem dX11_drawn_5 : decode cX11_drawn 5 = .ok (.ifCond .eq 7, 3) := by decide +kernel
theorem dX11_drawn_8 : decode cX11_drawn 8 = .ok (.iload_n 2, 1) := by decide +kernel
theorem dX11_drawn_9 : decode cX11_drawn 9 = .ok (.ifCond .ge 6, 3) := by decide +kernel
theorem dX11_drawn_12 : decode cX11_drawn 12 = .ok (.bipush (-2), 2) := by decide +kernel
theorem dX11_drawn_14 : decode cX11_drawn 14 = .ok (.ireturn, 1) := by decide +kernel
theorem dX11_drawn_15 : decode cX11_drawn 15 = .ok (.iload_n 2, 1) := by decide +kernel
theorem dX11_drawn_16 : decode cX11_drawn 16 = .ok (.aload_n 0, 1) := by decide +kernel
theorem dX11_drawn_17 : decode cX11_drawn 17 = .ok (.getfield 42, 3) := by decide +kernel
theorem dX11_drawn_20 : decode cX11_drawn 20 = .ok (.iload_n 1, 1) := by decide +kernel
theorem dX11_drawn_21 : decode cX11_drawn 21 = .ok (.iaload, 1) := by decide +kernel
theorem dX11_drawn_22 : decode cX11_drawn 22 = .ok (.if_icmp .ge 17, 3) := by decide +kernel
theorem dX11_drawn_25 : decode cX11_drawn 25 = .ok (.aload_n 0, 1) := by decide +kernel
theorem dX11_drawn_26 : decode cX11_drawn 26 = .ok (.getfield 39, 3) := by decide +kernel
theorem dX11_drawn_29 : decode cX11_drawn 29 = .ok (.bipush 24, 2) := by decide +kernel
theorem dX11_drawn_31 : decode cX11_drawn 31 = .ok (.iload_n 1, 1) := by decide +kernel
theorem dX11_drawn_32 : decode cX11_drawn 32 = .ok (.imul, 1) := by decide +kernel
theorem dX11_drawn_33 : decode cX11_drawn 33 = .ok (.iload_n 2, 1) := by decide +kernel
theorem dX11_drawn_34 : decode cX11_drawn 34 = .ok (.iadd, 1) := by decide +kernel
theorem dX11_drawn_35 : decode cX11_drawn 35 = .ok (.iaload, 1) := by decide +kernel
theorem dX11_drawn_36 : decode cX11_drawn 36 = .ok (.goto 4, 3) := by decide +kernel
theorem dX11_drawn_39 : decode cX11_drawn 39 = .ok (.iconst (-1), 1) := by decide +kernel
theorem dX11_drawn_40 : decode cX11_drawn 40 = .ok (.ireturn, 1) := by decide +kernel
theorem dX11_slip_0 : decode cX11_slip 0 = .ok (.aload_n 0, 1) := by decide +kernel
theorem dX11_slip_1 : decode cX11_slip 1 = .ok (.iload_n 1, 1) := by decide +kernel
theorem dX11_slip_2 : decode cX11_slip 2 = .ok (.invokevirtual 229, 3) := by decide +kernel
theorem dX11_slip_5 : decode cX11_slip 5 = .ok (.ifCond .eq 26, 3) := by decide +kernel
theorem dX11_slip_8 : decode cX11_slip 8 = .ok (.aload_n 0, 1) := by decide +kernel
theorem dX11_slip_9 : decode cX11_slip 9 = .ok (.iconst 0, 1) := by decide +kernel
theorem dX11_slip_10 : decode cX11_slip 10 = .ok (.iload_n 2, 1) := by decide +kernel
theorem dX11_slip_11 : decode cX11_slip 11 = .ok (.invokevirtual 87, 3) := by decide +kernel
theorem dX11_slip_14 : decode cX11_slip 14 = .ok (.ifCond .eq 17, 3) := by decide +kernel
theorem dX11_slip_17 : decode cX11_slip 17 = .ok (.aload_n 0, 1) := by decide +kernel
theorem dX11_slip_18 : decode cX11_slip 18 = .ok (.getfield 45, 3) := by decide +kernel
theorem dX11_slip_21 : decode cX11_slip 21 = .ok (.bipush 30, 2) := by decide +kernel
theorem dX11_slip_23 : decode cX11_slip 23 = .ok (.iload_n 1, 1) := by decide +kernel
theorem dX11_slip_24 : decode cX11_slip 24 = .ok (.imul, 1) := by decide +kernel
theorem dX11_slip_25 : decode cX11_slip 25 = .ok (.iload_n 2, 1) := by decide +kernel
theorem dX11_slip_26 : decode cX11_slip 26 = .ok (.iadd, 1) := by decide +kernel
theorem dX11_slip_27 : decode cX11_slip 27 = .ok (.iaload, 1) := by decide +kernel
theorem dX11_slip_28 : decode cX11_slip 28 = .ok (.goto 5, 3) := by decide +kernel
theorem dX11_slip_31 : decode cX11_slip 31 = .ok (.bipush (-2), 2) := by decide +kernel
theorem dX11_slip_33 : decode cX11_slip 33 = .ok (.ireturn, 1) := by decide +kernel
theorem dX11_jury_0 : decode cX11_jury 0 = .ok (.aload_n 0, 1) := by decide +kernel
theorem dX11_jury_1 : decode cX11_jury 1 = .ok (.iload_n 1, 1) := by decide +kernel
theorem dX11_jury_2 : decode cX11_jury 2 = .ok (.invokevirtual 229, 3) := by decide +kernel
theorem dX11_jury_5 : decode cX11_jury 5 = .ok (.ifCond .eq 12, 3) := by decide +kernel
theorem dX11_jury_8 : decode cX11_jury 8 = .ok (.aload_n 0, 1) := by decide +kernel
theorem dX11_jury_9 : decode cX11_jury 9 = .ok (.getfield 36, 3) := by decide +kernel
theorem dX11_jury_12 : decode cX11_jury 12 = .ok (.iload_n 1, 1) := by decide +kernel
theorem dX11_jury_13 : decode cX11_jury 13 = .ok (.iaload, 1) := by decide +kernel
theorem dX11_jury_14 : decode cX11_jury 14 = .ok (.goto 5, 3) := by decide +kernel
theorem dX11_jury_17 : decode cX11_jury 17 = .ok (.bipush (-2), 2) := by decide +kernel
theorem dX11_jury_19 : decode cX11_jury 19 = .ok (.ireturn, 1) := by decide +kernel
theorem dX11_about_0 : decode cX11_about 0 = .ok (.aload_n 0, 1) := by decide +kernel
theorem dX11_about_1 : decode cX11_about 1 = .ok (.iload_n 1, 1) := by decide +kernel
theorem dX11_about_2 : decode cX11_about 2 = .ok (.invokevirtual 229, 3) := by decide +kernel
theorem dX11_about_5 : decode cX11_about 5 = .ok (.ifCond .eq 28, 3) := by decide +kernel
theorem dX11_about_8 : decode cX11_about 8 = .ok (.iload_n 2, 1) := by decide +kernel
theorem dX11_about_9 : decode cX11_about 9 = .ok (.i2l, 1) := by decide +kernel
theorem dX11_about_10 : decode cX11_about 10 = .ok (.lconst 0, 1) := by decide +kernel
theorem dX11_about_11 : decode cX11_about 11 = .ok (.ldc2_w 77, 3) := by decide +kernel
theorem dX11_about_14 : decode cX11_about 14 = .ok (.invokestatic 67, 3) := by decide +kernel
theorem dX11_about_17 : decode cX11_about 17 = .ok (.ifCond .eq 16, 3) := by decide +kernel
theorem dX11_about_20 : decode cX11_about 20 = .ok (.aload_n 0, 1) := by decide +kernel
theorem dX11_about_21 : decode cX11_about 21 = .ok (.getfield 48, 3) := by decide +kernel
theorem dX11_about_24 : decode cX11_about 24 = .ok (.iconst 4, 1) := by decide +kernel
theorem dX11_about_25 : decode cX11_about 25 = .ok (.iload_n 1, 1) := by decide +kernel
theorem dX11_about_26 : decode cX11_about 26 = .ok (.imul, 1) := by decide +kernel
theorem dX11_about_27 : decode cX11_about 27 = .ok (.iload_n 2, 1) := by decide +kernel
theorem dX11_about_28 : decode cX11_about 28 = .ok (.iadd, 1) := by decide +kernel
theorem dX11_about_29 : decode cX11_about 29 = .ok (.iaload, 1) := by decide +kernel
theorem dX11_about_30 : decode cX11_about 30 = .ok (.goto 5, 3) := by decide +kernel
theorem dX11_about_33 : decode cX11_about 33 = .ok (.ldc 232, 2) := by decide +kernel
theorem dX11_about_35 : decode cX11_about 35 = .ok (.ireturn, 1) := by decide +kernel
theorem dX11_bad_0 : decode cX11_bad 0 = .ok (.iload_n 1, 1) := by decide +kernel
theorem dX11_bad_1 : decode cX11_bad 1 = .ok (.invokestatic 93, 3) := by decide +kernel
theorem dX11_bad_4 : decode cX11_bad 4 = .ok (.ifCond .ne 6, 3) := by decide +kernel
theorem dX11_bad_7 : decode cX11_bad 7 = .ok (.bipush (-2), 2) := by decide +kernel
theorem dX11_bad_9 : decode cX11_bad 9 = .ok (.ireturn, 1) := by decide +kernel
theorem dX11_bad_10 : decode cX11_bad 10 = .ok (.aload_n 0, 1) := by decide +kernel
theorem dX11_bad_11 : decode cX11_bad 11 = .ok (.invokevirtual 176, 3) := by decide +kernel
theorem dX11_bad_14 : decode cX11_bad 14 = .ok (.iconst 0, 1) := by decide +kernel
theorem dX11_bad_15 : decode cX11_bad 15 = .ok (.istore_n 2, 1) := by decide +kernel
theorem dX11_bad_16 : decode cX11_bad 16 = .ok (.iconst 0, 1) := by decide +kernel
theorem dX11_bad_17 : decode cX11_bad 17 = .ok (.istore_n 3, 1) := by decide +kernel
theorem dX11_bad_18 : decode cX11_bad 18 = .ok (.iload_n 3, 1) := by decide +kernel
theorem dX11_bad_19 : decode cX11_bad 19 = .ok (.aload_n 0, 1) := by decide +kernel
theorem dX11_bad_20 : decode cX11_bad 20 = .ok (.getfield 7, 3) := by decide +kernel
theorem dX11_bad_23 : decode cX11_bad 23 = .ok (.iconst 4, 1) := by decide +kernel
theorem dX11_bad_24 : decode cX11_bad 24 = .ok (.iaload, 1) := by decide +kernel
theorem dX11_bad_25 : decode cX11_bad 25 = .ok (.if_icmp .ge 35, 3) := by decide +kernel
theorem dX11_bad_28 : decode cX11_bad 28 = .ok (.iload_n 2, 1) := by decide +kernel
theorem dX11_bad_29 : decode cX11_bad 29 = .ok (.aload_n 0, 1) := by decide +kernel
theorem dX11_bad_30 : decode cX11_bad 30 = .ok (.getfield 36, 3) := by decide +kernel
theorem dX11_bad_33 : decode cX11_bad 33 = .ok (.iload_n 3, 1) := by decide +kernel
theorem dX11_bad_34 : decode cX11_bad 34 = .ok (.iaload, 1) := by decide +kernel
theorem dX11_bad_35 : decode cX11_bad 35 = .ok (.aload_n 0, 1) := by decide +kernel
theorem dX11_bad_36 : decode cX11_bad 36 = .ok (.iload_n 3, 1) := by decide +kernel
theorem dX11_bad_37 : decode cX11_bad 37 = .ok (.iload_n 1, 1) := by decide +kernel
theorem dX11_bad_38 : decode cX11_bad 38 = .ok (.invokevirtual 206, 3) := by decide +kernel
theorem dX11_bad_41 : decode cX11_bad 41 = .ok (.iand, 1) := by decide +kernel
theorem dX11_bad_42 : decode cX11_bad 42 = .ok (.ifCond .eq 9, 3) := by decide +kernel
theorem dX11_bad_45 : decode cX11_bad 45 = .ok (.iconst 1, 1) := by decide +kernel
theorem dX11_bad_46 : decode cX11_bad 46 = .ok (.iload_n 3, 1) := by decide +kernel
theorem dX11_bad_47 : decode cX11_bad 47 = .ok (.ishl, 1) := by decide +kernel
theorem dX11_bad_48 : decode cX11_bad 48 = .ok (.goto 4, 3) := by decide +kernel
theorem dX11_bad_51 : decode cX11_bad 51 = .ok (.iconst 0, 1) := by decide +kernel
theorem dX11_bad_52 : decode cX11_bad 52 = .ok (.ior, 1) := by decide +kernel
theorem dX11_bad_53 : decode cX11_bad 53 = .ok (.istore_n 2, 1) := by decide +kernel
theorem dX11_bad_54 : decode cX11_bad 54 = .ok (.iinc 3 1, 3) := by decide +kernel
theorem dX11_bad_57 : decode cX11_bad 57 = .ok (.goto (-39), 3) := by decide +kernel
theorem dX11_bad_60 : decode cX11_bad 60 = .ok (.iload_n 2, 1) := by decide +kernel
theorem dX11_bad_61 : decode cX11_bad 61 = .ok (.ireturn, 1) := by decide +kernel
theorem dX11_sums_0 : decode cX11_sums 0 = .ok (.iload_n 1, 1) := by decide +kernel
theorem dX11_sums_1 : decode cX11_sums 1 = .ok (.i2l, 1) := by decide +kernel
theorem dX11_sums_2 : decode cX11_sums 2 = .ok (.lconst 0, 1) := by decide +kernel
theorem dX11_sums_3 : decode cX11_sums 3 = .ok (.ldc2_w 202, 3) := by decide +kernel
theorem dX11_sums_6 : decode cX11_sums 6 = .ok (.invokestatic 67, 3) := by decide +kernel
theorem dX11_sums_9 : decode cX11_sums 9 = .ok (.ifCond .eq 15, 3) := by decide +kernel
theorem dX11_sums_12 : decode cX11_sums 12 = .ok (.iload_n 2, 1) := by decide +kernel
theorem dX11_sums_13 : decode cX11_sums 13 = .ok (.i2l, 1) := by decide +kernel
theorem dX11_sums_14 : decode cX11_sums 14 = .ok (.lconst 0, 1) := by decide +kernel
theorem dX11_sums_15 : decode cX11_sums 15 = .ok (.ldc2_w 79, 3) := by decide +kernel
theorem dX11_sums_18 : decode cX11_sums 18 = .ok (.invokestatic 67, 3) := by decide +kernel
theorem dX11_sums_21 : decode cX11_sums 21 = .ok (.ifCond .ne 6, 3) := by decide +kernel
theorem dX11_sums_24 : decode cX11_sums 24 = .ok (.bipush (-2), 2) := by decide +kernel
theorem dX11_sums_26 : decode cX11_sums 26 = .ok (.ireturn, 1) := by decide +kernel
theorem dX11_sums_27 : decode cX11_sums 27 = .ok (.aload_n 0, 1) := by decide +kernel
theorem dX11_sums_28 : decode cX11_sums 28 = .ok (.getfield 7, 3) := by decide +kernel
theorem dX11_sums_31 : decode cX11_sums 31 = .ok (.iconst 5, 1) := by decide +kernel
theorem dX11_sums_32 : decode cX11_sums 32 = .ok (.iload_n 1, 1) := by decide +kernel
theorem dX11_sums_33 : decode cX11_sums 33 = .ok (.iastore, 1) := by decide +kernel
theorem dX11_sums_34 : decode cX11_sums 34 = .ok (.aload_n 0, 1) := by decide +kernel
theorem dX11_sums_35 : decode cX11_sums 35 = .ok (.getfield 7, 3) := by decide +kernel
theorem dX11_sums_38 : decode cX11_sums 38 = .ok (.bipush 6, 2) := by decide +kernel
theorem dX11_sums_40 : decode cX11_sums 40 = .ok (.iload_n 2, 1) := by decide +kernel
theorem dX11_sums_41 : decode cX11_sums 41 = .ok (.iastore, 1) := by decide +kernel
theorem dX11_sums_42 : decode cX11_sums 42 = .ok (.iconst 1, 1) := by decide +kernel
theorem dX11_sums_43 : decode cX11_sums 43 = .ok (.ireturn, 1) := by decide +kernel
theorem dX11_owed_0 : decode cX11_owed 0 = .ok (.aload_n 0, 1) := by decide +kernel
theorem dX11_owed_1 : decode cX11_owed 1 = .ok (.iconst 0, 1) := by decide +kernel
theorem dX11_owed_2 : decode cX11_owed 2 = .ok (.iload_n 1, 1) := by decide +kernel
theorem dX11_owed_3 : decode cX11_owed 3 = .ok (.invokevirtual 87, 3) := by decide +kernel
theorem dX11_owed_6 : decode cX11_owed 6 = .ok (.ifCond .eq 10, 3) := by decide +kernel
theorem dX11_owed_9 : decode cX11_owed 9 = .ok (.iload_n 2, 1) := by decide +kernel
theorem dX11_owed_10 : decode cX11_owed 10 = .ok (.invokestatic 93, 3) := by decide +kernel
theorem dX11_owed_13 : decode cX11_owed 13 = .ok (.ifCond .ne 6, 3) := by decide +kernel
theorem dX11_owed_16 : decode cX11_owed 16 = .ok (.ldc 233, 2) := by decide +kernel
theorem dX11_owed_18 : decode cX11_owed 18 = .ok (.ireturn, 1) := by decide +kernel
theorem dX11_owed_19 : decode cX11_owed 19 = .ok (.aload_n 0, 1) := by decide +kernel
theorem dX11_owed_20 : decode cX11_owed 20 = .ok (.invokevirtual 176, 3) := by decide +kernel
theorem dX11_owed_23 : decode cX11_owed 23 = .ok (.iconst 0, 1) := by decide +kernel
theorem dX11_owed_24 : decode cX11_owed 24 = .ok (.istore_n 3, 1) := by decide +kernel
theorem dX11_owed_25 : decode cX11_owed 25 = .ok (.iconst 0, 1) := by decide +kernel
theorem dX11_owed_26 : decode cX11_owed 26 = .ok (.istore 4, 2) := by decide +kernel
theorem dX11_owed_28 : decode cX11_owed 28 = .ok (.iload 4, 2) := by decide +kernel
theorem dX11_owed_30 : decode cX11_owed 30 = .ok (.aload_n 0, 1) := by decide +kernel
theorem dX11_owed_31 : decode cX11_owed 31 = .ok (.getfield 7, 3) := by decide +kernel
theorem dX11_owed_34 : decode cX11_owed 34 = .ok (.iconst 4, 1) := by decide +kernel
theorem dX11_owed_35 : decode cX11_owed 35 = .ok (.iaload, 1) := by decide +kernel
theorem dX11_owed_36 : decode cX11_owed 36 = .ok (.if_icmp .ge 86, 3) := by decide +kernel
theorem dX11_owed_39 : decode cX11_owed 39 = .ok (.aload_n 0, 1) := by decide +kernel
theorem dX11_owed_40 : decode cX11_owed 40 = .ok (.iload 4, 2) := by decide +kernel
theorem dX11_owed_42 : decode cX11_owed 42 = .ok (.iconst 0, 1) := by decide +kernel
theorem dX11_owed_43 : decode cX11_owed 43 = .ok (.invokevirtual 149, 3) := by decide +kernel
theorem dX11_owed_46 : decode cX11_owed 46 = .ok (.iload_n 2, 1) := by decide +kernel
theorem dX11_owed_47 : decode cX11_owed 47 = .ok (.if_icmp .gt 69, 3) := by decide +kernel
theorem dX11_owed_50 : decode cX11_owed 50 = .ok (.iload_n 3, 1) := by decide +kernel
theorem dX11_owed_51 : decode cX11_owed 51 = .ok (.aload_n 0, 1) := by decide +kernel
theorem dX11_owed_52 : decode cX11_owed 52 = .ok (.getfield 36, 3) := by decide +kernel
theorem dX11_owed_55 : decode cX11_owed 55 = .ok (.iload 4, 2) := by decide +kernel
theorem dX11_owed_57 : decode cX11_owed 57 = .ok (.iaload, 1) := by decide +kernel
theorem dX11_owed_58 : decode cX11_owed 58 = .ok (.iload_n 1, 1) := by decide +kernel
theorem dX11_owed_59 : decode cX11_owed 59 = .ok (.ishr, 1) := by decide +kernel
theorem dX11_owed_60 : decode cX11_owed 60 = .ok (.iconst 1, 1) := by decide +kernel
theorem dX11_owed_61 : decode cX11_owed 61 = .ok (.iand, 1) := by decide +kernel
theorem dX11_owed_62 : decode cX11_owed 62 = .ok (.iconst 1, 1) := by decide +kernel
theorem dX11_owed_63 : decode cX11_owed 63 = .ok (.if_icmp .ne 20, 3) := by decide +kernel
theorem dX11_owed_66 : decode cX11_owed 66 = .ok (.aload_n 0, 1) := by decide +kernel
theorem dX11_owed_67 : decode cX11_owed 67 = .ok (.getfield 7, 3) := by decide +kernel
theorem dX11_owed_70 : decode cX11_owed 70 = .ok (.iconst 5, 1) := by decide +kernel
theorem dX11_owed_71 : decode cX11_owed 71 = .ok (.iaload, 1) := by decide +kernel
theorem dX11_owed_72 : decode cX11_owed 72 = .ok (.aload_n 0, 1) := by decide +kernel
theorem dX11_owed_73 : decode cX11_owed 73 = .ok (.iload 4, 2) := by decide +kernel
theorem dX11_owed_75 : decode cX11_owed 75 = .ok (.iconst 1, 1) := by decide +kernel
theorem dX11_owed_76 : decode cX11_owed 76 = .ok (.invokevirtual 149, 3) := by decide +kernel
theorem dX11_owed_79 : decode cX11_owed 79 = .ok (.imul, 1) := by decide +kernel
theorem dX11_owed_80 : decode cX11_owed 80 = .ok (.goto 4, 3) := by decide +kernel
theorem dX11_owed_83 : decode cX11_owed 83 = .ok (.iconst 0, 1) := by decide +kernel
theorem dX11_owed_84 : decode cX11_owed 84 = .ok (.iadd, 1) := by decide +kernel
theorem dX11_owed_85 : decode cX11_owed 85 = .ok (.istore_n 3, 1) := by decide +kernel
theorem dX11_owed_86 : decode cX11_owed 86 = .ok (.iload_n 3, 1) := by decide +kernel
theorem dX11_owed_87 : decode cX11_owed 87 = .ok (.aload_n 0, 1) := by decide +kernel
theorem dX11_owed_88 : decode cX11_owed 88 = .ok (.getfield 45, 3) := by decide +kernel
theorem dX11_owed_91 : decode cX11_owed 91 = .ok (.bipush 30, 2) := by decide +kernel
theorem dX11_owed_93 : decode cX11_owed 93 = .ok (.iload 4, 2) := by decide +kernel
theorem dX11_owed_95 : decode cX11_owed 95 = .ok (.imul, 1) := by decide +kernel
theorem dX11_owed_96 : decode cX11_owed 96 = .ok (.iload_n 1, 1) := by decide +kernel
theorem dX11_owed_97 : decode cX11_owed 97 = .ok (.iadd, 1) := by decide +kernel
theorem dX11_owed_98 : decode cX11_owed 98 = .ok (.iaload, 1) := by decide +kernel
theorem dX11_owed_99 : decode cX11_owed 99 = .ok (.iconst 2, 1) := by decide +kernel
theorem dX11_owed_100 : decode cX11_owed 100 = .ok (.if_icmp .ne 13, 3) := by decide +kernel
theorem dX11_owed_103 : decode cX11_owed 103 = .ok (.aload_n 0, 1) := by decide +kernel
theorem dX11_owed_104 : decode cX11_owed 104 = .ok (.getfield 7, 3) := by decide +kernel
theorem dX11_owed_107 : decode cX11_owed 107 = .ok (.bipush 6, 2) := by decide +kernel
theorem dX11_owed_109 : decode cX11_owed 109 = .ok (.iaload, 1) := by decide +kernel
theorem dX11_owed_110 : decode cX11_owed 110 = .ok (.goto 4, 3) := by decide +kernel
theorem dX11_owed_113 : decode cX11_owed 113 = .ok (.iconst 0, 1) := by decide +kernel
theorem dX11_owed_114 : decode cX11_owed 114 = .ok (.isub, 1) := by decide +kernel
theorem dX11_owed_115 : decode cX11_owed 115 = .ok (.istore_n 3, 1) := by decide +kernel
theorem dX11_owed_116 : decode cX11_owed 116 = .ok (.iinc 4 1, 3) := by decide +kernel
theorem dX11_owed_119 : decode cX11_owed 119 = .ok (.goto (-91), 3) := by decide +kernel
theorem dX11_owed_122 : decode cX11_owed 122 = .ok (.iload_n 3, 1) := by decide +kernel
theorem dX11_owed_123 : decode cX11_owed 123 = .ok (.ireturn, 1) := by decide +kernel
theorem dX11_divisor_0 : decode cX11_divisor 0 = .ok (.lload_n 0, 1) := by decide +kernel
theorem dX11_divisor_1 : decode cX11_divisor 1 = .ok (.lstore 4, 2) := by decide +kernel
theorem dX11_divisor_3 : decode cX11_divisor 3 = .ok (.lload_n 2, 1) := by decide +kernel
theorem dX11_divisor_4 : decode cX11_divisor 4 = .ok (.lstore 6, 2) := by decide +kernel
theorem dX11_divisor_6 : decode cX11_divisor 6 = .ok (.lload 6, 2) := by decide +kernel
theorem dX11_divisor_8 : decode cX11_divisor 8 = .ok (.lconst 0, 1) := by decide +kernel
theorem dX11_divisor_9 : decode cX11_divisor 9 = .ok (.lcmp, 1) := by decide +kernel
theorem dX11_divisor_10 : decode cX11_divisor 10 = .ok (.ifCond .eq 21, 3) := by decide +kernel
theorem dX11_divisor_13 : decode cX11_divisor 13 = .ok (.lload 4, 2) := by decide +kernel
theorem dX11_divisor_15 : decode cX11_divisor 15 = .ok (.lload 6, 2) := by decide +kernel
theorem dX11_divisor_17 : decode cX11_divisor 17 = .ok (.lrem, 1) := by decide +kernel
theorem dX11_divisor_18 : decode cX11_divisor 18 = .ok (.lstore 8, 2) := by decide +kernel
theorem dX11_divisor_20 : decode cX11_divisor 20 = .ok (.lload 6, 2) := by decide +kernel
theorem dX11_divisor_22 : decode cX11_divisor 22 = .ok (.lstore 4, 2) := by decide +kernel
theorem dX11_divisor_24 : decode cX11_divisor 24 = .ok (.lload 8, 2) := by decide +kernel
theorem dX11_divisor_26 : decode cX11_divisor 26 = .ok (.lstore 6, 2) := by decide +kernel
theorem dX11_divisor_28 : decode cX11_divisor 28 = .ok (.goto (-22), 3) := by decide +kernel
theorem dX11_divisor_31 : decode cX11_divisor 31 = .ok (.lload 4, 2) := by decide +kernel
theorem dX11_divisor_33 : decode cX11_divisor 33 = .ok (.lreturn, 1) := by decide +kernel
theorem dX11_told_0 : decode cX11_told 0 = .ok (.lload_n 1, 1) := by decide +kernel
theorem dX11_told_1 : decode cX11_told 1 = .ok (.lconst 0, 1) := by decide +kernel
theorem dX11_told_2 : decode cX11_told 2 = .ok (.lcmp, 1) := by decide +kernel
theorem dX11_told_3 : decode cX11_told 3 = .ok (.ifCond .eq 9, 3) := by decide +kernel
theorem dX11_told_6 : decode cX11_told 6 = .ok (.lload_n 3, 1) := by decide +kernel
theorem dX11_told_7 : decode cX11_told 7 = .ok (.lconst 0, 1) := by decide +kernel
theorem dX11_told_8 : decode cX11_told 8 = .ok (.lcmp, 1) := by decide +kernel
theorem dX11_told_9 : decode cX11_told 9 = .ok (.ifCond .ne 5, 3) := by decide +kernel
theorem dX11_told_12 : decode cX11_told 12 = .ok (.iconst 0, 1) := by decide +kernel
theorem dX11_told_13 : decode cX11_told 13 = .ok (.ireturn, 1) := by decide +kernel
theorem dX11_told_14 : decode cX11_told 14 = .ok (.lload_n 1, 1) := by decide +kernel
theorem dX11_told_15 : decode cX11_told 15 = .ok (.lload_n 3, 1) := by decide +kernel
theorem dX11_told_16 : decode cX11_told 16 = .ok (.invokestatic 234, 3) := by decide +kernel
theorem dX11_told_19 : decode cX11_told 19 = .ok (.lstore 5, 2) := by decide +kernel
theorem dX11_told_21 : decode cX11_told 21 = .ok (.aload_n 0, 1) := by decide +kernel
theorem dX11_told_22 : decode cX11_told 22 = .ok (.lload_n 1, 1) := by decide +kernel
theorem dX11_told_23 : decode cX11_told 23 = .ok (.lload 5, 2) := by decide +kernel
theorem dX11_told_25 : decode cX11_told 25 = .ok (.ldiv, 1) := by decide +kernel
theorem dX11_told_26 : decode cX11_told 26 = .ok (.putfield 238, 3) := by decide +kernel
theorem dX11_told_29 : decode cX11_told 29 = .ok (.aload_n 0, 1) := by decide +kernel
theorem dX11_told_30 : decode cX11_told 30 = .ok (.lload_n 3, 1) := by decide +kernel
theorem dX11_told_31 : decode cX11_told 31 = .ok (.lload 5, 2) := by decide +kernel
theorem dX11_told_33 : decode cX11_told 33 = .ok (.ldiv, 1) := by decide +kernel
theorem dX11_told_34 : decode cX11_told 34 = .ok (.putfield 63, 3) := by decide +kernel
theorem dX11_told_37 : decode cX11_told 37 = .ok (.iconst 1, 1) := by decide +kernel
theorem dX11_told_38 : decode cX11_told 38 = .ok (.ireturn, 1) := by decide +kernel
theorem dX11_ways_0 : decode cX11_ways 0 = .ok (.iload_n 1, 1) := by decide +kernel
theorem dX11_ways_1 : decode cX11_ways 1 = .ok (.ifCond .lt 8, 3) := by decide +kernel
theorem dX11_ways_4 : decode cX11_ways 4 = .ok (.iload_n 1, 1) := by decide +kernel
theorem dX11_ways_5 : decode cX11_ways 5 = .ok (.iload_n 0, 1) := by decide +kernel
theorem dX11_ways_6 : decode cX11_ways 6 = .ok (.if_icmp .le 5, 3) := by decide +kernel
theorem dX11_ways_9 : decode cX11_ways 9 = .ok (.lconst 0, 1) := by decide +kernel
theorem dX11_ways_10 : decode cX11_ways 10 = .ok (.lreturn, 1) := by decide +kernel
theorem dX11_ways_11 : decode cX11_ways 11 = .ok (.lconst 1, 1) := by decide +kernel
theorem dX11_ways_12 : decode cX11_ways 12 = .ok (.lstore_n 2, 1) := by decide +kernel
theorem dX11_ways_13 : decode cX11_ways 13 = .ok (.iconst 1, 1) := by decide +kernel
theorem dX11_ways_14 : decode cX11_ways 14 = .ok (.istore 4, 2) := by decide +kernel
theorem dX11_ways_16 : decode cX11_ways 16 = .ok (.iload 4, 2) := by decide +kernel
theorem dX11_ways_18 : decode cX11_ways 18 = .ok (.iload_n 1, 1) := by decide +kernel
theorem dX11_ways_19 : decode cX11_ways 19 = .ok (.if_icmp .gt 23, 3) := by decide +kernel
theorem dX11_ways_22 : decode cX11_ways 22 = .ok (.lload_n 2, 1) := by decide +kernel
theorem dX11_ways_23 : decode cX11_ways 23 = .ok (.iload_n 0, 1) := by decide +kernel
theorem dX11_ways_24 : decode cX11_ways 24 = .ok (.iload_n 1, 1) := by decide +kernel
theorem dX11_ways_25 : decode cX11_ways 25 = .ok (.isub, 1) := by decide +kernel
theorem dX11_ways_26 : decode cX11_ways 26 = .ok (.iload 4, 2) := by decide +kernel
theorem dX11_ways_28 : decode cX11_ways 28 = .ok (.iadd, 1) := by decide +kernel
theorem dX11_ways_29 : decode cX11_ways 29 = .ok (.i2l, 1) := by decide +kernel
theorem dX11_ways_30 : decode cX11_ways 30 = .ok (.lmul, 1) := by decide +kernel
theorem dX11_ways_31 : decode cX11_ways 31 = .ok (.iload 4, 2) := by decide +kernel
theorem dX11_ways_33 : decode cX11_ways 33 = .ok (.i2l, 1) := by decide +kernel
theorem dX11_ways_34 : decode cX11_ways 34 = .ok (.ldiv, 1) := by decide +kernel
theorem dX11_ways_35 : decode cX11_ways 35 = .ok (.lstore_n 2, 1) := by decide +kernel
theorem dX11_ways_36 : decode cX11_ways 36 = .ok (.iinc 4 1, 3) := by decide +kernel
theorem dX11_ways_39 : decode cX11_ways 39 = .ok (.goto (-23), 3) := by decide +kernel
theorem dX11_ways_42 : decode cX11_ways 42 = .ok (.lload_n 2, 1) := by decide +kernel
theorem dX11_ways_43 : decode cX11_ways 43 = .ok (.lreturn, 1) := by decide +kernel
theorem dX11_chance_0 : decode cX11_chance 0 = .ok (.iload_n 1, 1) := by decide +kernel
theorem dX11_chance_1 : decode cX11_chance 1 = .ok (.i2l, 1) := by decide +kernel
theorem dX11_chance_2 : decode cX11_chance 2 = .ok (.lconst 0, 1) := by decide +kernel
theorem dX11_chance_3 : decode cX11_chance 3 = .ok (.ldc2_w 241, 3) := by decide +kernel
theorem dX11_chance_6 : decode cX11_chance 6 = .ok (.invokestatic 67, 3) := by decide +kernel
theorem dX11_chance_9 : decode cX11_chance 9 = .ok (.ifCond .eq 38, 3) := by decide +kernel
theorem dX11_chance_12 : decode cX11_chance 12 = .ok (.iload_n 2, 1) := by decide +kernel
theorem dX11_chance_13 : decode cX11_chance 13 = .ok (.i2l, 1) := by decide +kernel
theorem dX11_chance_14 : decode cX11_chance 14 = .ok (.lconst 0, 1) := by decide +kernel
theorem dX11_chance_15 : decode cX11_chance 15 = .ok (.iload_n 1, 1) := by decide +kernel
theorem dX11_chance_16 : decode cX11_chance 16 = .ok (.i2l, 1) := by decide +kernel
theorem dX11_chance_17 : decode cX11_chance 17 = .ok (.invokestatic 67, 3) := by decide +kernel
theorem dX11_chance_20 : decode cX11_chance 20 = .ok (.ifCond .eq 27, 3) := by decide +kernel
theorem dX11_chance_23 : decode cX11_chance 23 = .ok (.iload_n 3, 1) := by decide +kernel
theorem dX11_chance_24 : decode cX11_chance 24 = .ok (.i2l, 1) := by decide +kernel
theorem dX11_chance_25 : decode cX11_chance 25 = .ok (.lconst 0, 1) := by decide +kernel
theorem dX11_chance_26 : decode cX11_chance 26 = .ok (.iload_n 1, 1) := by decide +kernel
theorem dX11_chance_27 : decode cX11_chance 27 = .ok (.i2l, 1) := by decide +kernel
theorem dX11_chance_28 : decode cX11_chance 28 = .ok (.invokestatic 67, 3) := by decide +kernel
theorem dX11_chance_31 : decode cX11_chance 31 = .ok (.ifCond .eq 16, 3) := by decide +kernel
theorem dX11_chance_34 : decode cX11_chance 34 = .ok (.iload 4, 2) := by decide +kernel
theorem dX11_chance_36 : decode cX11_chance 36 = .ok (.i2l, 1) := by decide +kernel
theorem dX11_chance_37 : decode cX11_chance 37 = .ok (.lconst 0, 1) := by decide +kernel
theorem dX11_chance_38 : decode cX11_chance 38 = .ok (.ldc2_w 241, 3) := by decide +kernel
theorem dX11_chance_41 : decode cX11_chance 41 = .ok (.invokestatic 67, 3) := by decide +kernel
theorem dX11_chance_44 : decode cX11_chance 44 = .ok (.ifCond .ne 6, 3) := by decide +kernel
theorem dX11_chance_47 : decode cX11_chance 47 = .ok (.bipush (-2), 2) := by decide +kernel
theorem dX11_chance_49 : decode cX11_chance 49 = .ok (.ireturn, 1) := by decide +kernel
theorem dX11_chance_50 : decode cX11_chance 50 = .ok (.lconst 0, 1) := by decide +kernel
theorem dX11_chance_51 : decode cX11_chance 51 = .ok (.lstore 5, 2) := by decide +kernel
theorem dX11_chance_53 : decode cX11_chance 53 = .ok (.iload 4, 2) := by decide +kernel
theorem dX11_chance_55 : decode cX11_chance 55 = .ok (.istore 7, 2) := by decide +kernel
theorem dX11_chance_57 : decode cX11_chance 57 = .ok (.iload 7, 2) := by decide +kernel
theorem dX11_chance_59 : decode cX11_chance 59 = .ok (.iload_n 3, 1) := by decide +kernel
theorem dX11_chance_60 : decode cX11_chance 60 = .ok (.if_icmp .gt 31, 3) := by decide +kernel
theorem dX11_chance_63 : decode cX11_chance 63 = .ok (.lload 5, 2) := by decide +kernel
theorem dX11_chance_65 : decode cX11_chance 65 = .ok (.iload_n 2, 1) := by decide +kernel
theorem dX11_chance_66 : decode cX11_chance 66 = .ok (.iload 7, 2) := by decide +kernel
theorem dX11_chance_68 : decode cX11_chance 68 = .ok (.invokestatic 243, 3) := by decide +kernel
theorem dX11_chance_71 : decode cX11_chance 71 = .ok (.iload_n 1, 1) := by decide +kernel
theorem dX11_chance_72 : decode cX11_chance 72 = .ok (.iload_n 2, 1) := by decide +kernel
theorem dX11_chance_73 : decode cX11_chance 73 = .ok (.isub, 1) := by decide +kernel
theorem dX11_chance_74 : decode cX11_chance 74 = .ok (.iload_n 3, 1) := by decide +kernel
theorem dX11_chance_75 : decode cX11_chance 75 = .ok (.iload 7, 2) := by decide +kernel
theorem dX11_chance_77 : decode cX11_chance 77 = .ok (.isub, 1) := by decide +kernel
theorem dX11_chance_78 : decode cX11_chance 78 = .ok (.invokestatic 243, 3) := by decide +kernel
theorem dX11_chance_81 : decode cX11_chance 81 = .ok (.lmul, 1) := by decide +kernel
theorem dX11_chance_82 : decode cX11_chance 82 = .ok (.ladd, 1) := by decide +kernel
theorem dX11_chance_83 : decode cX11_chance 83 = .ok (.lstore 5, 2) := by decide +kernel
theorem dX11_chance_85 : decode cX11_chance 85 = .ok (.iinc 7 1, 3) := by decide +kernel
theorem dX11_chance_88 : decode cX11_chance 88 = .ok (.goto (-31), 3) := by decide +kernel
theorem dX11_chance_91 : decode cX11_chance 91 = .ok (.aload_n 0, 1) := by decide +kernel
theorem dX11_chance_92 : decode cX11_chance 92 = .ok (.lload 5, 2) := by decide +kernel
theorem dX11_chance_94 : decode cX11_chance 94 = .ok (.iload_n 1, 1) := by decide +kernel
theorem dX11_chance_95 : decode cX11_chance 95 = .ok (.iload_n 3, 1) := by decide +kernel
theorem dX11_chance_96 : decode cX11_chance 96 = .ok (.invokestatic 243, 3) := by decide +kernel
theorem dX11_chance_99 : decode cX11_chance 99 = .ok (.invokevirtual 246, 3) := by decide +kernel
theorem dX11_chance_102 : decode cX11_chance 102 = .ok (.ireturn, 1) := by decide +kernel
theorem dX11_twelve_0 : decode cX11_twelve 0 = .ok (.aload_n 0, 1) := by decide +kernel
theorem dX11_twelve_1 : decode cX11_twelve 1 = .ok (.iload_n 1, 1) := by decide +kernel
theorem dX11_twelve_2 : decode cX11_twelve 2 = .ok (.invokevirtual 229, 3) := by decide +kernel
theorem dX11_twelve_5 : decode cX11_twelve 5 = .ok (.ifCond .eq 13, 3) := by decide +kernel
theorem dX11_twelve_8 : decode cX11_twelve 8 = .ok (.iload_n 2, 1) := by decide +kernel
theorem dX11_twelve_9 : decode cX11_twelve 9 = .ok (.i2l, 1) := by decide +kernel
theorem dX11_twelve_10 : decode cX11_twelve 10 = .ok (.lconst 0, 1) := by decide +kernel
theorem dX11_twelve_11 : decode cX11_twelve 11 = .ok (.lconst 1, 1) := by decide +kernel
theorem dX11_twelve_12 : decode cX11_twelve 12 = .ok (.invokestatic 67, 3) := by decide +kernel
theorem dX11_twelve_15 : decode cX11_twelve 15 = .ok (.ifCond .ne 6, 3) := by decide +kernel
theorem dX11_twelve_18 : decode cX11_twelve 18 = .ok (.bipush (-2), 2) := by decide +kernel
theorem dX11_twelve_20 : decode cX11_twelve 20 = .ok (.ireturn, 1) := by decide +kernel
theorem dX11_twelve_21 : decode cX11_twelve 21 = .ok (.iload_n 2, 1) := by decide +kernel
theorem dX11_twelve_22 : decode cX11_twelve 22 = .ok (.ifCond .ne 12, 3) := by decide +kernel
theorem dX11_twelve_25 : decode cX11_twelve 25 = .ok (.aload_n 0, 1) := by decide +kernel
theorem dX11_twelve_26 : decode cX11_twelve 26 = .ok (.getfield 33, 3) := by decide +kernel
theorem dX11_twelve_29 : decode cX11_twelve 29 = .ok (.iload_n 1, 1) := by decide +kernel
theorem dX11_twelve_30 : decode cX11_twelve 30 = .ok (.iaload, 1) := by decide +kernel
theorem dX11_twelve_31 : decode cX11_twelve 31 = .ok (.goto 15, 3) := by decide +kernel
theorem dX11_twelve_34 : decode cX11_twelve 34 = .ok (.aload_n 0, 1) := by decide +kernel
theorem dX11_twelve_35 : decode cX11_twelve 35 = .ok (.iconst 0, 1) := by decide +kernel
theorem dX11_twelve_36 : decode cX11_twelve 36 = .ok (.aload_n 0, 1) := by decide +kernel
theorem dX11_twelve_37 : decode cX11_twelve 37 = .ok (.iload_n 1, 1) := by decide +kernel
theorem dX11_twelve_38 : decode cX11_twelve 38 = .ok (.iconst 0, 1) := by decide +kernel
theorem dX11_twelve_39 : decode cX11_twelve 39 = .ok (.invokevirtual 149, 3) := by decide +kernel
theorem dX11_twelve_42 : decode cX11_twelve 42 = .ok (.iconst (-1), 1) := by decide +kernel
theorem dX11_twelve_43 : decode cX11_twelve 43 = .ok (.invokevirtual 188, 3) := by decide +kernel
theorem dX11_twelve_46 : decode cX11_twelve 46 = .ok (.istore_n 3, 1) := by decide +kernel
theorem dX11_twelve_47 : decode cX11_twelve 47 = .ok (.lconst 0, 1) := by decide +kernel
theorem dX11_twelve_48 : decode cX11_twelve 48 = .ok (.lstore 4, 2) := by decide +kernel
theorem dX11_twelve_50 : decode cX11_twelve 50 = .ok (.iconst 0, 1) := by decide +kernel
theorem dX11_twelve_51 : decode cX11_twelve 51 = .ok (.istore 6, 2) := by decide +kernel
theorem dX11_twelve_53 : decode cX11_twelve 53 = .ok (.iload 6, 2) := by decide +kernel
theorem dX11_twelve_55 : decode cX11_twelve 55 = .ok (.iconst 4, 1) := by decide +kernel
theorem dX11_twelve_56 : decode cX11_twelve 56 = .ok (.if_icmp .ge 85, 3) := by decide +kernel
theorem dX11_twelve_59 : decode cX11_twelve 59 = .ok (.iconst 0, 1) := by decide +kernel
theorem dX11_twelve_60 : decode cX11_twelve 60 = .ok (.istore 7, 2) := by decide +kernel
theorem dX11_twelve_62 : decode cX11_twelve 62 = .ok (.iconst 0, 1) := by decide +kernel
theorem dX11_twelve_63 : decode cX11_twelve 63 = .ok (.istore 8, 2) := by decide +kernel
theorem dX11_twelve_65 : decode cX11_twelve 65 = .ok (.iload 8, 2) := by decide +kernel
theorem dX11_twelve_67 : decode cX11_twelve 67 = .ok (.aload_n 0, 1) := by decide +kernel
theorem dX11_twelve_68 : decode cX11_twelve 68 = .ok (.getfield 7, 3) := by decide +kernel
theorem dX11_twelve_71 : decode cX11_twelve 71 = .ok (.iconst 0, 1) := by decide +kernel
theorem dX11_twelve_72 : decode cX11_twelve 72 = .ok (.iaload, 1) := by decide +kernel
theorem dX11_twelve_73 : decode cX11_twelve 73 = .ok (.if_icmp .ge 46, 3) := by decide +kernel
theorem dX11_twelve_76 : decode cX11_twelve 76 = .ok (.iload 7, 2) := by decide +kernel
theorem dX11_twelve_78 : decode cX11_twelve 78 = .ok (.iload_n 3, 1) := by decide +kernel
theorem dX11_twelve_79 : decode cX11_twelve 79 = .ok (.iload 8, 2) := by decide +kernel
theorem dX11_twelve_81 : decode cX11_twelve 81 = .ok (.ishr, 1) := by decide +kernel
theorem dX11_twelve_82 : decode cX11_twelve 82 = .ok (.iconst 1, 1) := by decide +kernel
theorem dX11_twelve_83 : decode cX11_twelve 83 = .ok (.iand, 1) := by decide +kernel
theorem dX11_twelve_84 : decode cX11_twelve 84 = .ok (.iconst 1, 1) := by decide +kernel
theorem dX11_twelve_85 : decode cX11_twelve 85 = .ok (.if_icmp .ne 24, 3) := by decide +kernel
theorem dX11_twelve_88 : decode cX11_twelve 88 = .ok (.aload_n 0, 1) := by decide +kernel
theorem dX11_twelve_89 : decode cX11_twelve 89 = .ok (.getfield 7, 3) := by decide +kernel
theorem dX11_twelve_92 : decode cX11_twelve 92 = .ok (.bipush 10, 2) := by decide +kernel
theorem dX11_twelve_94 : decode cX11_twelve 94 = .ok (.iconst 4, 1) := by decide +kernel
theorem dX11_twelve_95 : decode cX11_twelve 95 = .ok (.iload 8, 2) := by decide +kernel
theorem dX11_twelve_97 : decode cX11_twelve 97 = .ok (.imul, 1) := by decide +kernel
theorem dX11_twelve_98 : decode cX11_twelve 98 = .ok (.iadd, 1) := by decide +kernel
theorem dX11_twelve_99 : decode cX11_twelve 99 = .ok (.iaload, 1) := by decide +kernel
theorem dX11_twelve_100 : decode cX11_twelve 100 = .ok (.iload 6, 2) := by decide +kernel
theorem dX11_twelve_102 : decode cX11_twelve 102 = .ok (.if_icmp .ne 7, 3) := by decide +kernel
theorem dX11_twelve_105 : decode cX11_twelve 105 = .ok (.iconst 1, 1) := by decide +kernel
theorem dX11_twelve_106 : decode cX11_twelve 106 = .ok (.goto 4, 3) := by decide +kernel
theorem dX11_twelve_109 : decode cX11_twelve 109 = .ok (.iconst 0, 1) := by decide +kernel
theorem dX11_twelve_110 : decode cX11_twelve 110 = .ok (.iadd, 1) := by decide +kernel
theorem dX11_twelve_111 : decode cX11_twelve 111 = .ok (.istore 7, 2) := by decide +kernel
theorem dX11_twelve_113 : decode cX11_twelve 113 = .ok (.iinc 8 1, 3) := by decide +kernel
theorem dX11_twelve_116 : decode cX11_twelve 116 = .ok (.goto (-51), 3) := by decide +kernel
theorem dX11_twelve_119 : decode cX11_twelve 119 = .ok (.lload 4, 2) := by decide +kernel
theorem dX11_twelve_121 : decode cX11_twelve 121 = .ok (.iload 7, 2) := by decide +kernel
theorem dX11_twelve_123 : decode cX11_twelve 123 = .ok (.aload_n 0, 1) := by decide +kernel
theorem dX11_twelve_124 : decode cX11_twelve 124 = .ok (.iload_n 1, 1) := by decide +kernel
theorem dX11_twelve_125 : decode cX11_twelve 125 = .ok (.iconst 2, 1) := by decide +kernel
theorem dX11_twelve_126 : decode cX11_twelve 126 = .ok (.invokevirtual 149, 3) := by decide +kernel
theorem dX11_twelve_129 : decode cX11_twelve 129 = .ok (.invokestatic 243, 3) := by decide +kernel
theorem dX11_twelve_132 : decode cX11_twelve 132 = .ok (.ladd, 1) := by decide +kernel
theorem dX11_twelve_133 : decode cX11_twelve 133 = .ok (.lstore 4, 2) := by decide +kernel
theorem dX11_twelve_135 : decode cX11_twelve 135 = .ok (.iinc 6 1, 3) := by decide +kernel
theorem dX11_twelve_138 : decode cX11_twelve 138 = .ok (.goto (-85), 3) := by decide +kernel
theorem dX11_twelve_141 : decode cX11_twelve 141 = .ok (.aload_n 0, 1) := by decide +kernel
theorem dX11_twelve_142 : decode cX11_twelve 142 = .ok (.lload 4, 2) := by decide +kernel
theorem dX11_twelve_144 : decode cX11_twelve 144 = .ok (.iload_n 3, 1) := by decide +kernel
theorem dX11_twelve_145 : decode cX11_twelve 145 = .ok (.invokestatic 222, 3) := by decide +kernel
theorem dX11_twelve_148 : decode cX11_twelve 148 = .ok (.aload_n 0, 1) := by decide +kernel
theorem dX11_twelve_149 : decode cX11_twelve 149 = .ok (.iload_n 1, 1) := by decide +kernel
theorem dX11_twelve_150 : decode cX11_twelve 150 = .ok (.iconst 2, 1) := by decide +kernel
theorem dX11_twelve_151 : decode cX11_twelve 151 = .ok (.invokevirtual 149, 3) := by decide +kernel
theorem dX11_twelve_154 : decode cX11_twelve 154 = .ok (.invokestatic 243, 3) := by decide +kernel
theorem dX11_twelve_157 : decode cX11_twelve 157 = .ok (.invokevirtual 246, 3) := by decide +kernel
theorem dX11_twelve_160 : decode cX11_twelve 160 = .ok (.ireturn, 1) := by decide +kernel
theorem dX11_part_0 : decode cX11_part 0 = .ok (.iload_n 1, 1) := by decide +kernel
theorem dX11_part_1 : decode cX11_part 1 = .ok (.ifCond .ne 10, 3) := by decide +kernel
theorem dX11_part_4 : decode cX11_part 4 = .ok (.aload_n 0, 1) := by decide +kernel
theorem dX11_part_5 : decode cX11_part 5 = .ok (.getfield 238, 3) := by decide +kernel
theorem dX11_part_8 : decode cX11_part 8 = .ok (.goto 18, 3) := by decide +kernel
theorem dX11_part_11 : decode cX11_part 11 = .ok (.iload_n 1, 1) := by decide +kernel
theorem dX11_part_12 : decode cX11_part 12 = .ok (.iconst 1, 1) := by decide +kernel
theorem dX11_part_13 : decode cX11_part 13 = .ok (.if_icmp .ne 10, 3) := by decide +kernel
theorem dX11_part_16 : decode cX11_part 16 = .ok (.aload_n 0, 1) := by decide +kernel
theorem dX11_part_17 : decode cX11_part 17 = .ok (.getfield 63, 3) := by decide +kernel
theorem dX11_part_20 : decode cX11_part 20 = .ok (.goto 6, 3) := by decide +kernel
theorem dX11_part_23 : decode cX11_part 23 = .ok (.ldc2_w 194, 3) := by decide +kernel
theorem dX11_part_26 : decode cX11_part 26 = .ok (.lreturn, 1) := by decide +kernel

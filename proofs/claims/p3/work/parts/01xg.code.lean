theorem dX11_force_0 : decode cX11_force 0 = .ok (.iload_n 1, 1) := by decide +kernel
theorem dX11_force_1 : decode cX11_force 1 = .ok (.i2l, 1) := by decide +kernel
theorem dX11_force_2 : decode cX11_force 2 = .ok (.lconst 0, 1) := by decide +kernel
theorem dX11_force_3 : decode cX11_force 3 = .ok (.lconst 1, 1) := by decide +kernel
theorem dX11_force_4 : decode cX11_force 4 = .ok (.invokestatic 67, 3) := by decide +kernel
theorem dX11_force_7 : decode cX11_force 7 = .ok (.ifCond .eq 19, 3) := by decide +kernel
theorem dX11_force_10 : decode cX11_force 10 = .ok (.iload_n 2, 1) := by decide +kernel
theorem dX11_force_11 : decode cX11_force 11 = .ok (.invokestatic 93, 3) := by decide +kernel
theorem dX11_force_14 : decode cX11_force 14 = .ok (.ifCond .eq 12, 3) := by decide +kernel
theorem dX11_force_17 : decode cX11_force 17 = .ok (.aload_n 0, 1) := by decide +kernel
theorem dX11_force_18 : decode cX11_force 18 = .ok (.iload_n 1, 1) := by decide +kernel
theorem dX11_force_19 : decode cX11_force 19 = .ok (.iload_n 2, 1) := by decide +kernel
theorem dX11_force_20 : decode cX11_force 20 = .ok (.invokevirtual 185, 3) := by decide +kernel
theorem dX11_force_23 : decode cX11_force 23 = .ok (.goto 5, 3) := by decide +kernel
theorem dX11_force_26 : decode cX11_force 26 = .ok (.bipush (-2), 2) := by decide +kernel
theorem dX11_force_28 : decode cX11_force 28 = .ok (.ireturn, 1) := by decide +kernel
theorem dX11_whom_0 : decode cX11_whom 0 = .ok (.aload_n 0, 1) := by decide +kernel
theorem dX11_whom_1 : decode cX11_whom 1 = .ok (.iload_n 1, 1) := by decide +kernel
theorem dX11_whom_2 : decode cX11_whom 2 = .ok (.iload_n 2, 1) := by decide +kernel
theorem dX11_whom_3 : decode cX11_whom 3 = .ok (.invokevirtual 185, 3) := by decide +kernel
theorem dX11_whom_6 : decode cX11_whom 6 = .ok (.istore 4, 2) := by decide +kernel
theorem dX11_whom_8 : decode cX11_whom 8 = .ok (.iload_n 3, 1) := by decide +kernel
theorem dX11_whom_9 : decode cX11_whom 9 = .ok (.iconst (-1), 1) := by decide +kernel
theorem dX11_whom_10 : decode cX11_whom 10 = .ok (.if_icmp .eq 14, 3) := by decide +kernel
theorem dX11_whom_13 : decode cX11_whom 13 = .ok (.sipush 262, 3) := by decide +kernel
theorem dX11_whom_16 : decode cX11_whom 16 = .ok (.bipush 51, 2) := by decide +kernel
theorem dX11_whom_18 : decode cX11_whom 18 = .ok (.iload_n 3, 1) := by decide +kernel
theorem dX11_whom_19 : decode cX11_whom 19 = .ok (.imul, 1) := by decide +kernel
theorem dX11_whom_20 : decode cX11_whom 20 = .ok (.iadd, 1) := by decide +kernel
theorem dX11_whom_21 : decode cX11_whom 21 = .ok (.goto 24, 3) := by decide +kernel
theorem dX11_whom_24 : decode cX11_whom 24 = .ok (.iload 4, 2) := by decide +kernel
theorem dX11_whom_26 : decode cX11_whom 26 = .ok (.iconst (-1), 1) := by decide +kernel
theorem dX11_whom_27 : decode cX11_whom 27 = .ok (.if_icmp .ne 7, 3) := by decide +kernel
theorem dX11_whom_30 : decode cX11_whom 30 = .ok (.iconst (-1), 1) := by decide +kernel
theorem dX11_whom_31 : decode cX11_whom 31 = .ok (.goto 14, 3) := by decide +kernel
theorem dX11_whom_34 : decode cX11_whom 34 = .ok (.sipush 466, 3) := by decide +kernel
theorem dX11_whom_37 : decode cX11_whom 37 = .ok (.bipush 54, 2) := by decide +kernel
theorem dX11_whom_39 : decode cX11_whom 39 = .ok (.iload 4, 2) := by decide +kernel
theorem dX11_whom_41 : decode cX11_whom 41 = .ok (.imul, 1) := by decide +kernel
theorem dX11_whom_42 : decode cX11_whom 42 = .ok (.iadd, 1) := by decide +kernel
theorem dX11_whom_43 : decode cX11_whom 43 = .ok (.iconst 3, 1) := by decide +kernel
theorem dX11_whom_44 : decode cX11_whom 44 = .ok (.iadd, 1) := by decide +kernel
theorem dX11_whom_45 : decode cX11_whom 45 = .ok (.istore 5, 2) := by decide +kernel
theorem dX11_whom_47 : decode cX11_whom 47 = .ok (.iload 5, 2) := by decide +kernel
theorem dX11_whom_49 : decode cX11_whom 49 = .ok (.iconst (-1), 1) := by decide +kernel
theorem dX11_whom_50 : decode cX11_whom 50 = .ok (.if_icmp .ne 16, 3) := by decide +kernel
theorem dX11_whom_53 : decode cX11_whom 53 = .ok (.iload_n 1, 1) := by decide +kernel
theorem dX11_whom_54 : decode cX11_whom 54 = .ok (.ifCond .ne 10, 3) := by decide +kernel
theorem dX11_whom_57 : decode cX11_whom 57 = .ok (.aload_n 0, 1) := by decide +kernel
theorem dX11_whom_58 : decode cX11_whom 58 = .ok (.invokevirtual 97, 3) := by decide +kernel
theorem dX11_whom_61 : decode cX11_whom 61 = .ok (.goto 4, 3) := by decide +kernel
theorem dX11_whom_64 : decode cX11_whom 64 = .ok (.iconst 0, 1) := by decide +kernel
theorem dX11_whom_65 : decode cX11_whom 65 = .ok (.ireturn, 1) := by decide +kernel
theorem dX11_whom_66 : decode cX11_whom 66 = .ok (.aload_n 0, 1) := by decide +kernel
theorem dX11_whom_67 : decode cX11_whom 67 = .ok (.iload 5, 2) := by decide +kernel
theorem dX11_whom_69 : decode cX11_whom 69 = .ok (.invokevirtual 171, 3) := by decide +kernel
theorem dX11_whom_72 : decode cX11_whom 72 = .ok (.pop, 1) := by decide +kernel
theorem dX11_whom_73 : decode cX11_whom 73 = .ok (.iconst 0, 1) := by decide +kernel
theorem dX11_whom_74 : decode cX11_whom 74 = .ok (.istore 6, 2) := by decide +kernel
theorem dX11_whom_76 : decode cX11_whom 76 = .ok (.iconst 0, 1) := by decide +kernel
theorem dX11_whom_77 : decode cX11_whom 77 = .ok (.istore 7, 2) := by decide +kernel
theorem dX11_whom_79 : decode cX11_whom 79 = .ok (.iload 7, 2) := by decide +kernel
theorem dX11_whom_81 : decode cX11_whom 81 = .ok (.aload_n 0, 1) := by decide +kernel
theorem dX11_whom_82 : decode cX11_whom 82 = .ok (.getfield 7, 3) := by decide +kernel
theorem dX11_whom_85 : decode cX11_whom 85 = .ok (.iconst 0, 1) := by decide +kernel
theorem dX11_whom_86 : decode cX11_whom 86 = .ok (.iaload, 1) := by decide +kernel
theorem dX11_whom_87 : decode cX11_whom 87 = .ok (.if_icmp .ge 34, 3) := by decide +kernel
theorem dX11_whom_90 : decode cX11_whom 90 = .ok (.iload 6, 2) := by decide +kernel
theorem dX11_whom_92 : decode cX11_whom 92 = .ok (.aload_n 0, 1) := by decide +kernel
theorem dX11_whom_93 : decode cX11_whom 93 = .ok (.iload 7, 2) := by decide +kernel
theorem dX11_whom_95 : decode cX11_whom 95 = .ok (.iload_n 2, 1) := by decide +kernel
theorem dX11_whom_96 : decode cX11_whom 96 = .ok (.invokevirtual 181, 3) := by decide +kernel
theorem dX11_whom_99 : decode cX11_whom 99 = .ok (.lconst 0, 1) := by decide +kernel
theorem dX11_whom_100 : decode cX11_whom 100 = .ok (.lcmp, 1) := by decide +kernel
theorem dX11_whom_101 : decode cX11_whom 101 = .ok (.ifCond .eq 10, 3) := by decide +kernel
theorem dX11_whom_104 : decode cX11_whom 104 = .ok (.iconst 1, 1) := by decide +kernel
theorem dX11_whom_105 : decode cX11_whom 105 = .ok (.iload 7, 2) := by decide +kernel
theorem dX11_whom_107 : decode cX11_whom 107 = .ok (.ishl, 1) := by decide +kernel
theorem dX11_whom_108 : decode cX11_whom 108 = .ok (.goto 4, 3) := by decide +kernel
theorem dX11_whom_111 : decode cX11_whom 111 = .ok (.iconst 0, 1) := by decide +kernel
theorem dX11_whom_112 : decode cX11_whom 112 = .ok (.ior, 1) := by decide +kernel
theorem dX11_whom_113 : decode cX11_whom 113 = .ok (.istore 6, 2) := by decide +kernel
theorem dX11_whom_115 : decode cX11_whom 115 = .ok (.iinc 7 1, 3) := by decide +kernel
theorem dX11_whom_118 : decode cX11_whom 118 = .ok (.goto (-39), 3) := by decide +kernel
theorem dX11_whom_121 : decode cX11_whom 121 = .ok (.iload 6, 2) := by decide +kernel
theorem dX11_whom_123 : decode cX11_whom 123 = .ok (.ireturn, 1) := by decide +kernel
theorem dX11_may_0 : decode cX11_may 0 = .ok (.aload_n 0, 1) := by decide +kernel
theorem dX11_may_1 : decode cX11_may 1 = .ok (.iconst 0, 1) := by decide +kernel
theorem dX11_may_2 : decode cX11_may 2 = .ok (.iload_n 1, 1) := by decide +kernel
theorem dX11_may_3 : decode cX11_may 3 = .ok (.invokevirtual 87, 3) := by decide +kernel
theorem dX11_may_6 : decode cX11_may 6 = .ok (.ifCond .eq 20, 3) := by decide +kernel
theorem dX11_may_9 : decode cX11_may 9 = .ok (.iload_n 2, 1) := by decide +kernel
theorem dX11_may_10 : decode cX11_may 10 = .ok (.invokestatic 93, 3) := by decide +kernel
theorem dX11_may_13 : decode cX11_may 13 = .ok (.ifCond .eq 13, 3) := by decide +kernel
theorem dX11_may_16 : decode cX11_may 16 = .ok (.iload_n 3, 1) := by decide +kernel
theorem dX11_may_17 : decode cX11_may 17 = .ok (.i2l, 1) := by decide +kernel
theorem dX11_may_18 : decode cX11_may 18 = .ok (.lconst 0, 1) := by decide +kernel
theorem dX11_may_19 : decode cX11_may 19 = .ok (.lconst 1, 1) := by decide +kernel
theorem dX11_may_20 : decode cX11_may 20 = .ok (.invokestatic 67, 3) := by decide +kernel
theorem dX11_may_23 : decode cX11_may 23 = .ok (.ifCond .ne 6, 3) := by decide +kernel
theorem dX11_may_26 : decode cX11_may 26 = .ok (.bipush (-2), 2) := by decide +kernel
theorem dX11_may_28 : decode cX11_may 28 = .ok (.ireturn, 1) := by decide +kernel
theorem dX11_may_29 : decode cX11_may 29 = .ok (.aload_n 0, 1) := by decide +kernel
theorem dX11_may_30 : decode cX11_may 30 = .ok (.invokevirtual 176, 3) := by decide +kernel
theorem dX11_may_33 : decode cX11_may 33 = .ok (.aload_n 0, 1) := by decide +kernel
theorem dX11_may_34 : decode cX11_may 34 = .ok (.iload_n 3, 1) := by decide +kernel
theorem dX11_may_35 : decode cX11_may 35 = .ok (.iload_n 2, 1) := by decide +kernel
theorem dX11_may_36 : decode cX11_may 36 = .ok (.iconst (-1), 1) := by decide +kernel
theorem dX11_may_37 : decode cX11_may 37 = .ok (.invokevirtual 188, 3) := by decide +kernel
theorem dX11_may_40 : decode cX11_may 40 = .ok (.iload_n 1, 1) := by decide +kernel
theorem dX11_may_41 : decode cX11_may 41 = .ok (.ishr, 1) := by decide +kernel
theorem dX11_may_42 : decode cX11_may 42 = .ok (.iconst 1, 1) := by decide +kernel
theorem dX11_may_43 : decode cX11_may 43 = .ok (.iand, 1) := by decide +kernel
theorem dX11_may_44 : decode cX11_may 44 = .ok (.ireturn, 1) := by decide +kernel
theorem dX11_ofTrial_0 : decode cX11_ofTrial 0 = .ok (.aload_n 0, 1) := by decide +kernel
theorem dX11_ofTrial_1 : decode cX11_ofTrial 1 = .ok (.getfield 7, 3) := by decide +kernel
theorem dX11_ofTrial_4 : decode cX11_ofTrial 4 = .ok (.sipush 1546, 3) := by decide +kernel
theorem dX11_ofTrial_7 : decode cX11_ofTrial 7 = .ok (.bipush 10, 2) := by decide +kernel
theorem dX11_ofTrial_9 : decode cX11_ofTrial 9 = .ok (.iload_n 1, 1) := by decide +kernel
theorem dX11_ofTrial_10 : decode cX11_ofTrial 10 = .ok (.imul, 1) := by decide +kernel
theorem dX11_ofTrial_11 : decode cX11_ofTrial 11 = .ok (.iadd, 1) := by decide +kernel
theorem dX11_ofTrial_12 : decode cX11_ofTrial 12 = .ok (.iload_n 2, 1) := by decide +kernel
theorem dX11_ofTrial_13 : decode cX11_ofTrial 13 = .ok (.iadd, 1) := by decide +kernel
theorem dX11_ofTrial_14 : decode cX11_ofTrial 14 = .ok (.iaload, 1) := by decide +kernel
theorem dX11_ofTrial_15 : decode cX11_ofTrial 15 = .ok (.ireturn, 1) := by decide +kernel
theorem dX11_trial_0 : decode cX11_trial 0 = .ok (.aload_n 0, 1) := by decide +kernel
theorem dX11_trial_1 : decode cX11_trial 1 = .ok (.getfield 7, 3) := by decide +kernel
theorem dX11_trial_4 : decode cX11_trial 4 = .ok (.iconst 4, 1) := by decide +kernel
theorem dX11_trial_5 : decode cX11_trial 5 = .ok (.iaload, 1) := by decide +kernel
theorem dX11_trial_6 : decode cX11_trial 6 = .ok (.ifCond .ne 7, 3) := by decide +kernel
theorem dX11_trial_9 : decode cX11_trial 9 = .ok (.iconst 0, 1) := by decide +kernel
theorem dX11_trial_10 : decode cX11_trial 10 = .ok (.goto 16, 3) := by decide +kernel
theorem dX11_trial_13 : decode cX11_trial 13 = .ok (.aload_n 0, 1) := by decide +kernel
theorem dX11_trial_14 : decode cX11_trial 14 = .ok (.aload_n 0, 1) := by decide +kernel
theorem dX11_trial_15 : decode cX11_trial 15 = .ok (.getfield 7, 3) := by decide +kernel
theorem dX11_trial_18 : decode cX11_trial 18 = .ok (.iconst 4, 1) := by decide +kernel
theorem dX11_trial_19 : decode cX11_trial 19 = .ok (.iaload, 1) := by decide +kernel
theorem dX11_trial_20 : decode cX11_trial 20 = .ok (.iconst 1, 1) := by decide +kernel
theorem dX11_trial_21 : decode cX11_trial 21 = .ok (.isub, 1) := by decide +kernel
theorem dX11_trial_22 : decode cX11_trial 22 = .ok (.iconst 0, 1) := by decide +kernel
theorem dX11_trial_23 : decode cX11_trial 23 = .ok (.invokevirtual 149, 3) := by decide +kernel
theorem dX11_trial_26 : decode cX11_trial 26 = .ok (.istore 10, 2) := by decide +kernel
theorem dX11_trial_28 : decode cX11_trial 28 = .ok (.iload_n 1, 1) := by decide +kernel
theorem dX11_trial_29 : decode cX11_trial 29 = .ok (.i2l, 1) := by decide +kernel
theorem dX11_trial_30 : decode cX11_trial 30 = .ok (.iload 10, 2) := by decide +kernel
theorem dX11_trial_32 : decode cX11_trial 32 = .ok (.i2l, 1) := by decide +kernel
theorem dX11_trial_33 : decode cX11_trial 33 = .ok (.ldc2_w 75, 3) := by decide +kernel
theorem dX11_trial_36 : decode cX11_trial 36 = .ok (.invokestatic 67, 3) := by decide +kernel
theorem dX11_trial_39 : decode cX11_trial 39 = .ok (.ifCond .eq 98, 3) := by decide +kernel
theorem dX11_trial_42 : decode cX11_trial 42 = .ok (.iload_n 2, 1) := by decide +kernel
theorem dX11_trial_43 : decode cX11_trial 43 = .ok (.i2l, 1) := by decide +kernel
theorem dX11_trial_44 : decode cX11_trial 44 = .ok (.lconst 1, 1) := by decide +kernel
theorem dX11_trial_45 : decode cX11_trial 45 = .ok (.ldc2_w 91, 3) := by decide +kernel
theorem dX11_trial_48 : decode cX11_trial 48 = .ok (.invokestatic 67, 3) := by decide +kernel
theorem dX11_trial_51 : decode cX11_trial 51 = .ok (.ifCond .eq 86, 3) := by decide +kernel
theorem dX11_trial_54 : decode cX11_trial 54 = .ok (.iload_n 3, 1) := by decide +kernel
theorem dX11_trial_55 : decode cX11_trial 55 = .ok (.i2l, 1) := by decide +kernel
theorem dX11_trial_56 : decode cX11_trial 56 = .ok (.lconst 1, 1) := by decide +kernel
theorem dX11_trial_57 : decode cX11_trial 57 = .ok (.ldc2_w 192, 3) := by decide +kernel
theorem dX11_trial_60 : decode cX11_trial 60 = .ok (.invokestatic 67, 3) := by decide +kernel
theorem dX11_trial_63 : decode cX11_trial 63 = .ok (.ifCond .eq 74, 3) := by decide +kernel
theorem dX11_trial_66 : decode cX11_trial 66 = .ok (.iload 4, 2) := by decide +kernel
theorem dX11_trial_68 : decode cX11_trial 68 = .ok (.i2l, 1) := by decide +kernel
theorem dX11_trial_69 : decode cX11_trial 69 = .ok (.ldc2_w 194, 3) := by decide +kernel
theorem dX11_trial_72 : decode cX11_trial 72 = .ok (.ldc2_w 91, 3) := by decide +kernel
theorem dX11_trial_75 : decode cX11_trial 75 = .ok (.invokestatic 67, 3) := by decide +kernel
theorem dX11_trial_78 : decode cX11_trial 78 = .ok (.ifCond .eq 59, 3) := by decide +kernel
theorem dX11_trial_81 : decode cX11_trial 81 = .ok (.iload 5, 2) := by decide +kernel
theorem dX11_trial_83 : decode cX11_trial 83 = .ok (.i2l, 1) := by decide +kernel
theorem dX11_trial_84 : decode cX11_trial 84 = .ok (.ldc2_w 194, 3) := by decide +kernel
theorem dX11_trial_87 : decode cX11_trial 87 = .ok (.ldc2_w 91, 3) := by decide +kernel
theorem dX11_trial_90 : decode cX11_trial 90 = .ok (.invokestatic 67, 3) := by decide +kernel
theorem dX11_trial_93 : decode cX11_trial 93 = .ok (.ifCond .eq 44, 3) := by decide +kernel
theorem dX11_trial_96 : decode cX11_trial 96 = .ok (.iload 6, 2) := by decide +kernel
theorem dX11_trial_98 : decode cX11_trial 98 = .ok (.i2l, 1) := by decide +kernel
theorem dX11_trial_99 : decode cX11_trial 99 = .ok (.ldc2_w 194, 3) := by decide +kernel
theorem dX11_trial_102 : decode cX11_trial 102 = .ok (.ldc2_w 77, 3) := by decide +kernel
theorem dX11_trial_105 : decode cX11_trial 105 = .ok (.invokestatic 67, 3) := by decide +kernel
theorem dX11_trial_108 : decode cX11_trial 108 = .ok (.ifCond .eq 29, 3) := by decide +kernel
theorem dX11_trial_111 : decode cX11_trial 111 = .ok (.iload 7, 2) := by decide +kernel
theorem dX11_trial_113 : decode cX11_trial 113 = .ok (.i2l, 1) := by decide +kernel
theorem dX11_trial_114 : decode cX11_trial 114 = .ok (.lconst 0, 1) := by decide +kernel
theorem dX11_trial_115 : decode cX11_trial 115 = .ok (.ldc2_w 196, 3) := by decide +kernel
theorem dX11_trial_118 : decode cX11_trial 118 = .ok (.invokestatic 67, 3) := by decide +kernel
theorem dX11_trial_121 : decode cX11_trial 121 = .ok (.ifCond .eq 16, 3) := by decide +kernel
theorem dX11_trial_124 : decode cX11_trial 124 = .ok (.iload 9, 2) := by decide +kernel
theorem dX11_trial_126 : decode cX11_trial 126 = .ok (.i2l, 1) := by decide +kernel
theorem dX11_trial_127 : decode cX11_trial 127 = .ok (.lconst 1, 1) := by decide +kernel
theorem dX11_trial_128 : decode cX11_trial 128 = .ok (.ldc2_w 198, 3) := by decide +kernel
theorem dX11_trial_131 : decode cX11_trial 131 = .ok (.invokestatic 67, 3) := by decide +kernel
theorem dX11_trial_134 : decode cX11_trial 134 = .ok (.ifCond .ne 6, 3) := by decide +kernel
theorem dX11_trial_137 : decode cX11_trial 137 = .ok (.bipush (-2), 2) := by decide +kernel
theorem dX11_trial_139 : decode cX11_trial 139 = .ok (.ireturn, 1) := by decide +kernel
theorem dX11_trial_140 : decode cX11_trial 140 = .ok (.aload_n 0, 1) := by decide +kernel
theorem dX11_trial_141 : decode cX11_trial 141 = .ok (.getfield 7, 3) := by decide +kernel
theorem dX11_trial_144 : decode cX11_trial 144 = .ok (.iconst 4, 1) := by decide +kernel
theorem dX11_trial_145 : decode cX11_trial 145 = .ok (.iaload, 1) := by decide +kernel
theorem dX11_trial_146 : decode cX11_trial 146 = .ok (.bipush 10, 2) := by decide +kernel
theorem dX11_trial_148 : decode cX11_trial 148 = .ok (.if_icmp .ne 6, 3) := by decide +kernel
theorem dX11_trial_151 : decode cX11_trial 151 = .ok (.bipush (-4), 2) := by decide +kernel
theorem dX11_trial_153 : decode cX11_trial 153 = .ok (.ireturn, 1) := by decide +kernel
theorem dX11_trial_154 : decode cX11_trial 154 = .ok (.sipush 1546, 3) := by decide +kernel
theorem dX11_trial_157 : decode cX11_trial 157 = .ok (.bipush 10, 2) := by decide +kernel
theorem dX11_trial_159 : decode cX11_trial 159 = .ok (.aload_n 0, 1) := by decide +kernel
theorem dX11_trial_160 : decode cX11_trial 160 = .ok (.getfield 7, 3) := by decide +kernel
theorem dX11_trial_163 : decode cX11_trial 163 = .ok (.iconst 4, 1) := by decide +kernel
theorem dX11_trial_164 : decode cX11_trial 164 = .ok (.iaload, 1) := by decide +kernel
theorem dX11_trial_165 : decode cX11_trial 165 = .ok (.imul, 1) := by decide +kernel
theorem dX11_trial_166 : decode cX11_trial 166 = .ok (.iadd, 1) := by decide +kernel
theorem dX11_trial_167 : decode cX11_trial 167 = .ok (.istore 11, 2) := by decide +kernel
theorem dX11_trial_169 : decode cX11_trial 169 = .ok (.aload_n 0, 1) := by decide +kernel
theorem dX11_trial_170 : decode cX11_trial 170 = .ok (.getfield 7, 3) := by decide +kernel
theorem dX11_trial_173 : decode cX11_trial 173 = .ok (.iload 11, 2) := by decide +kernel
theorem dX11_trial_175 : decode cX11_trial 175 = .ok (.iload_n 1, 1) := by decide +kernel
theorem dX11_trial_176 : decode cX11_trial 176 = .ok (.iastore, 1) := by decide +kernel
theorem dX11_trial_177 : decode cX11_trial 177 = .ok (.aload_n 0, 1) := by decide +kernel
theorem dX11_trial_178 : decode cX11_trial 178 = .ok (.getfield 7, 3) := by decide +kernel
theorem dX11_trial_181 : decode cX11_trial 181 = .ok (.iload 11, 2) := by decide +kernel
theorem dX11_trial_183 : decode cX11_trial 183 = .ok (.iconst 1, 1) := by decide +kernel
theorem dX11_trial_184 : decode cX11_trial 184 = .ok (.iadd, 1) := by decide +kernel
theorem dX11_trial_185 : decode cX11_trial 185 = .ok (.iload_n 2, 1) := by decide +kernel
theorem dX11_trial_186 : decode cX11_trial 186 = .ok (.iastore, 1) := by decide +kernel
theorem dX11_trial_187 : decode cX11_trial 187 = .ok (.aload_n 0, 1) := by decide +kernel
theorem dX11_trial_188 : decode cX11_trial 188 = .ok (.getfield 7, 3) := by decide +kernel
theorem dX11_trial_191 : decode cX11_trial 191 = .ok (.iload 11, 2) := by decide +kernel
theorem dX11_trial_193 : decode cX11_trial 193 = .ok (.iconst 2, 1) := by decide +kernel
theorem dX11_trial_194 : decode cX11_trial 194 = .ok (.iadd, 1) := by decide +kernel
theorem dX11_trial_195 : decode cX11_trial 195 = .ok (.iload_n 3, 1) := by decide +kernel
theorem dX11_trial_196 : decode cX11_trial 196 = .ok (.iastore, 1) := by decide +kernel
theorem dX11_trial_197 : decode cX11_trial 197 = .ok (.aload_n 0, 1) := by decide +kernel
theorem dX11_trial_198 : decode cX11_trial 198 = .ok (.getfield 7, 3) := by decide +kernel
theorem dX11_trial_201 : decode cX11_trial 201 = .ok (.iload 11, 2) := by decide +kernel
theorem dX11_trial_203 : decode cX11_trial 203 = .ok (.iconst 3, 1) := by decide +kernel
theorem dX11_trial_204 : decode cX11_trial 204 = .ok (.iadd, 1) := by decide +kernel
theorem dX11_trial_205 : decode cX11_trial 205 = .ok (.iload 4, 2) := by decide +kernel
theorem dX11_trial_207 : decode cX11_trial 207 = .ok (.iastore, 1) := by decide +kernel
theorem dX11_trial_208 : decode cX11_trial 208 = .ok (.aload_n 0, 1) := by decide +kernel
theorem dX11_trial_209 : decode cX11_trial 209 = .ok (.getfield 7, 3) := by decide +kernel
theorem dX11_trial_212 : decode cX11_trial 212 = .ok (.iload 11, 2) := by decide +kernel
theorem dX11_trial_214 : decode cX11_trial 214 = .ok (.iconst 3, 1) := by decide +kernel
theorem dX11_trial_215 : decode cX11_trial 215 = .ok (.iadd, 1) := by decide +kernel
theorem dX11_trial_216 : decode cX11_trial 216 = .ok (.iconst 1, 1) := by decide +kernel
theorem dX11_trial_217 : decode cX11_trial 217 = .ok (.iadd, 1) := by decide +kernel
theorem dX11_trial_218 : decode cX11_trial 218 = .ok (.iload 5, 2) := by decide +kernel
theorem dX11_trial_220 : decode cX11_trial 220 = .ok (.iastore, 1) := by decide +kernel
theorem dX11_trial_221 : decode cX11_trial 221 = .ok (.aload_n 0, 1) := by decide +kernel
theorem dX11_trial_222 : decode cX11_trial 222 = .ok (.getfield 7, 3) := by decide +kernel
theorem dX11_trial_225 : decode cX11_trial 225 = .ok (.iload 11, 2) := by decide +kernel
theorem dX11_trial_227 : decode cX11_trial 227 = .ok (.iconst 5, 1) := by decide +kernel
theorem dX11_trial_228 : decode cX11_trial 228 = .ok (.iadd, 1) := by decide +kernel
theorem dX11_trial_229 : decode cX11_trial 229 = .ok (.iload 6, 2) := by decide +kernel
theorem dX11_trial_231 : decode cX11_trial 231 = .ok (.iastore, 1) := by decide +kernel
theorem dX11_trial_232 : decode cX11_trial 232 = .ok (.aload_n 0, 1) := by decide +kernel
theorem dX11_trial_233 : decode cX11_trial 233 = .ok (.getfield 7, 3) := by decide +kernel
theorem dX11_trial_236 : decode cX11_trial 236 = .ok (.iload 11, 2) := by decide +kernel
theorem dX11_trial_238 : decode cX11_trial 238 = .ok (.bipush 6, 2) := by decide +kernel
theorem dX11_trial_240 : decode cX11_trial 240 = .ok (.iadd, 1) := by decide +kernel
theorem dX11_trial_241 : decode cX11_trial 241 = .ok (.iload 7, 2) := by decide +kernel
theorem dX11_trial_243 : decode cX11_trial 243 = .ok (.iastore, 1) := by decide +kernel
theorem dX11_trial_244 : decode cX11_trial 244 = .ok (.aload_n 0, 1) := by decide +kernel
theorem dX11_trial_245 : decode cX11_trial 245 = .ok (.getfield 7, 3) := by decide +kernel
theorem dX11_trial_248 : decode cX11_trial 248 = .ok (.iload 11, 2) := by decide +kernel
theorem dX11_trial_250 : decode cX11_trial 250 = .ok (.bipush 7, 2) := by decide +kernel
theorem dX11_trial_252 : decode cX11_trial 252 = .ok (.iadd, 1) := by decide +kernel
theorem dX11_trial_253 : decode cX11_trial 253 = .ok (.iload 8, 2) := by decide +kernel
theorem dX11_trial_255 : decode cX11_trial 255 = .ok (.iastore, 1) := by decide +kernel
theorem dX11_trial_256 : decode cX11_trial 256 = .ok (.aload_n 0, 1) := by decide +kernel
theorem dX11_trial_257 : decode cX11_trial 257 = .ok (.getfield 7, 3) := by decide +kernel
theorem dX11_trial_260 : decode cX11_trial 260 = .ok (.iload 11, 2) := by decide +kernel
theorem dX11_trial_262 : decode cX11_trial 262 = .ok (.bipush 8, 2) := by decide +kernel
theorem dX11_trial_264 : decode cX11_trial 264 = .ok (.iadd, 1) := by decide +kernel
theorem dX11_trial_265 : decode cX11_trial 265 = .ok (.iload 9, 2) := by decide +kernel
theorem dX11_trial_267 : decode cX11_trial 267 = .ok (.iastore, 1) := by decide +kernel
theorem dX11_trial_268 : decode cX11_trial 268 = .ok (.aload_n 0, 1) := by decide +kernel
theorem dX11_trial_269 : decode cX11_trial 269 = .ok (.getfield 7, 3) := by decide +kernel
theorem dX11_trial_272 : decode cX11_trial 272 = .ok (.iload 11, 2) := by decide +kernel
theorem dX11_trial_274 : decode cX11_trial 274 = .ok (.bipush 9, 2) := by decide +kernel
theorem dX11_trial_276 : decode cX11_trial 276 = .ok (.iadd, 1) := by decide +kernel
theorem dX11_trial_277 : decode cX11_trial 277 = .ok (.iconst 0, 1) := by decide +kernel
theorem dX11_trial_278 : decode cX11_trial 278 = .ok (.iastore, 1) := by decide +kernel
theorem dX11_trial_279 : decode cX11_trial 279 = .ok (.iconst 0, 1) := by decide +kernel
theorem dX11_trial_280 : decode cX11_trial 280 = .ok (.istore 12, 2) := by decide +kernel
theorem dX11_trial_282 : decode cX11_trial 282 = .ok (.iload 12, 2) := by decide +kernel
theorem dX11_trial_284 : decode cX11_trial 284 = .ok (.bipush 60, 2) := by decide +kernel
theorem dX11_trial_286 : decode cX11_trial 286 = .ok (.if_icmp .ge 31, 3) := by decide +kernel
theorem dX11_trial_289 : decode cX11_trial 289 = .ok (.aload_n 0, 1) := by decide +kernel
theorem dX11_trial_290 : decode cX11_trial 290 = .ok (.getfield 7, 3) := by decide +kernel
theorem dX11_trial_293 : decode cX11_trial 293 = .ok (.sipush 1646, 3) := by decide +kernel
theorem dX11_trial_296 : decode cX11_trial 296 = .ok (.bipush 60, 2) := by decide +kernel
theorem dX11_trial_298 : decode cX11_trial 298 = .ok (.aload_n 0, 1) := by decide +kernel
theorem dX11_trial_299 : decode cX11_trial 299 = .ok (.getfield 7, 3) := by decide +kernel
theorem dX11_trial_302 : decode cX11_trial 302 = .ok (.iconst 4, 1) := by decide +kernel
theorem dX11_trial_303 : decode cX11_trial 303 = .ok (.iaload, 1) := by decide +kernel
theorem dX11_trial_304 : decode cX11_trial 304 = .ok (.imul, 1) := by decide +kernel
theorem dX11_trial_305 : decode cX11_trial 305 = .ok (.iadd, 1) := by decide +kernel
theorem dX11_trial_306 : decode cX11_trial 306 = .ok (.iload 12, 2) := by decide +kernel
theorem dX11_trial_308 : decode cX11_trial 308 = .ok (.iadd, 1) := by decide +kernel
theorem dX11_trial_309 : decode cX11_trial 309 = .ok (.iconst 0, 1) := by decide +kernel
theorem dX11_trial_310 : decode cX11_trial 310 = .ok (.iastore, 1) := by decide +kernel
theorem dX11_trial_311 : decode cX11_trial 311 = .ok (.iinc 12 1, 3) := by decide +kernel
theorem dX11_trial_314 : decode cX11_trial 314 = .ok (.goto (-32), 3) := by decide +kernel
theorem dX11_trial_317 : decode cX11_trial 317 = .ok (.aload_n 0, 1) := by decide +kernel
theorem dX11_trial_318 : decode cX11_trial 318 = .ok (.iconst 4, 1) := by decide +kernel
theorem dX11_trial_319 : decode cX11_trial 319 = .ok (.invokevirtual 83, 3) := by decide +kernel
theorem dX11_trial_322 : decode cX11_trial 322 = .ok (.ireturn, 1) := by decide +kernel
theorem dX11_away_0 : decode cX11_away 0 = .ok (.aload_n 0, 1) := by decide +kernel
theorem dX11_away_1 : decode cX11_away 1 = .ok (.iconst 4, 1) := by decide +kernel
theorem dX11_away_2 : decode cX11_away 2 = .ok (.iload_n 1, 1) := by decide +kernel
theorem dX11_away_3 : decode cX11_away 3 = .ok (.invokevirtual 87, 3) := by decide +kernel
theorem dX11_away_6 : decode cX11_away 6 = .ok (.ifCond .eq 12, 3) := by decide +kernel
theorem dX11_away_9 : decode cX11_away 9 = .ok (.aload_n 0, 1) := by decide +kernel
theorem dX11_away_10 : decode cX11_away 10 = .ok (.iconst 0, 1) := by decide +kernel
theorem dX11_away_11 : decode cX11_away 11 = .ok (.iload_n 2, 1) := by decide +kernel
theorem dX11_away_12 : decode cX11_away 12 = .ok (.invokevirtual 87, 3) := by decide +kernel
theorem dX11_away_15 : decode cX11_away 15 = .ok (.ifCond .ne 6, 3) := by decide +kernel
theorem dX11_away_18 : decode cX11_away 18 = .ok (.bipush (-2), 2) := by decide +kernel
theorem dX11_away_20 : decode cX11_away 20 = .ok (.ireturn, 1) := by decide +kernel
theorem dX11_away_21 : decode cX11_away 21 = .ok (.sipush 1546, 3) := by decide +kernel
theorem dX11_away_24 : decode cX11_away 24 = .ok (.bipush 10, 2) := by decide +kernel
theorem dX11_away_26 : decode cX11_away 26 = .ok (.iload_n 1, 1) := by decide +kernel
theorem dX11_away_27 : decode cX11_away 27 = .ok (.imul, 1) := by decide +kernel
theorem dX11_away_28 : decode cX11_away 28 = .ok (.iadd, 1) := by decide +kernel
theorem dX11_away_29 : decode cX11_away 29 = .ok (.bipush 9, 2) := by decide +kernel
theorem dX11_away_31 : decode cX11_away 31 = .ok (.iadd, 1) := by decide +kernel
theorem dX11_away_32 : decode cX11_away 32 = .ok (.istore 4, 2) := by decide +kernel
theorem dX11_away_34 : decode cX11_away 34 = .ok (.aload_n 0, 1) := by decide +kernel
theorem dX11_away_35 : decode cX11_away 35 = .ok (.getfield 7, 3) := by decide +kernel
theorem dX11_away_38 : decode cX11_away 38 = .ok (.iload 4, 2) := by decide +kernel
theorem dX11_away_40 : decode cX11_away 40 = .ok (.iaload, 1) := by decide +kernel
theorem dX11_away_41 : decode cX11_away 41 = .ok (.iload_n 2, 1) := by decide +kernel
theorem dX11_away_42 : decode cX11_away 42 = .ok (.ishr, 1) := by decide +kernel
theorem dX11_away_43 : decode cX11_away 43 = .ok (.iconst 1, 1) := by decide +kernel
theorem dX11_away_44 : decode cX11_away 44 = .ok (.iand, 1) := by decide +kernel
theorem dX11_away_45 : decode cX11_away 45 = .ok (.iconst 1, 1) := by decide +kernel
theorem dX11_away_46 : decode cX11_away 46 = .ok (.if_icmp .ne 7, 3) := by decide +kernel
theorem dX11_away_49 : decode cX11_away 49 = .ok (.iconst 1, 1) := by decide +kernel
theorem dX11_away_50 : decode cX11_away 50 = .ok (.goto 4, 3) := by decide +kernel
theorem dX11_away_53 : decode cX11_away 53 = .ok (.iconst 0, 1) := by decide +kernel
theorem dX11_away_54 : decode cX11_away 54 = .ok (.iload_n 3, 1) := by decide +kernel
theorem dX11_away_55 : decode cX11_away 55 = .ok (.if_icmp .ne 6, 3) := by decide +kernel
theorem dX11_away_58 : decode cX11_away 58 = .ok (.bipush (-3), 2) := by decide +kernel
theorem dX11_away_60 : decode cX11_away 60 = .ok (.ireturn, 1) := by decide +kernel
theorem dX11_away_61 : decode cX11_away 61 = .ok (.aload_n 0, 1) := by decide +kernel
theorem dX11_away_62 : decode cX11_away 62 = .ok (.getfield 7, 3) := by decide +kernel
theorem dX11_away_65 : decode cX11_away 65 = .ok (.iload 4, 2) := by decide +kernel
theorem dX11_away_67 : decode cX11_away 67 = .ok (.dup2, 1) := by decide +kernel
theorem dX11_away_68 : decode cX11_away 68 = .ok (.iaload, 1) := by decide +kernel
theorem dX11_away_69 : decode cX11_away 69 = .ok (.iconst 1, 1) := by decide +kernel
theorem dX11_away_70 : decode cX11_away 70 = .ok (.iload_n 2, 1) := by decide +kernel
theorem dX11_away_71 : decode cX11_away 71 = .ok (.ishl, 1) := by decide +kernel
theorem dX11_away_72 : decode cX11_away 72 = .ok (.ixor, 1) := by decide +kernel
theorem dX11_away_73 : decode cX11_away 73 = .ok (.iastore, 1) := by decide +kernel
theorem dX11_away_74 : decode cX11_away 74 = .ok (.aload_n 0, 1) := by decide +kernel
theorem dX11_away_75 : decode cX11_away 75 = .ok (.iconst 0, 1) := by decide +kernel
theorem dX11_away_76 : decode cX11_away 76 = .ok (.putfield 71, 3) := by decide +kernel
theorem dX11_away_79 : decode cX11_away 79 = .ok (.iconst 1, 1) := by decide +kernel
theorem dX11_away_80 : decode cX11_away 80 = .ok (.ireturn, 1) := by decide +kernel
theorem dX11_like_0 : decode cX11_like 0 = .ok (.aload_n 0, 1) := by decide +kernel
theorem dX11_like_1 : decode cX11_like 1 = .ok (.iconst 4, 1) := by decide +kernel
theorem dX11_like_2 : decode cX11_like 2 = .ok (.iload_n 1, 1) := by decide +kernel
theorem dX11_like_3 : decode cX11_like 3 = .ok (.invokevirtual 87, 3) := by decide +kernel
theorem dX11_like_6 : decode cX11_like 6 = .ok (.ifCond .eq 37, 3) := by decide +kernel
theorem dX11_like_9 : decode cX11_like 9 = .ok (.iload_n 2, 1) := by decide +kernel
theorem dX11_like_10 : decode cX11_like 10 = .ok (.i2l, 1) := by decide +kernel
theorem dX11_like_11 : decode cX11_like 11 = .ok (.lconst 0, 1) := by decide +kernel
theorem dX11_like_12 : decode cX11_like 12 = .ok (.lconst 1, 1) := by decide +kernel
theorem dX11_like_13 : decode cX11_like 13 = .ok (.invokestatic 67, 3) := by decide +kernel
theorem dX11_like_16 : decode cX11_like 16 = .ok (.ifCond .eq 27, 3) := by decide +kernel
theorem dX11_like_19 : decode cX11_like 19 = .ok (.aload_n 0, 1) := by decide +kernel
theorem dX11_like_20 : decode cX11_like 20 = .ok (.iconst 0, 1) := by decide +kernel
theorem dX11_like_21 : decode cX11_like 21 = .ok (.iload_n 3, 1) := by decide +kernel
theorem dX11_like_22 : decode cX11_like 22 = .ok (.invokevirtual 87, 3) := by decide +kernel
theorem dX11_like_25 : decode cX11_like 25 = .ok (.ifCond .eq 18, 3) := by decide +kernel
theorem dX11_like_28 : decode cX11_like 28 = .ok (.iload 4, 2) := by decide +kernel
theorem dX11_like_30 : decode cX11_like 30 = .ok (.i2l, 1) := by decide +kernel
theorem dX11_like_31 : decode cX11_like 31 = .ok (.ldc2_w 200, 3) := by decide +kernel
theorem dX11_like_34 : decode cX11_like 34 = .ok (.ldc2_w 202, 3) := by decide +kernel
theorem dX11_like_37 : decode cX11_like 37 = .ok (.invokestatic 67, 3) := by decide +kernel
theorem dX11_like_40 : decode cX11_like 40 = .ok (.ifCond .ne 7, 3) := by decide +kernel
theorem dX11_like_43 : decode cX11_like 43 = .ok (.sipush (-1000), 3) := by decide +kernel
theorem dX11_like_46 : decode cX11_like 46 = .ok (.ireturn, 1) := by decide +kernel
theorem dX11_like_47 : decode cX11_like 47 = .ok (.sipush 1646, 3) := by decide +kernel
theorem dX11_like_50 : decode cX11_like 50 = .ok (.bipush 60, 2) := by decide +kernel
theorem dX11_like_52 : decode cX11_like 52 = .ok (.iload_n 1, 1) := by decide +kernel
theorem dX11_like_53 : decode cX11_like 53 = .ok (.imul, 1) := by decide +kernel
theorem dX11_like_54 : decode cX11_like 54 = .ok (.iadd, 1) := by decide +kernel
theorem dX11_like_55 : decode cX11_like 55 = .ok (.bipush 30, 2) := by decide +kernel
theorem dX11_like_57 : decode cX11_like 57 = .ok (.iload_n 2, 1) := by decide +kernel
theorem dX11_like_58 : decode cX11_like 58 = .ok (.imul, 1) := by decide +kernel
theorem dX11_like_59 : decode cX11_like 59 = .ok (.iadd, 1) := by decide +kernel
theorem dX11_like_60 : decode cX11_like 60 = .ok (.iload_n 3, 1) := by decide +kernel
theorem dX11_like_61 : decode cX11_like 61 = .ok (.iadd, 1) := by decide +kernel
theorem dX11_like_62 : decode cX11_like 62 = .ok (.istore 5, 2) := by decide +kernel
theorem dX11_like_64 : decode cX11_like 64 = .ok (.aload_n 0, 1) := by decide +kernel
theorem dX11_like_65 : decode cX11_like 65 = .ok (.getfield 7, 3) := by decide +kernel
theorem dX11_like_68 : decode cX11_like 68 = .ok (.iload 5, 2) := by decide +kernel
theorem dX11_like_70 : decode cX11_like 70 = .ok (.iaload, 1) := by decide +kernel
theorem dX11_like_71 : decode cX11_like 71 = .ok (.istore 6, 2) := by decide +kernel
theorem dX11_like_73 : decode cX11_like 73 = .ok (.aload_n 0, 1) := by decide +kernel
theorem dX11_like_74 : decode cX11_like 74 = .ok (.getfield 7, 3) := by decide +kernel
theorem dX11_like_77 : decode cX11_like 77 = .ok (.iload 5, 2) := by decide +kernel
theorem dX11_like_79 : decode cX11_like 79 = .ok (.iload 4, 2) := by decide +kernel
theorem dX11_like_81 : decode cX11_like 81 = .ok (.iastore, 1) := by decide +kernel
theorem dX11_like_82 : decode cX11_like 82 = .ok (.aload_n 0, 1) := by decide +kernel
theorem dX11_like_83 : decode cX11_like 83 = .ok (.iconst 0, 1) := by decide +kernel
theorem dX11_like_84 : decode cX11_like 84 = .ok (.putfield 71, 3) := by decide +kernel
theorem dX11_like_87 : decode cX11_like 87 = .ok (.iload 6, 2) := by decide +kernel
theorem dX11_like_89 : decode cX11_like 89 = .ok (.ireturn, 1) := by decide +kernel
theorem dX11_kinOf_0 : decode cX11_kinOf 0 = .ok (.iconst 0, 1) := by decide +kernel
theorem dX11_kinOf_1 : decode cX11_kinOf 1 = .ok (.istore_n 3, 1) := by decide +kernel
theorem dX11_kinOf_2 : decode cX11_kinOf 2 = .ok (.iconst 0, 1) := by decide +kernel
theorem dX11_kinOf_3 : decode cX11_kinOf 3 = .ok (.istore 4, 2) := by decide +kernel
theorem dX11_kinOf_5 : decode cX11_kinOf 5 = .ok (.iload 4, 2) := by decide +kernel
theorem dX11_kinOf_7 : decode cX11_kinOf 7 = .ok (.aload_n 0, 1) := by decide +kernel
theorem dX11_kinOf_8 : decode cX11_kinOf 8 = .ok (.getfield 7, 3) := by decide +kernel
theorem dX11_kinOf_11 : decode cX11_kinOf 11 = .ok (.iconst 1, 1) := by decide +kernel
theorem dX11_kinOf_12 : decode cX11_kinOf 12 = .ok (.iaload, 1) := by decide +kernel
theorem dX11_kinOf_13 : decode cX11_kinOf 13 = .ok (.if_icmp .ge 96, 3) := by decide +kernel
theorem dX11_kinOf_16 : decode cX11_kinOf 16 = .ok (.sipush 130, 3) := by decide +kernel
theorem dX11_kinOf_19 : decode cX11_kinOf 19 = .ok (.iconst 3, 1) := by decide +kernel
theorem dX11_kinOf_20 : decode cX11_kinOf 20 = .ok (.iload 4, 2) := by decide +kernel
theorem dX11_kinOf_22 : decode cX11_kinOf 22 = .ok (.imul, 1) := by decide +kernel
theorem dX11_kinOf_23 : decode cX11_kinOf 23 = .ok (.iadd, 1) := by decide +kernel
theorem dX11_kinOf_24 : decode cX11_kinOf 24 = .ok (.istore 5, 2) := by decide +kernel
theorem dX11_kinOf_26 : decode cX11_kinOf 26 = .ok (.aload_n 0, 1) := by decide +kernel
theorem dX11_kinOf_27 : decode cX11_kinOf 27 = .ok (.getfield 7, 3) := by decide +kernel
theorem dX11_kinOf_30 : decode cX11_kinOf 30 = .ok (.iload 5, 2) := by decide +kernel
theorem dX11_kinOf_32 : decode cX11_kinOf 32 = .ok (.iconst 1, 1) := by decide +kernel
theorem dX11_kinOf_33 : decode cX11_kinOf 33 = .ok (.iadd, 1) := by decide +kernel
theorem dX11_kinOf_34 : decode cX11_kinOf 34 = .ok (.iaload, 1) := by decide +kernel
theorem dX11_kinOf_35 : decode cX11_kinOf 35 = .ok (.aload_n 0, 1) := by decide +kernel
theorem dX11_kinOf_36 : decode cX11_kinOf 36 = .ok (.iload_n 1, 1) := by decide +kernel
theorem dX11_kinOf_37 : decode cX11_kinOf 37 = .ok (.iconst 3, 1) := by decide +kernel
theorem dX11_kinOf_38 : decode cX11_kinOf 38 = .ok (.invokevirtual 149, 3) := by decide +kernel
theorem dX11_kinOf_41 : decode cX11_kinOf 41 = .ok (.if_icmp .eq 21, 3) := by decide +kernel
theorem dX11_kinOf_44 : decode cX11_kinOf 44 = .ok (.aload_n 0, 1) := by decide +kernel
theorem dX11_kinOf_45 : decode cX11_kinOf 45 = .ok (.getfield 7, 3) := by decide +kernel
theorem dX11_kinOf_48 : decode cX11_kinOf 48 = .ok (.iload 5, 2) := by decide +kernel
theorem dX11_kinOf_50 : decode cX11_kinOf 50 = .ok (.iconst 1, 1) := by decide +kernel
theorem dX11_kinOf_51 : decode cX11_kinOf 51 = .ok (.iadd, 1) := by decide +kernel
theorem dX11_kinOf_52 : decode cX11_kinOf 52 = .ok (.iaload, 1) := by decide +kernel
theorem dX11_kinOf_53 : decode cX11_kinOf 53 = .ok (.aload_n 0, 1) := by decide +kernel
theorem dX11_kinOf_54 : decode cX11_kinOf 54 = .ok (.iload_n 1, 1) := by decide +kernel
theorem dX11_kinOf_55 : decode cX11_kinOf 55 = .ok (.iconst 4, 1) := by decide +kernel
theorem dX11_kinOf_56 : decode cX11_kinOf 56 = .ok (.invokevirtual 149, 3) := by decide +kernel
theorem dX11_kinOf_59 : decode cX11_kinOf 59 = .ok (.if_icmp .ne 7, 3) := by decide +kernel
theorem dX11_kinOf_62 : decode cX11_kinOf 62 = .ok (.iconst 1, 1) := by decide +kernel
theorem dX11_kinOf_63 : decode cX11_kinOf 63 = .ok (.goto 4, 3) := by decide +kernel
theorem dX11_kinOf_66 : decode cX11_kinOf 66 = .ok (.iconst 0, 1) := by decide +kernel
theorem dX11_kinOf_67 : decode cX11_kinOf 67 = .ok (.istore 6, 2) := by decide +kernel
theorem dX11_kinOf_69 : decode cX11_kinOf 69 = .ok (.iload_n 3, 1) := by decide +kernel
theorem dX11_kinOf_70 : decode cX11_kinOf 70 = .ok (.iload 6, 2) := by decide +kernel
theorem dX11_kinOf_72 : decode cX11_kinOf 72 = .ok (.ifCond .eq 28, 3) := by decide +kernel
theorem dX11_kinOf_75 : decode cX11_kinOf 75 = .ok (.aload_n 0, 1) := by decide +kernel
theorem dX11_kinOf_76 : decode cX11_kinOf 76 = .ok (.getfield 7, 3) := by decide +kernel
theorem dX11_kinOf_79 : decode cX11_kinOf 79 = .ok (.iload 5, 2) := by decide +kernel
theorem dX11_kinOf_81 : decode cX11_kinOf 81 = .ok (.iconst 2, 1) := by decide +kernel
theorem dX11_kinOf_82 : decode cX11_kinOf 82 = .ok (.iadd, 1) := by decide +kernel
theorem dX11_kinOf_83 : decode cX11_kinOf 83 = .ok (.iaload, 1) := by decide +kernel
theorem dX11_kinOf_84 : decode cX11_kinOf 84 = .ok (.iload_n 2, 1) := by decide +kernel
theorem dX11_kinOf_85 : decode cX11_kinOf 85 = .ok (.if_icmp .gt 15, 3) := by decide +kernel
theorem dX11_kinOf_88 : decode cX11_kinOf 88 = .ok (.iconst 1, 1) := by decide +kernel
theorem dX11_kinOf_89 : decode cX11_kinOf 89 = .ok (.aload_n 0, 1) := by decide +kernel
theorem dX11_kinOf_90 : decode cX11_kinOf 90 = .ok (.getfield 7, 3) := by decide +kernel
theorem dX11_kinOf_93 : decode cX11_kinOf 93 = .ok (.iload 5, 2) := by decide +kernel
theorem dX11_kinOf_95 : decode cX11_kinOf 95 = .ok (.iaload, 1) := by decide +kernel
theorem dX11_kinOf_96 : decode cX11_kinOf 96 = .ok (.ishl, 1) := by decide +kernel
theorem dX11_kinOf_97 : decode cX11_kinOf 97 = .ok (.goto 4, 3) := by decide +kernel
theorem dX11_kinOf_100 : decode cX11_kinOf 100 = .ok (.iconst 0, 1) := by decide +kernel
theorem dX11_kinOf_101 : decode cX11_kinOf 101 = .ok (.ior, 1) := by decide +kernel
theorem dX11_kinOf_102 : decode cX11_kinOf 102 = .ok (.istore_n 3, 1) := by decide +kernel
theorem dX11_kinOf_103 : decode cX11_kinOf 103 = .ok (.iinc 4 1, 3) := by decide +kernel
theorem dX11_kinOf_106 : decode cX11_kinOf 106 = .ok (.goto (-101), 3) := by decide +kernel
theorem dX11_kinOf_109 : decode cX11_kinOf 109 = .ok (.iload_n 3, 1) := by decide +kernel
theorem dX11_kinOf_110 : decode cX11_kinOf 110 = .ok (.ireturn, 1) := by decide +kernel
theorem dX11_sitting_0 : decode cX11_sitting 0 = .ok (.iconst 0, 1) := by decide +kernel
theorem dX11_sitting_1 : decode cX11_sitting 1 = .ok (.istore_n 2, 1) := by decide +kernel
theorem dX11_sitting_2 : decode cX11_sitting 2 = .ok (.iconst 0, 1) := by decide +kernel
theorem dX11_sitting_3 : decode cX11_sitting 3 = .ok (.istore_n 3, 1) := by decide +kernel
theorem dX11_sitting_4 : decode cX11_sitting 4 = .ok (.iload_n 3, 1) := by decide +kernel
theorem dX11_sitting_5 : decode cX11_sitting 5 = .ok (.iload_n 1, 1) := by decide +kernel
theorem dX11_sitting_6 : decode cX11_sitting 6 = .ok (.if_icmp .ge 78, 3) := by decide +kernel
theorem dX11_sitting_9 : decode cX11_sitting 9 = .ok (.aload_n 0, 1) := by decide +kernel
theorem dX11_sitting_10 : decode cX11_sitting 10 = .ok (.iload_n 3, 1) := by decide +kernel
theorem dX11_sitting_11 : decode cX11_sitting 11 = .ok (.iconst 0, 1) := by decide +kernel
theorem dX11_sitting_12 : decode cX11_sitting 12 = .ok (.invokevirtual 149, 3) := by decide +kernel
theorem dX11_sitting_15 : decode cX11_sitting 15 = .ok (.aload_n 0, 1) := by decide +kernel
theorem dX11_sitting_16 : decode cX11_sitting 16 = .ok (.iload_n 1, 1) := by decide +kernel
theorem dX11_sitting_17 : decode cX11_sitting 17 = .ok (.iconst 0, 1) := by decide +kernel
theorem dX11_sitting_18 : decode cX11_sitting 18 = .ok (.invokevirtual 149, 3) := by decide +kernel
theorem dX11_sitting_21 : decode cX11_sitting 21 = .ok (.aload_n 0, 1) := by decide +kernel
theorem dX11_sitting_22 : decode cX11_sitting 22 = .ok (.iload_n 1, 1) := by decide +kernel
theorem dX11_sitting_23 : decode cX11_sitting 23 = .ok (.iconst 1, 1) := by decide +kernel
theorem dX11_sitting_24 : decode cX11_sitting 24 = .ok (.invokevirtual 149, 3) := by decide +kernel
theorem dX11_sitting_27 : decode cX11_sitting 27 = .ok (.iadd, 1) := by decide +kernel
theorem dX11_sitting_28 : decode cX11_sitting 28 = .ok (.if_icmp .ge 29, 3) := by decide +kernel
theorem dX11_sitting_31 : decode cX11_sitting 31 = .ok (.aload_n 0, 1) := by decide +kernel
theorem dX11_sitting_32 : decode cX11_sitting 32 = .ok (.iload_n 1, 1) := by decide +kernel
theorem dX11_sitting_33 : decode cX11_sitting 33 = .ok (.iconst 0, 1) := by decide +kernel
theorem dX11_sitting_34 : decode cX11_sitting 34 = .ok (.invokevirtual 149, 3) := by decide +kernel
theorem dX11_sitting_37 : decode cX11_sitting 37 = .ok (.aload_n 0, 1) := by decide +kernel
theorem dX11_sitting_38 : decode cX11_sitting 38 = .ok (.iload_n 3, 1) := by decide +kernel
theorem dX11_sitting_39 : decode cX11_sitting 39 = .ok (.iconst 0, 1) := by decide +kernel
theorem dX11_sitting_40 : decode cX11_sitting 40 = .ok (.invokevirtual 149, 3) := by decide +kernel
theorem dX11_sitting_43 : decode cX11_sitting 43 = .ok (.aload_n 0, 1) := by decide +kernel
theorem dX11_sitting_44 : decode cX11_sitting 44 = .ok (.iload_n 3, 1) := by decide +kernel
theorem dX11_sitting_45 : decode cX11_sitting 45 = .ok (.iconst 1, 1) := by decide +kernel
theorem dX11_sitting_46 : decode cX11_sitting 46 = .ok (.invokevirtual 149, 3) := by decide +kernel
theorem dX11_sitting_49 : decode cX11_sitting 49 = .ok (.iadd, 1) := by decide +kernel
theorem dX11_sitting_50 : decode cX11_sitting 50 = .ok (.if_icmp .ge 7, 3) := by decide +kernel
theorem dX11_sitting_53 : decode cX11_sitting 53 = .ok (.iconst 1, 1) := by decide +kernel
theorem dX11_sitting_54 : decode cX11_sitting 54 = .ok (.goto 4, 3) := by decide +kernel
theorem dX11_sitting_57 : decode cX11_sitting 57 = .ok (.iconst 0, 1) := by decide +kernel
theorem dX11_sitting_58 : decode cX11_sitting 58 = .ok (.istore 4, 2) := by decide +kernel
theorem dX11_sitting_60 : decode cX11_sitting 60 = .ok (.iload_n 2, 1) := by decide +kernel
theorem dX11_sitting_61 : decode cX11_sitting 61 = .ok (.iload 4, 2) := by decide +kernel
theorem dX11_sitting_63 : decode cX11_sitting 63 = .ok (.ifCond .eq 12, 3) := by decide +kernel
theorem dX11_sitting_66 : decode cX11_sitting 66 = .ok (.aload_n 0, 1) := by decide +kernel
theorem dX11_sitting_67 : decode cX11_sitting 67 = .ok (.getfield 36, 3) := by decide +kernel
theorem dX11_sitting_70 : decode cX11_sitting 70 = .ok (.iload_n 3, 1) := by decide +kernel
theorem dX11_sitting_71 : decode cX11_sitting 71 = .ok (.iaload, 1) := by decide +kernel
theorem dX11_sitting_72 : decode cX11_sitting 72 = .ok (.goto 4, 3) := by decide +kernel
theorem dX11_sitting_75 : decode cX11_sitting 75 = .ok (.iconst 0, 1) := by decide +kernel
theorem dX11_sitting_76 : decode cX11_sitting 76 = .ok (.ior, 1) := by decide +kernel
theorem dX11_sitting_77 : decode cX11_sitting 77 = .ok (.istore_n 2, 1) := by decide +kernel
theorem dX11_sitting_78 : decode cX11_sitting 78 = .ok (.iinc 3 1, 3) := by decide +kernel
theorem dX11_sitting_81 : decode cX11_sitting 81 = .ok (.goto (-77), 3) := by decide +kernel
theorem dX11_sitting_84 : decode cX11_sitting 84 = .ok (.iload_n 2, 1) := by decide +kernel
theorem dX11_sitting_85 : decode cX11_sitting 85 = .ok (.ireturn, 1) := by decide +kernel
theorem dX11_draws_0 : decode cX11_draws 0 = .ok (.iconst 0, 1) := by decide +kernel
theorem dX11_draws_1 : decode cX11_draws 1 = .ok (.istore_n 3, 1) := by decide +kernel
theorem dX11_draws_2 : decode cX11_draws 2 = .ok (.iconst 0, 1) := by decide +kernel
theorem dX11_draws_3 : decode cX11_draws 3 = .ok (.istore 4, 2) := by decide +kernel
theorem dX11_draws_5 : decode cX11_draws 5 = .ok (.iload 4, 2) := by decide +kernel
theorem dX11_draws_7 : decode cX11_draws 7 = .ok (.bipush 30, 2) := by decide +kernel
theorem dX11_draws_9 : decode cX11_draws 9 = .ok (.if_icmp .ge 35, 3) := by decide +kernel
theorem dX11_draws_12 : decode cX11_draws 12 = .ok (.aload_n 0, 1) := by decide +kernel
theorem dX11_draws_13 : decode cX11_draws 13 = .ok (.getfield 33, 3) := by decide +kernel
theorem dX11_draws_16 : decode cX11_draws 16 = .ok (.iload_n 2, 1) := by decide +kernel
theorem dX11_draws_17 : decode cX11_draws 17 = .ok (.iaload, 1) := by decide +kernel
theorem dX11_draws_18 : decode cX11_draws 18 = .ok (.iload 4, 2) := by decide +kernel
theorem dX11_draws_20 : decode cX11_draws 20 = .ok (.ishr, 1) := by decide +kernel
theorem dX11_draws_21 : decode cX11_draws 21 = .ok (.iconst 1, 1) := by decide +kernel
theorem dX11_draws_22 : decode cX11_draws 22 = .ok (.iand, 1) := by decide +kernel
theorem dX11_draws_23 : decode cX11_draws 23 = .ok (.iconst 1, 1) := by decide +kernel
theorem dX11_draws_24 : decode cX11_draws 24 = .ok (.if_icmp .ne 14, 3) := by decide +kernel
theorem dX11_draws_27 : decode cX11_draws 27 = .ok (.aload_n 0, 1) := by decide +kernel
theorem dX11_draws_28 : decode cX11_draws 28 = .ok (.getfield 51, 3) := by decide +kernel
theorem dX11_draws_31 : decode cX11_draws 31 = .ok (.iload_n 3, 1) := by decide +kernel
theorem dX11_draws_32 : decode cX11_draws 32 = .ok (.iload 4, 2) := by decide +kernel
theorem dX11_draws_34 : decode cX11_draws 34 = .ok (.iastore, 1) := by decide +kernel
theorem dX11_draws_35 : decode cX11_draws 35 = .ok (.iinc 3 1, 3) := by decide +kernel
theorem dX11_draws_38 : decode cX11_draws 38 = .ok (.iinc 4 1, 3) := by decide +kernel
theorem dX11_draws_41 : decode cX11_draws 41 = .ok (.goto (-36), 3) := by decide +kernel
theorem dX11_draws_44 : decode cX11_draws 44 = .ok (.aload_n 0, 1) := by decide +kernel
theorem dX11_draws_45 : decode cX11_draws 45 = .ok (.iload_n 1, 1) := by decide +kernel
theorem dX11_draws_46 : decode cX11_draws 46 = .ok (.bipush 7, 2) := by decide +kernel
theorem dX11_draws_48 : decode cX11_draws 48 = .ok (.invokevirtual 149, 3) := by decide +kernel
theorem dX11_draws_51 : decode cX11_draws 51 = .ok (.istore 4, 2) := by decide +kernel
theorem dX11_draws_53 : decode cX11_draws 53 = .ok (.aload_n 0, 1) := by decide +kernel
theorem dX11_draws_54 : decode cX11_draws 54 = .ok (.getfield 42, 3) := by decide +kernel
theorem dX11_draws_57 : decode cX11_draws 57 = .ok (.iload_n 2, 1) := by decide +kernel
theorem dX11_draws_58 : decode cX11_draws 58 = .ok (.iconst 0, 1) := by decide +kernel
theorem dX11_draws_59 : decode cX11_draws 59 = .ok (.iastore, 1) := by decide +kernel
theorem dX11_draws_60 : decode cX11_draws 60 = .ok (.iload_n 3, 1) := by decide +kernel
theorem dX11_draws_61 : decode cX11_draws 61 = .ok (.ifCond .le 113, 3) := by decide +kernel
theorem dX11_draws_64 : decode cX11_draws 64 = .ok (.aload_n 0, 1) := by decide +kernel
theorem dX11_draws_65 : decode cX11_draws 65 = .ok (.getfield 42, 3) := by decide +kernel
theorem dX11_draws_68 : decode cX11_draws 68 = .ok (.iload_n 2, 1) := by decide +kernel
theorem dX11_draws_69 : decode cX11_draws 69 = .ok (.iaload, 1) := by decide +kernel
theorem dX11_draws_70 : decode cX11_draws 70 = .ok (.aload_n 0, 1) := by decide +kernel
theorem dX11_draws_71 : decode cX11_draws 71 = .ok (.iload_n 1, 1) := by decide +kernel
theorem dX11_draws_72 : decode cX11_draws 72 = .ok (.bipush 8, 2) := by decide +kernel
theorem dX11_draws_74 : decode cX11_draws 74 = .ok (.invokevirtual 149, 3) := by decide +kernel
theorem dX11_draws_77 : decode cX11_draws 77 = .ok (.if_icmp .ge 97, 3) := by decide +kernel
theorem dX11_draws_80 : decode cX11_draws 80 = .ok (.iload 4, 2) := by decide +kernel
theorem dX11_draws_82 : decode cX11_draws 82 = .ok (.ldc 204, 2) := by decide +kernel
theorem dX11_draws_84 : decode cX11_draws 84 = .ok (.imul, 1) := by decide +kernel
theorem dX11_draws_85 : decode cX11_draws 85 = .ok (.sipush 12345, 3) := by decide +kernel
theorem dX11_draws_88 : decode cX11_draws 88 = .ok (.iadd, 1) := by decide +kernel
theorem dX11_draws_89 : decode cX11_draws 89 = .ok (.istore 4, 2) := by decide +kernel
theorem dX11_draws_91 : decode cX11_draws 91 = .ok (.iload 4, 2) := by decide +kernel
theorem dX11_draws_93 : decode cX11_draws 93 = .ok (.bipush 16, 2) := by decide +kernel
theorem dX11_draws_95 : decode cX11_draws 95 = .ok (.ishr, 1) := by decide +kernel
theorem dX11_draws_96 : decode cX11_draws 96 = .ok (.ldc 205, 2) := by decide +kernel
theorem dX11_draws_98 : decode cX11_draws 98 = .ok (.iand, 1) := by decide +kernel
theorem dX11_draws_99 : decode cX11_draws 99 = .ok (.iload_n 3, 1) := by decide +kernel
theorem dX11_draws_100 : decode cX11_draws 100 = .ok (.irem, 1) := by decide +kernel
theorem dX11_draws_101 : decode cX11_draws 101 = .ok (.istore 5, 2) := by decide +kernel
theorem dX11_draws_103 : decode cX11_draws 103 = .ok (.aload_n 0, 1) := by decide +kernel
theorem dX11_draws_104 : decode cX11_draws 104 = .ok (.getfield 39, 3) := by decide +kernel
theorem dX11_draws_107 : decode cX11_draws 107 = .ok (.bipush 24, 2) := by decide +kernel
theorem dX11_draws_109 : decode cX11_draws 109 = .ok (.iload_n 2, 1) := by decide +kernel
theorem dX11_draws_110 : decode cX11_draws 110 = .ok (.imul, 1) := by decide +kernel
theorem dX11_draws_111 : decode cX11_draws 111 = .ok (.aload_n 0, 1) := by decide +kernel
theorem dX11_draws_112 : decode cX11_draws 112 = .ok (.getfield 42, 3) := by decide +kernel
theorem dX11_draws_115 : decode cX11_draws 115 = .ok (.iload_n 2, 1) := by decide +kernel
theorem dX11_draws_116 : decode cX11_draws 116 = .ok (.iaload, 1) := by decide +kernel
theorem dX11_draws_117 : decode cX11_draws 117 = .ok (.iadd, 1) := by decide +kernel
theorem dX11_draws_118 : decode cX11_draws 118 = .ok (.aload_n 0, 1) := by decide +kernel
theorem dX11_draws_119 : decode cX11_draws 119 = .ok (.getfield 51, 3) := by decide +kernel
theorem dX11_draws_122 : decode cX11_draws 122 = .ok (.iload 5, 2) := by decide +kernel
theorem dX11_draws_124 : decode cX11_draws 124 = .ok (.iaload, 1) := by decide +kernel
theorem dX11_draws_125 : decode cX11_draws 125 = .ok (.iastore, 1) := by decide +kernel
theorem dX11_draws_126 : decode cX11_draws 126 = .ok (.aload_n 0, 1) := by decide +kernel
theorem dX11_draws_127 : decode cX11_draws 127 = .ok (.getfield 42, 3) := by decide +kernel
theorem dX11_draws_130 : decode cX11_draws 130 = .ok (.iload_n 2, 1) := by decide +kernel
theorem dX11_draws_131 : decode cX11_draws 131 = .ok (.dup2, 1) := by decide +kernel
theorem dX11_draws_132 : decode cX11_draws 132 = .ok (.iaload, 1) := by decide +kernel
theorem dX11_draws_133 : decode cX11_draws 133 = .ok (.iconst 1, 1) := by decide +kernel
theorem dX11_draws_134 : decode cX11_draws 134 = .ok (.iadd, 1) := by decide +kernel
theorem dX11_draws_135 : decode cX11_draws 135 = .ok (.iastore, 1) := by decide +kernel
theorem dX11_draws_136 : decode cX11_draws 136 = .ok (.iinc 3 (-1), 3) := by decide +kernel
theorem dX11_draws_139 : decode cX11_draws 139 = .ok (.iload 5, 2) := by decide +kernel
theorem dX11_draws_141 : decode cX11_draws 141 = .ok (.istore 6, 2) := by decide +kernel
theorem dX11_draws_143 : decode cX11_draws 143 = .ok (.iload 6, 2) := by decide +kernel
theorem dX11_draws_145 : decode cX11_draws 145 = .ok (.iload_n 3, 1) := by decide +kernel
theorem dX11_draws_146 : decode cX11_draws 146 = .ok (.if_icmp .ge 25, 3) := by decide +kernel
theorem dX11_draws_149 : decode cX11_draws 149 = .ok (.aload_n 0, 1) := by decide +kernel
theorem dX11_draws_150 : decode cX11_draws 150 = .ok (.getfield 51, 3) := by decide +kernel
theorem dX11_draws_153 : decode cX11_draws 153 = .ok (.iload 6, 2) := by decide +kernel
theorem dX11_draws_155 : decode cX11_draws 155 = .ok (.aload_n 0, 1) := by decide +kernel
theorem dX11_draws_156 : decode cX11_draws 156 = .ok (.getfield 51, 3) := by decide +kernel
theorem dX11_draws_159 : decode cX11_draws 159 = .ok (.iload 6, 2) := by decide +kernel
theorem dX11_draws_161 : decode cX11_draws 161 = .ok (.iconst 1, 1) := by decide +kernel
theorem dX11_draws_162 : decode cX11_draws 162 = .ok (.iadd, 1) := by decide +kernel
theorem dX11_draws_163 : decode cX11_draws 163 = .ok (.iaload, 1) := by decide +kernel
theorem dX11_draws_164 : decode cX11_draws 164 = .ok (.iastore, 1) := by decide +kernel
theorem dX11_draws_165 : decode cX11_draws 165 = .ok (.iinc 6 1, 3) := by decide +kernel
theorem dX11_draws_168 : decode cX11_draws 168 = .ok (.goto (-25), 3) := by decide +kernel
theorem dX11_draws_171 : decode cX11_draws 171 = .ok (.goto (-111), 3) := by decide +kernel
theorem dX11_draws_174 : decode cX11_draws 174 = .ok (.aload_n 0, 1) := by decide +kernel
theorem dX11_draws_175 : decode cX11_draws 175 = .ok (.getfield 48, 3) := by decide +kernel
theorem dX11_draws_178 : decode cX11_draws 178 = .ok (.iconst 4, 1) := by decide +kernel
theorem dX11_draws_179 : decode cX11_draws 179 = .ok (.iload_n 2, 1) := by decide +kernel
theorem dX11_draws_180 : decode cX11_draws 180 = .ok (.imul, 1) := by decide +kernel
theorem dX11_draws_181 : decode cX11_draws 181 = .ok (.iconst 3, 1) := by decide +kernel
theorem dX11_draws_182 : decode cX11_draws 182 = .ok (.iadd, 1) := by decide +kernel
theorem dX11_draws_183 : decode cX11_draws 183 = .ok (.iload 4, 2) := by decide +kernel
theorem dX11_draws_185 : decode cX11_draws 185 = .ok (.iastore, 1) := by decide +kernel
theorem dX11_draws_186 : decode cX11_draws 186 = .ok (.return_, 1) := by decide +kernel
theorem dX11_strikes_0 : decode cX11_strikes 0 = .ok (.aload_n 0, 1) := by decide +kernel
theorem dX11_strikes_1 : decode cX11_strikes 1 = .ok (.getfield 48, 3) := by decide +kernel
theorem dX11_strikes_4 : decode cX11_strikes 4 = .ok (.iconst 4, 1) := by decide +kernel
theorem dX11_strikes_5 : decode cX11_strikes 5 = .ok (.iload_n 2, 1) := by decide +kernel
theorem dX11_strikes_6 : decode cX11_strikes 6 = .ok (.imul, 1) := by decide +kernel
theorem dX11_strikes_7 : decode cX11_strikes 7 = .ok (.iconst 1, 1) := by decide +kernel
theorem dX11_strikes_8 : decode cX11_strikes 8 = .ok (.iadd, 1) := by decide +kernel
theorem dX11_strikes_9 : decode cX11_strikes 9 = .ok (.iload_n 3, 1) := by decide +kernel
theorem dX11_strikes_10 : decode cX11_strikes 10 = .ok (.iadd, 1) := by decide +kernel
theorem dX11_strikes_11 : decode cX11_strikes 11 = .ok (.iaload, 1) := by decide +kernel
theorem dX11_strikes_12 : decode cX11_strikes 12 = .ok (.aload_n 0, 1) := by decide +kernel
theorem dX11_strikes_13 : decode cX11_strikes 13 = .ok (.iload_n 1, 1) := by decide +kernel
theorem dX11_strikes_14 : decode cX11_strikes 14 = .ok (.bipush 6, 2) := by decide +kernel
theorem dX11_strikes_16 : decode cX11_strikes 16 = .ok (.invokevirtual 149, 3) := by decide +kernel
theorem dX11_strikes_19 : decode cX11_strikes 19 = .ok (.if_icmp .ne 5, 3) := by decide +kernel
theorem dX11_strikes_22 : decode cX11_strikes 22 = .ok (.iconst (-1), 1) := by decide +kernel
theorem dX11_strikes_23 : decode cX11_strikes 23 = .ok (.ireturn, 1) := by decide +kernel
theorem dX11_strikes_24 : decode cX11_strikes 24 = .ok (.iconst (-1), 1) := by decide +kernel
theorem dX11_strikes_25 : decode cX11_strikes 25 = .ok (.istore 4, 2) := by decide +kernel
theorem dX11_strikes_27 : decode cX11_strikes 27 = .ok (.iconst 0, 1) := by decide +kernel
theorem dX11_strikes_28 : decode cX11_strikes 28 = .ok (.istore 5, 2) := by decide +kernel
theorem dX11_strikes_30 : decode cX11_strikes 30 = .ok (.iconst 0, 1) := by decide +kernel
theorem dX11_strikes_31 : decode cX11_strikes 31 = .ok (.istore 6, 2) := by decide +kernel
theorem dX11_strikes_33 : decode cX11_strikes 33 = .ok (.iload 6, 2) := by decide +kernel
theorem dX11_strikes_35 : decode cX11_strikes 35 = .ok (.aload_n 0, 1) := by decide +kernel
theorem dX11_strikes_36 : decode cX11_strikes 36 = .ok (.getfield 42, 3) := by decide +kernel
theorem dX11_strikes_39 : decode cX11_strikes 39 = .ok (.iload_n 2, 1) := by decide +kernel
theorem dX11_strikes_40 : decode cX11_strikes 40 = .ok (.iaload, 1) := by decide +kernel
theorem dX11_strikes_41 : decode cX11_strikes 41 = .ok (.if_icmp .ge 89, 3) := by decide +kernel
theorem dX11_strikes_44 : decode cX11_strikes 44 = .ok (.aload_n 0, 1) := by decide +kernel
theorem dX11_strikes_45 : decode cX11_strikes 45 = .ok (.getfield 39, 3) := by decide +kernel
theorem dX11_strikes_48 : decode cX11_strikes 48 = .ok (.bipush 24, 2) := by decide +kernel
theorem dX11_strikes_50 : decode cX11_strikes 50 = .ok (.iload_n 2, 1) := by decide +kernel
theorem dX11_strikes_51 : decode cX11_strikes 51 = .ok (.imul, 1) := by decide +kernel
theorem dX11_strikes_52 : decode cX11_strikes 52 = .ok (.iload 6, 2) := by decide +kernel
theorem dX11_strikes_54 : decode cX11_strikes 54 = .ok (.iadd, 1) := by decide +kernel
theorem dX11_strikes_55 : decode cX11_strikes 55 = .ok (.iaload, 1) := by decide +kernel
theorem dX11_strikes_56 : decode cX11_strikes 56 = .ok (.istore 7, 2) := by decide +kernel
theorem dX11_strikes_58 : decode cX11_strikes 58 = .ok (.aload_n 0, 1) := by decide +kernel
theorem dX11_strikes_59 : decode cX11_strikes 59 = .ok (.getfield 7, 3) := by decide +kernel
theorem dX11_strikes_62 : decode cX11_strikes 62 = .ok (.sipush 1646, 3) := by decide +kernel
theorem dX11_strikes_65 : decode cX11_strikes 65 = .ok (.bipush 60, 2) := by decide +kernel
theorem dX11_strikes_67 : decode cX11_strikes 67 = .ok (.iload_n 1, 1) := by decide +kernel
theorem dX11_strikes_68 : decode cX11_strikes 68 = .ok (.imul, 1) := by decide +kernel
theorem dX11_strikes_69 : decode cX11_strikes 69 = .ok (.iadd, 1) := by decide +kernel
theorem dX11_strikes_70 : decode cX11_strikes 70 = .ok (.bipush 30, 2) := by decide +kernel
theorem dX11_strikes_72 : decode cX11_strikes 72 = .ok (.iload_n 3, 1) := by decide +kernel
theorem dX11_strikes_73 : decode cX11_strikes 73 = .ok (.imul, 1) := by decide +kernel
theorem dX11_strikes_74 : decode cX11_strikes 74 = .ok (.iadd, 1) := by decide +kernel
theorem dX11_strikes_75 : decode cX11_strikes 75 = .ok (.iload 7, 2) := by decide +kernel
theorem dX11_strikes_77 : decode cX11_strikes 77 = .ok (.iadd, 1) := by decide +kernel
theorem dX11_strikes_78 : decode cX11_strikes 78 = .ok (.iaload, 1) := by decide +kernel
theorem dX11_strikes_79 : decode cX11_strikes 79 = .ok (.istore 8, 2) := by decide +kernel
theorem dX11_strikes_81 : decode cX11_strikes 81 = .ok (.aload_n 0, 1) := by decide +kernel
theorem dX11_strikes_82 : decode cX11_strikes 82 = .ok (.getfield 45, 3) := by decide +kernel
theorem dX11_strikes_85 : decode cX11_strikes 85 = .ok (.bipush 30, 2) := by decide +kernel
theorem dX11_strikes_87 : decode cX11_strikes 87 = .ok (.iload_n 2, 1) := by decide +kernel
theorem dX11_strikes_88 : decode cX11_strikes 88 = .ok (.imul, 1) := by decide +kernel
theorem dX11_strikes_89 : decode cX11_strikes 89 = .ok (.iload 7, 2) := by decide +kernel
theorem dX11_strikes_91 : decode cX11_strikes 91 = .ok (.iadd, 1) := by decide +kernel
theorem dX11_strikes_92 : decode cX11_strikes 92 = .ok (.iaload, 1) := by decide +kernel
theorem dX11_strikes_93 : decode cX11_strikes 93 = .ok (.bipush 6, 2) := by decide +kernel
theorem dX11_strikes_95 : decode cX11_strikes 95 = .ok (.if_icmp .ne 29, 3) := by decide +kernel
theorem dX11_strikes_98 : decode cX11_strikes 98 = .ok (.iload 8, 2) := by decide +kernel
theorem dX11_strikes_100 : decode cX11_strikes 100 = .ok (.ifCond .ge 24, 3) := by decide +kernel
theorem dX11_strikes_103 : decode cX11_strikes 103 = .ok (.iload 4, 2) := by decide +kernel
theorem dX11_strikes_105 : decode cX11_strikes 105 = .ok (.iconst (-1), 1) := by decide +kernel
theorem dX11_strikes_106 : decode cX11_strikes 106 = .ok (.if_icmp .eq 10, 3) := by decide +kernel
theorem dX11_strikes_109 : decode cX11_strikes 109 = .ok (.iload 8, 2) := by decide +kernel
theorem dX11_strikes_111 : decode cX11_strikes 111 = .ok (.iload 5, 2) := by decide +kernel
theorem dX11_strikes_113 : decode cX11_strikes 113 = .ok (.if_icmp .gt 11, 3) := by decide +kernel
theorem dX11_strikes_116 : decode cX11_strikes 116 = .ok (.iload 7, 2) := by decide +kernel
theorem dX11_strikes_118 : decode cX11_strikes 118 = .ok (.istore 4, 2) := by decide +kernel
theorem dX11_strikes_120 : decode cX11_strikes 120 = .ok (.iload 8, 2) := by decide +kernel
theorem dX11_strikes_122 : decode cX11_strikes 122 = .ok (.istore 5, 2) := by decide +kernel
theorem dX11_strikes_124 : decode cX11_strikes 124 = .ok (.iinc 6 1, 3) := by decide +kernel
theorem dX11_strikes_127 : decode cX11_strikes 127 = .ok (.goto (-94), 3) := by decide +kernel
theorem dX11_strikes_130 : decode cX11_strikes 130 = .ok (.iload 4, 2) := by decide +kernel
theorem dX11_strikes_132 : decode cX11_strikes 132 = .ok (.ireturn, 1) := by decide +kernel
theorem dX11_tries_0 : decode cX11_tries 0 = .ok (.aload_n 0, 1) := by decide +kernel
theorem dX11_tries_1 : decode cX11_tries 1 = .ok (.iload_n 1, 1) := by decide +kernel
theorem dX11_tries_2 : decode cX11_tries 2 = .ok (.iconst 0, 1) := by decide +kernel
theorem dX11_tries_3 : decode cX11_tries 3 = .ok (.invokevirtual 149, 3) := by decide +kernel
theorem dX11_tries_6 : decode cX11_tries 6 = .ok (.istore 5, 2) := by decide +kernel
theorem dX11_tries_8 : decode cX11_tries 8 = .ok (.aload_n 0, 1) := by decide +kernel
theorem dX11_tries_9 : decode cX11_tries 9 = .ok (.iconst 0, 1) := by decide +kernel
theorem dX11_tries_10 : decode cX11_tries 10 = .ok (.iload 5, 2) := by decide +kernel
theorem dX11_tries_12 : decode cX11_tries 12 = .ok (.iload 4, 2) := by decide +kernel
theorem dX11_tries_14 : decode cX11_tries 14 = .ok (.ifCond .ne 7, 3) := by decide +kernel
theorem dX11_tries_17 : decode cX11_tries 17 = .ok (.iload_n 3, 1) := by decide +kernel
theorem dX11_tries_18 : decode cX11_tries 18 = .ok (.goto 4, 3) := by decide +kernel
theorem dX11_tries_21 : decode cX11_tries 21 = .ok (.iconst (-1), 1) := by decide +kernel
theorem dX11_tries_22 : decode cX11_tries 22 = .ok (.invokevirtual 188, 3) := by decide +kernel
theorem dX11_tries_25 : decode cX11_tries 25 = .ok (.istore 6, 2) := by decide +kernel
theorem dX11_tries_27 : decode cX11_tries 27 = .ok (.aload_n 0, 1) := by decide +kernel
theorem dX11_tries_28 : decode cX11_tries 28 = .ok (.iconst 1, 1) := by decide +kernel
theorem dX11_tries_29 : decode cX11_tries 29 = .ok (.iload 5, 2) := by decide +kernel
theorem dX11_tries_31 : decode cX11_tries 31 = .ok (.iload 4, 2) := by decide +kernel
theorem dX11_tries_33 : decode cX11_tries 33 = .ok (.iconst 1, 1) := by decide +kernel
theorem dX11_tries_34 : decode cX11_tries 34 = .ok (.if_icmp .ne 7, 3) := by decide +kernel
theorem dX11_tries_37 : decode cX11_tries 37 = .ok (.iload_n 3, 1) := by decide +kernel
theorem dX11_tries_38 : decode cX11_tries 38 = .ok (.goto 4, 3) := by decide +kernel
theorem dX11_tries_41 : decode cX11_tries 41 = .ok (.iconst (-1), 1) := by decide +kernel
theorem dX11_tries_42 : decode cX11_tries 42 = .ok (.invokevirtual 188, 3) := by decide +kernel
theorem dX11_tries_45 : decode cX11_tries 45 = .ok (.istore 7, 2) := by decide +kernel
theorem dX11_tries_47 : decode cX11_tries 47 = .ok (.aload_n 0, 1) := by decide +kernel
theorem dX11_tries_48 : decode cX11_tries 48 = .ok (.iload_n 1, 1) := by decide +kernel
theorem dX11_tries_49 : decode cX11_tries 49 = .ok (.iload 5, 2) := by decide +kernel
theorem dX11_tries_51 : decode cX11_tries 51 = .ok (.invokevirtual 206, 3) := by decide +kernel
theorem dX11_tries_54 : decode cX11_tries 54 = .ok (.aload_n 0, 1) := by decide +kernel
theorem dX11_tries_55 : decode cX11_tries 55 = .ok (.iload_n 1, 1) := by decide +kernel
theorem dX11_tries_56 : decode cX11_tries 56 = .ok (.invokevirtual 209, 3) := by decide +kernel
theorem dX11_tries_59 : decode cX11_tries 59 = .ok (.ior, 1) := by decide +kernel
theorem dX11_tries_60 : decode cX11_tries 60 = .ok (.istore 8, 2) := by decide +kernel
theorem dX11_tries_62 : decode cX11_tries 62 = .ok (.aload_n 0, 1) := by decide +kernel
theorem dX11_tries_63 : decode cX11_tries 63 = .ok (.iload 5, 2) := by decide +kernel
theorem dX11_tries_65 : decode cX11_tries 65 = .ok (.invokevirtual 103, 3) := by decide +kernel
theorem dX11_tries_68 : decode cX11_tries 68 = .ok (.iload 6, 2) := by decide +kernel
theorem dX11_tries_70 : decode cX11_tries 70 = .ok (.iand, 1) := by decide +kernel
theorem dX11_tries_71 : decode cX11_tries 71 = .ok (.iload 7, 2) := by decide +kernel
theorem dX11_tries_73 : decode cX11_tries 73 = .ok (.iconst (-1), 1) := by decide +kernel
theorem dX11_tries_74 : decode cX11_tries 74 = .ok (.ixor, 1) := by decide +kernel
theorem dX11_tries_75 : decode cX11_tries 75 = .ok (.iand, 1) := by decide +kernel
theorem dX11_tries_76 : decode cX11_tries 76 = .ok (.iload 8, 2) := by decide +kernel
theorem dX11_tries_78 : decode cX11_tries 78 = .ok (.iconst (-1), 1) := by decide +kernel
theorem dX11_tries_79 : decode cX11_tries 79 = .ok (.ixor, 1) := by decide +kernel
theorem dX11_tries_80 : decode cX11_tries 80 = .ok (.iand, 1) := by decide +kernel
theorem dX11_tries_81 : decode cX11_tries 81 = .ok (.istore 9, 2) := by decide +kernel
theorem dX11_tries_83 : decode cX11_tries 83 = .ok (.iconst 0, 1) := by decide +kernel
theorem dX11_tries_84 : decode cX11_tries 84 = .ok (.istore 10, 2) := by decide +kernel
theorem dX11_tries_86 : decode cX11_tries 86 = .ok (.iload 10, 2) := by decide +kernel
theorem dX11_tries_88 : decode cX11_tries 88 = .ok (.aload_n 0, 1) := by decide +kernel
theorem dX11_tries_89 : decode cX11_tries 89 = .ok (.getfield 7, 3) := by decide +kernel
theorem dX11_tries_92 : decode cX11_tries 92 = .ok (.iconst 0, 1) := by decide +kernel
theorem dX11_tries_93 : decode cX11_tries 93 = .ok (.iaload, 1) := by decide +kernel
theorem dX11_tries_94 : decode cX11_tries 94 = .ok (.if_icmp .ge 69, 3) := by decide +kernel
theorem dX11_tries_97 : decode cX11_tries 97 = .ok (.aload_n 0, 1) := by decide +kernel
theorem dX11_tries_98 : decode cX11_tries 98 = .ok (.iload_n 1, 1) := by decide +kernel
theorem dX11_tries_99 : decode cX11_tries 99 = .ok (.iconst 5, 1) := by decide +kernel
theorem dX11_tries_100 : decode cX11_tries 100 = .ok (.invokevirtual 149, 3) := by decide +kernel
theorem dX11_tries_103 : decode cX11_tries 103 = .ok (.iconst (-1), 1) := by decide +kernel
theorem dX11_tries_104 : decode cX11_tries 104 = .ok (.if_icmp .eq 30, 3) := by decide +kernel
theorem dX11_tries_107 : decode cX11_tries 107 = .ok (.aload_n 0, 1) := by decide +kernel
theorem dX11_tries_108 : decode cX11_tries 108 = .ok (.getfield 7, 3) := by decide +kernel
theorem dX11_tries_111 : decode cX11_tries 111 = .ok (.bipush 10, 2) := by decide +kernel
theorem dX11_tries_113 : decode cX11_tries 113 = .ok (.iconst 4, 1) := by decide +kernel
theorem dX11_tries_114 : decode cX11_tries 114 = .ok (.iload 10, 2) := by decide +kernel
theorem dX11_tries_116 : decode cX11_tries 116 = .ok (.imul, 1) := by decide +kernel
theorem dX11_tries_117 : decode cX11_tries 117 = .ok (.iadd, 1) := by decide +kernel
theorem dX11_tries_118 : decode cX11_tries 118 = .ok (.iconst 1, 1) := by decide +kernel
theorem dX11_tries_119 : decode cX11_tries 119 = .ok (.iadd, 1) := by decide +kernel
theorem dX11_tries_120 : decode cX11_tries 120 = .ok (.iaload, 1) := by decide +kernel
theorem dX11_tries_121 : decode cX11_tries 121 = .ok (.aload_n 0, 1) := by decide +kernel
theorem dX11_tries_122 : decode cX11_tries 122 = .ok (.iload_n 1, 1) := by decide +kernel
theorem dX11_tries_123 : decode cX11_tries 123 = .ok (.iconst 5, 1) := by decide +kernel
theorem dX11_tries_124 : decode cX11_tries 124 = .ok (.invokevirtual 149, 3) := by decide +kernel
theorem dX11_tries_127 : decode cX11_tries 127 = .ok (.if_icmp .eq 7, 3) := by decide +kernel
theorem dX11_tries_130 : decode cX11_tries 130 = .ok (.iconst 1, 1) := by decide +kernel
theorem dX11_tries_131 : decode cX11_tries 131 = .ok (.goto 4, 3) := by decide +kernel
theorem dX11_tries_134 : decode cX11_tries 134 = .ok (.iconst 0, 1) := by decide +kernel
theorem dX11_tries_135 : decode cX11_tries 135 = .ok (.istore 11, 2) := by decide +kernel
theorem dX11_tries_137 : decode cX11_tries 137 = .ok (.iload 9, 2) := by decide +kernel
theorem dX11_tries_139 : decode cX11_tries 139 = .ok (.iload 11, 2) := by decide +kernel
theorem dX11_tries_141 : decode cX11_tries 141 = .ok (.ifCond .eq 12, 3) := by decide +kernel
theorem dX11_tries_144 : decode cX11_tries 144 = .ok (.iconst 1, 1) := by decide +kernel
theorem dX11_tries_145 : decode cX11_tries 145 = .ok (.iload 10, 2) := by decide +kernel
theorem dX11_tries_147 : decode cX11_tries 147 = .ok (.ishl, 1) := by decide +kernel
theorem dX11_tries_148 : decode cX11_tries 148 = .ok (.iconst (-1), 1) := by decide +kernel
theorem dX11_tries_149 : decode cX11_tries 149 = .ok (.ixor, 1) := by decide +kernel
theorem dX11_tries_150 : decode cX11_tries 150 = .ok (.goto 4, 3) := by decide +kernel
theorem dX11_tries_153 : decode cX11_tries 153 = .ok (.iconst (-1), 1) := by decide +kernel
theorem dX11_tries_154 : decode cX11_tries 154 = .ok (.iand, 1) := by decide +kernel
theorem dX11_tries_155 : decode cX11_tries 155 = .ok (.istore 9, 2) := by decide +kernel
theorem dX11_tries_157 : decode cX11_tries 157 = .ok (.iinc 10 1, 3) := by decide +kernel
theorem dX11_tries_160 : decode cX11_tries 160 = .ok (.goto (-74), 3) := by decide +kernel
theorem dX11_tries_163 : decode cX11_tries 163 = .ok (.aload_n 0, 1) := by decide +kernel
theorem dX11_tries_164 : decode cX11_tries 164 = .ok (.getfield 33, 3) := by decide +kernel
theorem dX11_tries_167 : decode cX11_tries 167 = .ok (.iload_n 2, 1) := by decide +kernel
theorem dX11_tries_168 : decode cX11_tries 168 = .ok (.iload 9, 2) := by decide +kernel
theorem dX11_tries_170 : decode cX11_tries 170 = .ok (.iastore, 1) := by decide +kernel
theorem dX11_tries_171 : decode cX11_tries 171 = .ok (.aload_n 0, 1) := by decide +kernel
theorem dX11_tries_172 : decode cX11_tries 172 = .ok (.iload_n 1, 1) := by decide +kernel
theorem dX11_tries_173 : decode cX11_tries 173 = .ok (.iload_n 2, 1) := by decide +kernel
theorem dX11_tries_174 : decode cX11_tries 174 = .ok (.invokevirtual 212, 3) := by decide +kernel
theorem dX11_tries_177 : decode cX11_tries 177 = .ok (.iconst 0, 1) := by decide +kernel
theorem dX11_tries_178 : decode cX11_tries 178 = .ok (.istore 10, 2) := by decide +kernel
theorem dX11_tries_180 : decode cX11_tries 180 = .ok (.iload 10, 2) := by decide +kernel
theorem dX11_tries_182 : decode cX11_tries 182 = .ok (.bipush 30, 2) := by decide +kernel
theorem dX11_tries_184 : decode cX11_tries 184 = .ok (.if_icmp .ge 28, 3) := by decide +kernel
theorem dX11_tries_187 : decode cX11_tries 187 = .ok (.aload_n 0, 1) := by decide +kernel
theorem dX11_tries_188 : decode cX11_tries 188 = .ok (.getfield 45, 3) := by decide +kernel
theorem dX11_tries_191 : decode cX11_tries 191 = .ok (.bipush 30, 2) := by decide +kernel
theorem dX11_tries_193 : decode cX11_tries 193 = .ok (.iload_n 2, 1) := by decide +kernel
theorem dX11_tries_194 : decode cX11_tries 194 = .ok (.imul, 1) := by decide +kernel
theorem dX11_tries_195 : decode cX11_tries 195 = .ok (.iload 10, 2) := by decide +kernel
theorem dX11_tries_197 : decode cX11_tries 197 = .ok (.iadd, 1) := by decide +kernel
theorem dX11_tries_198 : decode cX11_tries 198 = .ok (.iload 9, 2) := by decide +kernel
theorem dX11_tries_200 : decode cX11_tries 200 = .ok (.iload 10, 2) := by decide +kernel
theorem dX11_tries_202 : decode cX11_tries 202 = .ok (.ishr, 1) := by decide +kernel
theorem dX11_tries_203 : decode cX11_tries 203 = .ok (.iconst 1, 1) := by decide +kernel
theorem dX11_tries_204 : decode cX11_tries 204 = .ok (.iand, 1) := by decide +kernel
theorem dX11_tries_205 : decode cX11_tries 205 = .ok (.iastore, 1) := by decide +kernel
theorem dX11_tries_206 : decode cX11_tries 206 = .ok (.iinc 10 1, 3) := by decide +kernel
theorem dX11_tries_209 : decode cX11_tries 209 = .ok (.goto (-29), 3) := by decide +kernel
theorem dX11_tries_212 : decode cX11_tries 212 = .ok (.iconst 0, 1) := by decide +kernel
theorem dX11_tries_213 : decode cX11_tries 213 = .ok (.istore 10, 2) := by decide +kernel
theorem dX11_tries_215 : decode cX11_tries 215 = .ok (.iload 10, 2) := by decide +kernel
theorem dX11_tries_217 : decode cX11_tries 217 = .ok (.aload_n 0, 1) := by decide +kernel
theorem dX11_tries_218 : decode cX11_tries 218 = .ok (.getfield 42, 3) := by decide +kernel
theorem dX11_tries_221 : decode cX11_tries 221 = .ok (.iload_n 2, 1) := by decide +kernel
theorem dX11_tries_222 : decode cX11_tries 222 = .ok (.iaload, 1) := by decide +kernel
theorem dX11_tries_223 : decode cX11_tries 223 = .ok (.if_icmp .ge 57, 3) := by decide +kernel
theorem dX11_tries_226 : decode cX11_tries 226 = .ok (.aload_n 0, 1) := by decide +kernel
theorem dX11_tries_227 : decode cX11_tries 227 = .ok (.getfield 39, 3) := by decide +kernel
theorem dX11_tries_230 : decode cX11_tries 230 = .ok (.bipush 24, 2) := by decide +kernel
theorem dX11_tries_232 : decode cX11_tries 232 = .ok (.iload_n 2, 1) := by decide +kernel
theorem dX11_tries_233 : decode cX11_tries 233 = .ok (.imul, 1) := by decide +kernel
theorem dX11_tries_234 : decode cX11_tries 234 = .ok (.iload 10, 2) := by decide +kernel
theorem dX11_tries_236 : decode cX11_tries 236 = .ok (.iadd, 1) := by decide +kernel
theorem dX11_tries_237 : decode cX11_tries 237 = .ok (.iaload, 1) := by decide +kernel
theorem dX11_tries_238 : decode cX11_tries 238 = .ok (.istore 11, 2) := by decide +kernel
theorem dX11_tries_240 : decode cX11_tries 240 = .ok (.aload_n 0, 1) := by decide +kernel
theorem dX11_tries_241 : decode cX11_tries 241 = .ok (.getfield 45, 3) := by decide +kernel
theorem dX11_tries_244 : decode cX11_tries 244 = .ok (.bipush 30, 2) := by decide +kernel
theorem dX11_tries_246 : decode cX11_tries 246 = .ok (.iload_n 2, 1) := by decide +kernel
theorem dX11_tries_247 : decode cX11_tries 247 = .ok (.imul, 1) := by decide +kernel
theorem dX11_tries_248 : decode cX11_tries 248 = .ok (.iload 11, 2) := by decide +kernel
theorem dX11_tries_250 : decode cX11_tries 250 = .ok (.iadd, 1) := by decide +kernel
theorem dX11_tries_251 : decode cX11_tries 251 = .ok (.aload_n 0, 1) := by decide +kernel
theorem dX11_tries_252 : decode cX11_tries 252 = .ok (.iload_n 1, 1) := by decide +kernel
theorem dX11_tries_253 : decode cX11_tries 253 = .ok (.bipush 9, 2) := by decide +kernel
theorem dX11_tries_255 : decode cX11_tries 255 = .ok (.invokevirtual 149, 3) := by decide +kernel
theorem dX11_tries_258 : decode cX11_tries 258 = .ok (.iload 11, 2) := by decide +kernel
theorem dX11_tries_260 : decode cX11_tries 260 = .ok (.ishr, 1) := by decide +kernel
theorem dX11_tries_261 : decode cX11_tries 261 = .ok (.iconst 1, 1) := by decide +kernel
theorem dX11_tries_262 : decode cX11_tries 262 = .ok (.iand, 1) := by decide +kernel
theorem dX11_tries_263 : decode cX11_tries 263 = .ok (.iconst 1, 1) := by decide +kernel
theorem dX11_tries_264 : decode cX11_tries 264 = .ok (.if_icmp .ne 7, 3) := by decide +kernel
theorem dX11_tries_267 : decode cX11_tries 267 = .ok (.iconst 2, 1) := by decide +kernel
theorem dX11_tries_268 : decode cX11_tries 268 = .ok (.goto 5, 3) := by decide +kernel
theorem dX11_tries_271 : decode cX11_tries 271 = .ok (.bipush 6, 2) := by decide +kernel
theorem dX11_tries_273 : decode cX11_tries 273 = .ok (.iastore, 1) := by decide +kernel
theorem dX11_tries_274 : decode cX11_tries 274 = .ok (.iinc 10 1, 3) := by decide +kernel
theorem dX11_tries_277 : decode cX11_tries 277 = .ok (.goto (-62), 3) := by decide +kernel
theorem dX11_tries_280 : decode cX11_tries 280 = .ok (.aload_n 0, 1) := by decide +kernel
theorem dX11_tries_281 : decode cX11_tries 281 = .ok (.getfield 48, 3) := by decide +kernel
theorem dX11_tries_284 : decode cX11_tries 284 = .ok (.iconst 4, 1) := by decide +kernel
theorem dX11_tries_285 : decode cX11_tries 285 = .ok (.iload_n 2, 1) := by decide +kernel
theorem dX11_tries_286 : decode cX11_tries 286 = .ok (.imul, 1) := by decide +kernel
theorem dX11_tries_287 : decode cX11_tries 287 = .ok (.iconst 0, 1) := by decide +kernel
theorem dX11_tries_288 : decode cX11_tries 288 = .ok (.iastore, 1) := by decide +kernel
theorem dX11_tries_289 : decode cX11_tries 289 = .ok (.aload_n 0, 1) := by decide +kernel
theorem dX11_tries_290 : decode cX11_tries 290 = .ok (.getfield 48, 3) := by decide +kernel
theorem dX11_tries_293 : decode cX11_tries 293 = .ok (.iconst 4, 1) := by decide +kernel
theorem dX11_tries_294 : decode cX11_tries 294 = .ok (.iload_n 2, 1) := by decide +kernel
theorem dX11_tries_295 : decode cX11_tries 295 = .ok (.imul, 1) := by decide +kernel
theorem dX11_tries_296 : decode cX11_tries 296 = .ok (.iconst 1, 1) := by decide +kernel
theorem dX11_tries_297 : decode cX11_tries 297 = .ok (.iadd, 1) := by decide +kernel
theorem dX11_tries_298 : decode cX11_tries 298 = .ok (.iconst 0, 1) := by decide +kernel
theorem dX11_tries_299 : decode cX11_tries 299 = .ok (.iastore, 1) := by decide +kernel
theorem dX11_tries_300 : decode cX11_tries 300 = .ok (.aload_n 0, 1) := by decide +kernel
theorem dX11_tries_301 : decode cX11_tries 301 = .ok (.getfield 48, 3) := by decide +kernel
theorem dX11_tries_304 : decode cX11_tries 304 = .ok (.iconst 4, 1) := by decide +kernel
theorem dX11_tries_305 : decode cX11_tries 305 = .ok (.iload_n 2, 1) := by decide +kernel
theorem dX11_tries_306 : decode cX11_tries 306 = .ok (.imul, 1) := by decide +kernel
theorem dX11_tries_307 : decode cX11_tries 307 = .ok (.iconst 2, 1) := by decide +kernel
theorem dX11_tries_308 : decode cX11_tries 308 = .ok (.iadd, 1) := by decide +kernel
theorem dX11_tries_309 : decode cX11_tries 309 = .ok (.iconst 0, 1) := by decide +kernel
theorem dX11_tries_310 : decode cX11_tries 310 = .ok (.iastore, 1) := by decide +kernel
theorem dX11_tries_311 : decode cX11_tries 311 = .ok (.iconst 0, 1) := by decide +kernel
theorem dX11_tries_312 : decode cX11_tries 312 = .ok (.istore 10, 2) := by decide +kernel
theorem dX11_tries_314 : decode cX11_tries 314 = .ok (.iconst 0, 1) := by decide +kernel
theorem dX11_tries_315 : decode cX11_tries 315 = .ok (.istore 11, 2) := by decide +kernel
theorem dX11_tries_317 : decode cX11_tries 317 = .ok (.iload 10, 2) := by decide +kernel
theorem dX11_tries_319 : decode cX11_tries 319 = .ok (.iconst 2, 1) := by decide +kernel
theorem dX11_tries_320 : decode cX11_tries 320 = .ok (.if_icmp .ge 77, 3) := by decide +kernel
theorem dX11_tries_323 : decode cX11_tries 323 = .ok (.aload_n 0, 1) := by decide +kernel
theorem dX11_tries_324 : decode cX11_tries 324 = .ok (.iload_n 1, 1) := by decide +kernel
theorem dX11_tries_325 : decode cX11_tries 325 = .ok (.iload_n 2, 1) := by decide +kernel
theorem dX11_tries_326 : decode cX11_tries 326 = .ok (.iload 11, 2) := by decide +kernel
theorem dX11_tries_328 : decode cX11_tries 328 = .ok (.invokevirtual 215, 3) := by decide +kernel
theorem dX11_tries_331 : decode cX11_tries 331 = .ok (.istore 12, 2) := by decide +kernel
theorem dX11_tries_333 : decode cX11_tries 333 = .ok (.iload 12, 2) := by decide +kernel
theorem dX11_tries_335 : decode cX11_tries 335 = .ok (.iconst (-1), 1) := by decide +kernel
theorem dX11_tries_336 : decode cX11_tries 336 = .ok (.if_icmp .ne 10, 3) := by decide +kernel
theorem dX11_tries_339 : decode cX11_tries 339 = .ok (.iload 10, 2) := by decide +kernel
theorem dX11_tries_341 : decode cX11_tries 341 = .ok (.iconst 1, 1) := by decide +kernel
theorem dX11_tries_342 : decode cX11_tries 342 = .ok (.iadd, 1) := by decide +kernel
theorem dX11_tries_343 : decode cX11_tries 343 = .ok (.goto 4, 3) := by decide +kernel
theorem dX11_tries_346 : decode cX11_tries 346 = .ok (.iconst 0, 1) := by decide +kernel
theorem dX11_tries_347 : decode cX11_tries 347 = .ok (.istore 10, 2) := by decide +kernel
theorem dX11_tries_349 : decode cX11_tries 349 = .ok (.iload 12, 2) := by decide +kernel
theorem dX11_tries_351 : decode cX11_tries 351 = .ok (.iconst (-1), 1) := by decide +kernel
theorem dX11_tries_352 : decode cX11_tries 352 = .ok (.if_icmp .eq 36, 3) := by decide +kernel
theorem dX11_tries_355 : decode cX11_tries 355 = .ok (.aload_n 0, 1) := by decide +kernel
theorem dX11_tries_356 : decode cX11_tries 356 = .ok (.getfield 45, 3) := by decide +kernel
theorem dX11_tries_359 : decode cX11_tries 359 = .ok (.bipush 30, 2) := by decide +kernel
theorem dX11_tries_361 : decode cX11_tries 361 = .ok (.iload_n 2, 1) := by decide +kernel
theorem dX11_tries_362 : decode cX11_tries 362 = .ok (.imul, 1) := by decide +kernel
theorem dX11_tries_363 : decode cX11_tries 363 = .ok (.iload 12, 2) := by decide +kernel
theorem dX11_tries_365 : decode cX11_tries 365 = .ok (.iadd, 1) := by decide +kernel
theorem dX11_tries_366 : decode cX11_tries 366 = .ok (.iconst 3, 1) := by decide +kernel
theorem dX11_tries_367 : decode cX11_tries 367 = .ok (.iload 11, 2) := by decide +kernel
theorem dX11_tries_369 : decode cX11_tries 369 = .ok (.iadd, 1) := by decide +kernel
theorem dX11_tries_370 : decode cX11_tries 370 = .ok (.iastore, 1) := by decide +kernel
theorem dX11_tries_371 : decode cX11_tries 371 = .ok (.aload_n 0, 1) := by decide +kernel
theorem dX11_tries_372 : decode cX11_tries 372 = .ok (.getfield 48, 3) := by decide +kernel
theorem dX11_tries_375 : decode cX11_tries 375 = .ok (.iconst 4, 1) := by decide +kernel
theorem dX11_tries_376 : decode cX11_tries 376 = .ok (.iload_n 2, 1) := by decide +kernel
theorem dX11_tries_377 : decode cX11_tries 377 = .ok (.imul, 1) := by decide +kernel
theorem dX11_tries_378 : decode cX11_tries 378 = .ok (.iconst 1, 1) := by decide +kernel
theorem dX11_tries_379 : decode cX11_tries 379 = .ok (.iadd, 1) := by decide +kernel
theorem dX11_tries_380 : decode cX11_tries 380 = .ok (.iload 11, 2) := by decide +kernel
theorem dX11_tries_382 : decode cX11_tries 382 = .ok (.iadd, 1) := by decide +kernel
theorem dX11_tries_383 : decode cX11_tries 383 = .ok (.dup2, 1) := by decide +kernel
theorem dX11_tries_384 : decode cX11_tries 384 = .ok (.iaload, 1) := by decide +kernel
theorem dX11_tries_385 : decode cX11_tries 385 = .ok (.iconst 1, 1) := by decide +kernel
theorem dX11_tries_386 : decode cX11_tries 386 = .ok (.iadd, 1) := by decide +kernel
theorem dX11_tries_387 : decode cX11_tries 387 = .ok (.iastore, 1) := by decide +kernel
theorem dX11_tries_388 : decode cX11_tries 388 = .ok (.iconst 1, 1) := by decide +kernel
theorem dX11_tries_389 : decode cX11_tries 389 = .ok (.iload 11, 2) := by decide +kernel
theorem dX11_tries_391 : decode cX11_tries 391 = .ok (.isub, 1) := by decide +kernel
theorem dX11_tries_392 : decode cX11_tries 392 = .ok (.istore 11, 2) := by decide +kernel
theorem dX11_tries_394 : decode cX11_tries 394 = .ok (.goto (-77), 3) := by decide +kernel
theorem dX11_tries_397 : decode cX11_tries 397 = .ok (.aload_n 0, 1) := by decide +kernel
theorem dX11_tries_398 : decode cX11_tries 398 = .ok (.iload_n 1, 1) := by decide +kernel
theorem dX11_tries_399 : decode cX11_tries 399 = .ok (.iload_n 2, 1) := by decide +kernel
theorem dX11_tries_400 : decode cX11_tries 400 = .ok (.iload 6, 2) := by decide +kernel
theorem dX11_tries_402 : decode cX11_tries 402 = .ok (.iload 9, 2) := by decide +kernel
theorem dX11_tries_404 : decode cX11_tries 404 = .ok (.iconst (-1), 1) := by decide +kernel
theorem dX11_tries_405 : decode cX11_tries 405 = .ok (.ixor, 1) := by decide +kernel
theorem dX11_tries_406 : decode cX11_tries 406 = .ok (.iand, 1) := by decide +kernel
theorem dX11_tries_407 : decode cX11_tries 407 = .ok (.iload 8, 2) := by decide +kernel
theorem dX11_tries_409 : decode cX11_tries 409 = .ok (.iconst (-1), 1) := by decide +kernel
theorem dX11_tries_410 : decode cX11_tries 410 = .ok (.ixor, 1) := by decide +kernel
theorem dX11_tries_411 : decode cX11_tries 411 = .ok (.iand, 1) := by decide +kernel
theorem dX11_tries_412 : decode cX11_tries 412 = .ok (.invokevirtual 218, 3) := by decide +kernel
theorem dX11_tries_415 : decode cX11_tries 415 = .ok (.return_, 1) := by decide +kernel

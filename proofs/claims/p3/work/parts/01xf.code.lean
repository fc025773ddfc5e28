theorem dX11_settles_0 : decode cX11_settles 0 = .ok (.aload_n 0, 1) := by decide +kernel
theorem dX11_settles_1 : decode cX11_settles 1 = .ok (.getfield 110, 3) := by decide +kernel
theorem dX11_settles_4 : decode cX11_settles 4 = .ok (.ifCond .le 48, 3) := by decide +kernel
theorem dX11_settles_7 : decode cX11_settles 7 = .ok (.aload_n 0, 1) := by decide +kernel
theorem dX11_settles_8 : decode cX11_settles 8 = .ok (.getfield 26, 3) := by decide +kernel
theorem dX11_settles_11 : decode cX11_settles 11 = .ok (.aload_n 0, 1) := by decide +kernel
theorem dX11_settles_12 : decode cX11_settles 12 = .ok (.getfield 110, 3) := by decide +kernel
theorem dX11_settles_15 : decode cX11_settles 15 = .ok (.iconst 1, 1) := by decide +kernel
theorem dX11_settles_16 : decode cX11_settles 16 = .ok (.isub, 1) := by decide +kernel
theorem dX11_settles_17 : decode cX11_settles 17 = .ok (.iaload, 1) := by decide +kernel
theorem dX11_settles_18 : decode cX11_settles 18 = .ok (.invokestatic 113, 3) := by decide +kernel
theorem dX11_settles_21 : decode cX11_settles 21 = .ok (.iload_n 1, 1) := by decide +kernel
theorem dX11_settles_22 : decode cX11_settles 22 = .ok (.if_icmp .lt 30, 3) := by decide +kernel
theorem dX11_settles_25 : decode cX11_settles 25 = .ok (.aload_n 0, 1) := by decide +kernel
theorem dX11_settles_26 : decode cX11_settles 26 = .ok (.dup, 1) := by decide +kernel
theorem dX11_settles_27 : decode cX11_settles 27 = .ok (.getfield 110, 3) := by decide +kernel
theorem dX11_settles_30 : decode cX11_settles 30 = .ok (.iconst 1, 1) := by decide +kernel
theorem dX11_settles_31 : decode cX11_settles 31 = .ok (.isub, 1) := by decide +kernel
theorem dX11_settles_32 : decode cX11_settles 32 = .ok (.putfield 110, 3) := by decide +kernel
theorem dX11_settles_35 : decode cX11_settles 35 = .ok (.aload_n 0, 1) := by decide +kernel
theorem dX11_settles_36 : decode cX11_settles 36 = .ok (.aload_n 0, 1) := by decide +kernel
theorem dX11_settles_37 : decode cX11_settles 37 = .ok (.getfield 26, 3) := by decide +kernel
theorem dX11_settles_40 : decode cX11_settles 40 = .ok (.aload_n 0, 1) := by decide +kernel
theorem dX11_settles_41 : decode cX11_settles 41 = .ok (.getfield 110, 3) := by decide +kernel
theorem dX11_settles_44 : decode cX11_settles 44 = .ok (.iaload, 1) := by decide +kernel
theorem dX11_settles_45 : decode cX11_settles 45 = .ok (.iconst 0, 1) := by decide +kernel
theorem dX11_settles_46 : decode cX11_settles 46 = .ok (.invokevirtual 116, 3) := by decide +kernel
theorem dX11_settles_49 : decode cX11_settles 49 = .ok (.goto (-49), 3) := by decide +kernel
theorem dX11_settles_52 : decode cX11_settles 52 = .ok (.return_, 1) := by decide +kernel
theorem dX11_waitsWith_0 : decode cX11_waitsWith 0 = .ok (.aload_n 0, 1) := by decide +kernel
theorem dX11_waitsWith_1 : decode cX11_waitsWith 1 = .ok (.getfield 26, 3) := by decide +kernel
theorem dX11_waitsWith_4 : decode cX11_waitsWith 4 = .ok (.aload_n 0, 1) := by decide +kernel
theorem dX11_waitsWith_5 : decode cX11_waitsWith 5 = .ok (.getfield 110, 3) := by decide +kernel
theorem dX11_waitsWith_8 : decode cX11_waitsWith 8 = .ok (.iload_n 1, 1) := by decide +kernel
theorem dX11_waitsWith_9 : decode cX11_waitsWith 9 = .ok (.iastore, 1) := by decide +kernel
theorem dX11_waitsWith_10 : decode cX11_waitsWith 10 = .ok (.aload_n 0, 1) := by decide +kernel
theorem dX11_waitsWith_11 : decode cX11_waitsWith 11 = .ok (.dup, 1) := by decide +kernel
theorem dX11_waitsWith_12 : decode cX11_waitsWith 12 = .ok (.getfield 110, 3) := by decide +kernel
theorem dX11_waitsWith_15 : decode cX11_waitsWith 15 = .ok (.iconst 1, 1) := by decide +kernel
theorem dX11_waitsWith_16 : decode cX11_waitsWith 16 = .ok (.iadd, 1) := by decide +kernel
theorem dX11_waitsWith_17 : decode cX11_waitsWith 17 = .ok (.putfield 110, 3) := by decide +kernel
theorem dX11_waitsWith_20 : decode cX11_waitsWith 20 = .ok (.return_, 1) := by decide +kernel
theorem dX11_nameOf_0 : decode cX11_nameOf 0 = .ok (.iload_n 0, 1) := by decide +kernel
theorem dX11_nameOf_1 : decode cX11_nameOf 1 = .ok (.lookupswitch 71 #[(97, 59), (108, 61), (112, 65), (115, 67), (116, 63), (121, 69)], 59) := by decide +kernel
theorem dX11_nameOf_60 : decode cX11_nameOf 60 = .ok (.iconst 0, 1) := by decide +kernel
theorem dX11_nameOf_61 : decode cX11_nameOf 61 = .ok (.ireturn, 1) := by decide +kernel
theorem dX11_nameOf_62 : decode cX11_nameOf 62 = .ok (.iconst 1, 1) := by decide +kernel
theorem dX11_nameOf_63 : decode cX11_nameOf 63 = .ok (.ireturn, 1) := by decide +kernel
theorem dX11_nameOf_64 : decode cX11_nameOf 64 = .ok (.iconst 2, 1) := by decide +kernel
theorem dX11_nameOf_65 : decode cX11_nameOf 65 = .ok (.ireturn, 1) := by decide +kernel
theorem dX11_nameOf_66 : decode cX11_nameOf 66 = .ok (.iconst 3, 1) := by decide +kernel
theorem dX11_nameOf_67 : decode cX11_nameOf 67 = .ok (.ireturn, 1) := by decide +kernel
theorem dX11_nameOf_68 : decode cX11_nameOf 68 = .ok (.iconst 4, 1) := by decide +kernel
theorem dX11_nameOf_69 : decode cX11_nameOf 69 = .ok (.ireturn, 1) := by decide +kernel
theorem dX11_nameOf_70 : decode cX11_nameOf 70 = .ok (.iconst 5, 1) := by decide +kernel
theorem dX11_nameOf_71 : decode cX11_nameOf 71 = .ok (.ireturn, 1) := by decide +kernel
theorem dX11_nameOf_72 : decode cX11_nameOf 72 = .ok (.iconst (-1), 1) := by decide +kernel
theorem dX11_nameOf_73 : decode cX11_nameOf 73 = .ok (.ireturn, 1) := by decide +kernel
theorem dX11_signOf_0 : decode cX11_signOf 0 = .ok (.iload_n 0, 1) := by decide +kernel
theorem dX11_signOf_1 : decode cX11_signOf 1 = .ok (.lookupswitch 108 #[(38, 102), (42, 83), (43, 87), (45, 90), (47, 85), (60, 93), (61, 99), (62, 96), (124, 105)], 83) := by decide +kernel
theorem dX11_signOf_84 : decode cX11_signOf 84 = .ok (.iconst 4, 1) := by decide +kernel
theorem dX11_signOf_85 : decode cX11_signOf 85 = .ok (.ireturn, 1) := by decide +kernel
theorem dX11_signOf_86 : decode cX11_signOf 86 = .ok (.iconst 5, 1) := by decide +kernel
theorem dX11_signOf_87 : decode cX11_signOf 87 = .ok (.ireturn, 1) := by decide +kernel
theorem dX11_signOf_88 : decode cX11_signOf 88 = .ok (.bipush 6, 2) := by decide +kernel
theorem dX11_signOf_90 : decode cX11_signOf 90 = .ok (.ireturn, 1) := by decide +kernel
theorem dX11_signOf_91 : decode cX11_signOf 91 = .ok (.bipush 7, 2) := by decide +kernel
theorem dX11_signOf_93 : decode cX11_signOf 93 = .ok (.ireturn, 1) := by decide +kernel
theorem dX11_signOf_94 : decode cX11_signOf 94 = .ok (.bipush 8, 2) := by decide +kernel
theorem dX11_signOf_96 : decode cX11_signOf 96 = .ok (.ireturn, 1) := by decide +kernel
theorem dX11_signOf_97 : decode cX11_signOf 97 = .ok (.bipush 9, 2) := by decide +kernel
theorem dX11_signOf_99 : decode cX11_signOf 99 = .ok (.ireturn, 1) := by decide +kernel
theorem dX11_signOf_100 : decode cX11_signOf 100 = .ok (.bipush 10, 2) := by decide +kernel
theorem dX11_signOf_102 : decode cX11_signOf 102 = .ok (.ireturn, 1) := by decide +kernel
theorem dX11_signOf_103 : decode cX11_signOf 103 = .ok (.bipush 11, 2) := by decide +kernel
theorem dX11_signOf_105 : decode cX11_signOf 105 = .ok (.ireturn, 1) := by decide +kernel
theorem dX11_signOf_106 : decode cX11_signOf 106 = .ok (.bipush 12, 2) := by decide +kernel
theorem dX11_signOf_108 : decode cX11_signOf 108 = .ok (.ireturn, 1) := by decide +kernel
theorem dX11_signOf_109 : decode cX11_signOf 109 = .ok (.iconst (-1), 1) := by decide +kernel
theorem dX11_signOf_110 : decode cX11_signOf 110 = .ok (.ireturn, 1) := by decide +kernel
theorem dX11_goesOn_0 : decode cX11_goesOn 0 = .ok (.iload_n 1, 1) := by decide +kernel
theorem dX11_goesOn_1 : decode cX11_goesOn 1 = .ok (.invokestatic 113, 3) := by decide +kernel
theorem dX11_goesOn_4 : decode cX11_goesOn 4 = .ok (.istore_n 2, 1) := by decide +kernel
theorem dX11_goesOn_5 : decode cX11_goesOn 5 = .ok (.iload_n 2, 1) := by decide +kernel
theorem dX11_goesOn_6 : decode cX11_goesOn 6 = .ok (.iconst 3, 1) := by decide +kernel
theorem dX11_goesOn_7 : decode cX11_goesOn 7 = .ok (.if_icmp .ne 35, 3) := by decide +kernel
theorem dX11_goesOn_10 : decode cX11_goesOn 10 = .ok (.aload_n 0, 1) := by decide +kernel
theorem dX11_goesOn_11 : decode cX11_goesOn 11 = .ok (.iconst 4, 1) := by decide +kernel
theorem dX11_goesOn_12 : decode cX11_goesOn 12 = .ok (.invokevirtual 120, 3) := by decide +kernel
theorem dX11_goesOn_15 : decode cX11_goesOn 15 = .ok (.aload_n 0, 1) := by decide +kernel
theorem dX11_goesOn_16 : decode cX11_goesOn 16 = .ok (.getfield 110, 3) := by decide +kernel
theorem dX11_goesOn_19 : decode cX11_goesOn 19 = .ok (.ifCond .le 23, 3) := by decide +kernel
theorem dX11_goesOn_22 : decode cX11_goesOn 22 = .ok (.aload_n 0, 1) := by decide +kernel
theorem dX11_goesOn_23 : decode cX11_goesOn 23 = .ok (.getfield 26, 3) := by decide +kernel
theorem dX11_goesOn_26 : decode cX11_goesOn 26 = .ok (.aload_n 0, 1) := by decide +kernel
theorem dX11_goesOn_27 : decode cX11_goesOn 27 = .ok (.getfield 110, 3) := by decide +kernel
theorem dX11_goesOn_30 : decode cX11_goesOn 30 = .ok (.iconst 1, 1) := by decide +kernel
theorem dX11_goesOn_31 : decode cX11_goesOn 31 = .ok (.isub, 1) := by decide +kernel
theorem dX11_goesOn_32 : decode cX11_goesOn 32 = .ok (.iaload, 1) := by decide +kernel
theorem dX11_goesOn_33 : decode cX11_goesOn 33 = .ok (.invokestatic 113, 3) := by decide +kernel
theorem dX11_goesOn_36 : decode cX11_goesOn 36 = .ok (.iconst 3, 1) := by decide +kernel
theorem dX11_goesOn_37 : decode cX11_goesOn 37 = .ok (.if_icmp .ne 5, 3) := by decide +kernel
theorem dX11_goesOn_40 : decode cX11_goesOn 40 = .ok (.iconst 0, 1) := by decide +kernel
theorem dX11_goesOn_41 : decode cX11_goesOn 41 = .ok (.ireturn, 1) := by decide +kernel
theorem dX11_goesOn_42 : decode cX11_goesOn 42 = .ok (.aload_n 0, 1) := by decide +kernel
theorem dX11_goesOn_43 : decode cX11_goesOn 43 = .ok (.iload_n 2, 1) := by decide +kernel
theorem dX11_goesOn_44 : decode cX11_goesOn 44 = .ok (.invokevirtual 120, 3) := by decide +kernel
theorem dX11_goesOn_47 : decode cX11_goesOn 47 = .ok (.aload_n 0, 1) := by decide +kernel
theorem dX11_goesOn_48 : decode cX11_goesOn 48 = .ok (.iload_n 1, 1) := by decide +kernel
theorem dX11_goesOn_49 : decode cX11_goesOn 49 = .ok (.invokevirtual 124, 3) := by decide +kernel
theorem dX11_goesOn_52 : decode cX11_goesOn 52 = .ok (.iconst 1, 1) := by decide +kernel
theorem dX11_goesOn_53 : decode cX11_goesOn 53 = .ok (.ireturn, 1) := by decide +kernel
theorem dX11_reads_0 : decode cX11_reads 0 = .ok (.aload_n 0, 1) := by decide +kernel
theorem dX11_reads_1 : decode cX11_reads 1 = .ok (.getfield 7, 3) := by decide +kernel
theorem dX11_reads_4 : decode cX11_reads 4 = .ok (.iload_n 1, 1) := by decide +kernel
theorem dX11_reads_5 : decode cX11_reads 5 = .ok (.iaload, 1) := by decide +kernel
theorem dX11_reads_6 : decode cX11_reads 6 = .ok (.istore_n 2, 1) := by decide +kernel
theorem dX11_reads_7 : decode cX11_reads 7 = .ok (.aload_n 0, 1) := by decide +kernel
theorem dX11_reads_8 : decode cX11_reads 8 = .ok (.iconst 0, 1) := by decide +kernel
theorem dX11_reads_9 : decode cX11_reads 9 = .ok (.putfield 106, 3) := by decide +kernel
theorem dX11_reads_12 : decode cX11_reads 12 = .ok (.aload_n 0, 1) := by decide +kernel
theorem dX11_reads_13 : decode cX11_reads 13 = .ok (.iconst 0, 1) := by decide +kernel
theorem dX11_reads_14 : decode cX11_reads 14 = .ok (.putfield 110, 3) := by decide +kernel
theorem dX11_reads_17 : decode cX11_reads 17 = .ok (.iconst 0, 1) := by decide +kernel
theorem dX11_reads_18 : decode cX11_reads 18 = .ok (.istore_n 3, 1) := by decide +kernel
theorem dX11_reads_19 : decode cX11_reads 19 = .ok (.iconst 0, 1) := by decide +kernel
theorem dX11_reads_20 : decode cX11_reads 20 = .ok (.istore 4, 2) := by decide +kernel
theorem dX11_reads_22 : decode cX11_reads 22 = .ok (.iconst 0, 1) := by decide +kernel
theorem dX11_reads_23 : decode cX11_reads 23 = .ok (.istore 5, 2) := by decide +kernel
theorem dX11_reads_25 : decode cX11_reads 25 = .ok (.iload 5, 2) := by decide +kernel
theorem dX11_reads_27 : decode cX11_reads 27 = .ok (.iload_n 2, 1) := by decide +kernel
theorem dX11_reads_28 : decode cX11_reads 28 = .ok (.if_icmp .ge 347, 3) := by decide +kernel
theorem dX11_reads_31 : decode cX11_reads 31 = .ok (.aload_n 0, 1) := by decide +kernel
theorem dX11_reads_32 : decode cX11_reads 32 = .ok (.getfield 7, 3) := by decide +kernel
theorem dX11_reads_35 : decode cX11_reads 35 = .ok (.iload_n 1, 1) := by decide +kernel
theorem dX11_reads_36 : decode cX11_reads 36 = .ok (.iconst 1, 1) := by decide +kernel
theorem dX11_reads_37 : decode cX11_reads 37 = .ok (.iadd, 1) := by decide +kernel
theorem dX11_reads_38 : decode cX11_reads 38 = .ok (.iload 5, 2) := by decide +kernel
theorem dX11_reads_40 : decode cX11_reads 40 = .ok (.iadd, 1) := by decide +kernel
theorem dX11_reads_41 : decode cX11_reads 41 = .ok (.iaload, 1) := by decide +kernel
theorem dX11_reads_42 : decode cX11_reads 42 = .ok (.istore 6, 2) := by decide +kernel
theorem dX11_reads_44 : decode cX11_reads 44 = .ok (.iload 6, 2) := by decide +kernel
theorem dX11_reads_46 : decode cX11_reads 46 = .ok (.bipush 32, 2) := by decide +kernel
theorem dX11_reads_48 : decode cX11_reads 48 = .ok (.if_icmp .ne 9, 3) := by decide +kernel
theorem dX11_reads_51 : decode cX11_reads 51 = .ok (.iinc 5 1, 3) := by decide +kernel
theorem dX11_reads_54 : decode cX11_reads 54 = .ok (.goto 318, 3) := by decide +kernel
theorem dX11_reads_57 : decode cX11_reads 57 = .ok (.iload 4, 2) := by decide +kernel
theorem dX11_reads_59 : decode cX11_reads 59 = .ok (.ifCond .eq 82, 3) := by decide +kernel
theorem dX11_reads_62 : decode cX11_reads 62 = .ok (.iload 6, 2) := by decide +kernel
theorem dX11_reads_64 : decode cX11_reads 64 = .ok (.bipush 41, 2) := by decide +kernel
theorem dX11_reads_66 : decode cX11_reads 66 = .ok (.if_icmp .ne 34, 3) := by decide +kernel
theorem dX11_reads_69 : decode cX11_reads 69 = .ok (.iload_n 3, 1) := by decide +kernel
theorem dX11_reads_70 : decode cX11_reads 70 = .ok (.ifCond .le 30, 3) := by decide +kernel
theorem dX11_reads_73 : decode cX11_reads 73 = .ok (.aload_n 0, 1) := by decide +kernel
theorem dX11_reads_74 : decode cX11_reads 74 = .ok (.iconst 1, 1) := by decide +kernel
theorem dX11_reads_75 : decode cX11_reads 75 = .ok (.invokevirtual 120, 3) := by decide +kernel
theorem dX11_reads_78 : decode cX11_reads 78 = .ok (.aload_n 0, 1) := by decide +kernel
theorem dX11_reads_79 : decode cX11_reads 79 = .ok (.dup, 1) := by decide +kernel
theorem dX11_reads_80 : decode cX11_reads 80 = .ok (.getfield 110, 3) := by decide +kernel
theorem dX11_reads_83 : decode cX11_reads 83 = .ok (.iconst 1, 1) := by decide +kernel
theorem dX11_reads_84 : decode cX11_reads 84 = .ok (.isub, 1) := by decide +kernel
theorem dX11_reads_85 : decode cX11_reads 85 = .ok (.putfield 110, 3) := by decide +kernel
theorem dX11_reads_88 : decode cX11_reads 88 = .ok (.iinc 3 (-1), 3) := by decide +kernel
theorem dX11_reads_91 : decode cX11_reads 91 = .ok (.aload_n 0, 1) := by decide +kernel
theorem dX11_reads_92 : decode cX11_reads 92 = .ok (.bipush 6, 2) := by decide +kernel
theorem dX11_reads_94 : decode cX11_reads 94 = .ok (.invokevirtual 120, 3) := by decide +kernel
theorem dX11_reads_97 : decode cX11_reads 97 = .ok (.goto 38, 3) := by decide +kernel
theorem dX11_reads_100 : decode cX11_reads 100 = .ok (.iload 6, 2) := by decide +kernel
theorem dX11_reads_102 : decode cX11_reads 102 = .ok (.invokestatic 127, 3) := by decide +kernel
theorem dX11_reads_105 : decode cX11_reads 105 = .ok (.iconst (-1), 1) := by decide +kernel
theorem dX11_reads_106 : decode cX11_reads 106 = .ok (.if_icmp .eq 21, 3) := by decide +kernel
theorem dX11_reads_109 : decode cX11_reads 109 = .ok (.aload_n 0, 1) := by decide +kernel
theorem dX11_reads_110 : decode cX11_reads 110 = .ok (.iload 6, 2) := by decide +kernel
theorem dX11_reads_112 : decode cX11_reads 112 = .ok (.invokestatic 127, 3) := by decide +kernel
theorem dX11_reads_115 : decode cX11_reads 115 = .ok (.invokevirtual 130, 3) := by decide +kernel
theorem dX11_reads_118 : decode cX11_reads 118 = .ok (.ifCond .eq 9, 3) := by decide +kernel
theorem dX11_reads_121 : decode cX11_reads 121 = .ok (.iconst 0, 1) := by decide +kernel
theorem dX11_reads_122 : decode cX11_reads 122 = .ok (.istore 4, 2) := by decide +kernel
theorem dX11_reads_124 : decode cX11_reads 124 = .ok (.goto 11, 3) := by decide +kernel
theorem dX11_reads_127 : decode cX11_reads 127 = .ok (.bipush 10, 2) := by decide +kernel
theorem dX11_reads_129 : decode cX11_reads 129 = .ok (.iload 5, 2) := by decide +kernel
theorem dX11_reads_131 : decode cX11_reads 131 = .ok (.imul, 1) := by decide +kernel
theorem dX11_reads_132 : decode cX11_reads 132 = .ok (.iconst 1, 1) := by decide +kernel
theorem dX11_reads_133 : decode cX11_reads 133 = .ok (.iadd, 1) := by decide +kernel
theorem dX11_reads_134 : decode cX11_reads 134 = .ok (.ireturn, 1) := by decide +kernel
theorem dX11_reads_135 : decode cX11_reads 135 = .ok (.iinc 5 1, 3) := by decide +kernel
theorem dX11_reads_138 : decode cX11_reads 138 = .ok (.goto 234, 3) := by decide +kernel
theorem dX11_reads_141 : decode cX11_reads 141 = .ok (.iload 6, 2) := by decide +kernel
theorem dX11_reads_143 : decode cX11_reads 143 = .ok (.i2l, 1) := by decide +kernel
theorem dX11_reads_144 : decode cX11_reads 144 = .ok (.ldc2_w 133, 3) := by decide +kernel
theorem dX11_reads_147 : decode cX11_reads 147 = .ok (.ldc2_w 135, 3) := by decide +kernel
theorem dX11_reads_150 : decode cX11_reads 150 = .ok (.invokestatic 67, 3) := by decide +kernel
theorem dX11_reads_153 : decode cX11_reads 153 = .ok (.ifCond .eq 105, 3) := by decide +kernel
theorem dX11_reads_156 : decode cX11_reads 156 = .ok (.iload 5, 2) := by decide +kernel
theorem dX11_reads_158 : decode cX11_reads 158 = .ok (.istore 7, 2) := by decide +kernel
theorem dX11_reads_160 : decode cX11_reads 160 = .ok (.iconst 0, 1) := by decide +kernel
theorem dX11_reads_161 : decode cX11_reads 161 = .ok (.istore 8, 2) := by decide +kernel
theorem dX11_reads_163 : decode cX11_reads 163 = .ok (.iload 5, 2) := by decide +kernel
theorem dX11_reads_165 : decode cX11_reads 165 = .ok (.iload_n 2, 1) := by decide +kernel
theorem dX11_reads_166 : decode cX11_reads 166 = .ok (.if_icmp .ge 73, 3) := by decide +kernel
theorem dX11_reads_169 : decode cX11_reads 169 = .ok (.aload_n 0, 1) := by decide +kernel
theorem dX11_reads_170 : decode cX11_reads 170 = .ok (.getfield 7, 3) := by decide +kernel
theorem dX11_reads_173 : decode cX11_reads 173 = .ok (.iload_n 1, 1) := by decide +kernel
theorem dX11_reads_174 : decode cX11_reads 174 = .ok (.iconst 1, 1) := by decide +kernel
theorem dX11_reads_175 : decode cX11_reads 175 = .ok (.iadd, 1) := by decide +kernel
theorem dX11_reads_176 : decode cX11_reads 176 = .ok (.iload 5, 2) := by decide +kernel
theorem dX11_reads_178 : decode cX11_reads 178 = .ok (.iadd, 1) := by decide +kernel
theorem dX11_reads_179 : decode cX11_reads 179 = .ok (.iaload, 1) := by decide +kernel
theorem dX11_reads_180 : decode cX11_reads 180 = .ok (.i2l, 1) := by decide +kernel
theorem dX11_reads_181 : decode cX11_reads 181 = .ok (.ldc2_w 133, 3) := by decide +kernel
theorem dX11_reads_184 : decode cX11_reads 184 = .ok (.ldc2_w 135, 3) := by decide +kernel
theorem dX11_reads_187 : decode cX11_reads 187 = .ok (.invokestatic 67, 3) := by decide +kernel
theorem dX11_reads_190 : decode cX11_reads 190 = .ok (.ifCond .eq 49, 3) := by decide +kernel
theorem dX11_reads_193 : decode cX11_reads 193 = .ok (.iload 5, 2) := by decide +kernel
theorem dX11_reads_195 : decode cX11_reads 195 = .ok (.iload 7, 2) := by decide +kernel
theorem dX11_reads_197 : decode cX11_reads 197 = .ok (.isub, 1) := by decide +kernel
theorem dX11_reads_198 : decode cX11_reads 198 = .ok (.bipush 6, 2) := by decide +kernel
theorem dX11_reads_200 : decode cX11_reads 200 = .ok (.if_icmp .ne 11, 3) := by decide +kernel
theorem dX11_reads_203 : decode cX11_reads 203 = .ok (.bipush 10, 2) := by decide +kernel
theorem dX11_reads_205 : decode cX11_reads 205 = .ok (.iload 7, 2) := by decide +kernel
theorem dX11_reads_207 : decode cX11_reads 207 = .ok (.imul, 1) := by decide +kernel
theorem dX11_reads_208 : decode cX11_reads 208 = .ok (.iconst 2, 1) := by decide +kernel
theorem dX11_reads_209 : decode cX11_reads 209 = .ok (.iadd, 1) := by decide +kernel
theorem dX11_reads_210 : decode cX11_reads 210 = .ok (.ireturn, 1) := by decide +kernel
theorem dX11_reads_211 : decode cX11_reads 211 = .ok (.bipush 10, 2) := by decide +kernel
theorem dX11_reads_213 : decode cX11_reads 213 = .ok (.iload 8, 2) := by decide +kernel
theorem dX11_reads_215 : decode cX11_reads 215 = .ok (.imul, 1) := by decide +kernel
theorem dX11_reads_216 : decode cX11_reads 216 = .ok (.aload_n 0, 1) := by decide +kernel
theorem dX11_reads_217 : decode cX11_reads 217 = .ok (.getfield 7, 3) := by decide +kernel
theorem dX11_reads_220 : decode cX11_reads 220 = .ok (.iload_n 1, 1) := by decide +kernel
theorem dX11_reads_221 : decode cX11_reads 221 = .ok (.iconst 1, 1) := by decide +kernel
theorem dX11_reads_222 : decode cX11_reads 222 = .ok (.iadd, 1) := by decide +kernel
theorem dX11_reads_223 : decode cX11_reads 223 = .ok (.iload 5, 2) := by decide +kernel
theorem dX11_reads_225 : decode cX11_reads 225 = .ok (.iadd, 1) := by decide +kernel
theorem dX11_reads_226 : decode cX11_reads 226 = .ok (.iaload, 1) := by decide +kernel
theorem dX11_reads_227 : decode cX11_reads 227 = .ok (.iadd, 1) := by decide +kernel
theorem dX11_reads_228 : decode cX11_reads 228 = .ok (.bipush 48, 2) := by decide +kernel
theorem dX11_reads_230 : decode cX11_reads 230 = .ok (.isub, 1) := by decide +kernel
theorem dX11_reads_231 : decode cX11_reads 231 = .ok (.istore 8, 2) := by decide +kernel
theorem dX11_reads_233 : decode cX11_reads 233 = .ok (.iinc 5 1, 3) := by decide +kernel
theorem dX11_reads_236 : decode cX11_reads 236 = .ok (.goto (-73), 3) := by decide +kernel
theorem dX11_reads_239 : decode cX11_reads 239 = .ok (.aload_n 0, 1) := by decide +kernel
theorem dX11_reads_240 : decode cX11_reads 240 = .ok (.iconst 0, 1) := by decide +kernel
theorem dX11_reads_241 : decode cX11_reads 241 = .ok (.iload 8, 2) := by decide +kernel
theorem dX11_reads_243 : decode cX11_reads 243 = .ok (.invokevirtual 116, 3) := by decide +kernel
theorem dX11_reads_246 : decode cX11_reads 246 = .ok (.aload_n 0, 1) := by decide +kernel
theorem dX11_reads_247 : decode cX11_reads 247 = .ok (.bipush 6, 2) := by decide +kernel
theorem dX11_reads_249 : decode cX11_reads 249 = .ok (.invokevirtual 120, 3) := by decide +kernel
theorem dX11_reads_252 : decode cX11_reads 252 = .ok (.iconst 1, 1) := by decide +kernel
theorem dX11_reads_253 : decode cX11_reads 253 = .ok (.istore 4, 2) := by decide +kernel
theorem dX11_reads_255 : decode cX11_reads 255 = .ok (.goto 117, 3) := by decide +kernel
theorem dX11_reads_258 : decode cX11_reads 258 = .ok (.iload 6, 2) := by decide +kernel
theorem dX11_reads_260 : decode cX11_reads 260 = .ok (.invokestatic 137, 3) := by decide +kernel
theorem dX11_reads_263 : decode cX11_reads 263 = .ok (.iconst (-1), 1) := by decide +kernel
theorem dX11_reads_264 : decode cX11_reads 264 = .ok (.if_icmp .eq 28, 3) := by decide +kernel
theorem dX11_reads_267 : decode cX11_reads 267 = .ok (.aload_n 0, 1) := by decide +kernel
theorem dX11_reads_268 : decode cX11_reads 268 = .ok (.iconst 1, 1) := by decide +kernel
theorem dX11_reads_269 : decode cX11_reads 269 = .ok (.iload 6, 2) := by decide +kernel
theorem dX11_reads_271 : decode cX11_reads 271 = .ok (.invokestatic 137, 3) := by decide +kernel
theorem dX11_reads_274 : decode cX11_reads 274 = .ok (.invokevirtual 116, 3) := by decide +kernel
theorem dX11_reads_277 : decode cX11_reads 277 = .ok (.aload_n 0, 1) := by decide +kernel
theorem dX11_reads_278 : decode cX11_reads 278 = .ok (.bipush 6, 2) := by decide +kernel
theorem dX11_reads_280 : decode cX11_reads 280 = .ok (.invokevirtual 120, 3) := by decide +kernel
theorem dX11_reads_283 : decode cX11_reads 283 = .ok (.iconst 1, 1) := by decide +kernel
theorem dX11_reads_284 : decode cX11_reads 284 = .ok (.istore 4, 2) := by decide +kernel
theorem dX11_reads_286 : decode cX11_reads 286 = .ok (.iinc 5 1, 3) := by decide +kernel
theorem dX11_reads_289 : decode cX11_reads 289 = .ok (.goto 83, 3) := by decide +kernel
theorem dX11_reads_292 : decode cX11_reads 292 = .ok (.iload 6, 2) := by decide +kernel
theorem dX11_reads_294 : decode cX11_reads 294 = .ok (.bipush 40, 2) := by decide +kernel
theorem dX11_reads_296 : decode cX11_reads 296 = .ok (.if_icmp .ne 32, 3) := by decide +kernel
theorem dX11_reads_299 : decode cX11_reads 299 = .ok (.iload_n 3, 1) := by decide +kernel
theorem dX11_reads_300 : decode cX11_reads 300 = .ok (.bipush 8, 2) := by decide +kernel
theorem dX11_reads_302 : decode cX11_reads 302 = .ok (.if_icmp .ne 11, 3) := by decide +kernel
theorem dX11_reads_305 : decode cX11_reads 305 = .ok (.bipush 10, 2) := by decide +kernel
theorem dX11_reads_307 : decode cX11_reads 307 = .ok (.iload 5, 2) := by decide +kernel
theorem dX11_reads_309 : decode cX11_reads 309 = .ok (.imul, 1) := by decide +kernel
theorem dX11_reads_310 : decode cX11_reads 310 = .ok (.iconst 3, 1) := by decide +kernel
theorem dX11_reads_311 : decode cX11_reads 311 = .ok (.iadd, 1) := by decide +kernel
theorem dX11_reads_312 : decode cX11_reads 312 = .ok (.ireturn, 1) := by decide +kernel
theorem dX11_reads_313 : decode cX11_reads 313 = .ok (.iinc 3 1, 3) := by decide +kernel
theorem dX11_reads_316 : decode cX11_reads 316 = .ok (.aload_n 0, 1) := by decide +kernel
theorem dX11_reads_317 : decode cX11_reads 317 = .ok (.bipush 13, 2) := by decide +kernel
theorem dX11_reads_319 : decode cX11_reads 319 = .ok (.invokevirtual 124, 3) := by decide +kernel
theorem dX11_reads_322 : decode cX11_reads 322 = .ok (.iinc 5 1, 3) := by decide +kernel
theorem dX11_reads_325 : decode cX11_reads 325 = .ok (.goto 47, 3) := by decide +kernel
theorem dX11_reads_328 : decode cX11_reads 328 = .ok (.iload 6, 2) := by decide +kernel
theorem dX11_reads_330 : decode cX11_reads 330 = .ok (.bipush 45, 2) := by decide +kernel
theorem dX11_reads_332 : decode cX11_reads 332 = .ok (.if_icmp .eq 10, 3) := by decide +kernel
theorem dX11_reads_335 : decode cX11_reads 335 = .ok (.iload 6, 2) := by decide +kernel
theorem dX11_reads_337 : decode cX11_reads 337 = .ok (.bipush 33, 2) := by decide +kernel
theorem dX11_reads_339 : decode cX11_reads 339 = .ok (.if_icmp .ne 25, 3) := by decide +kernel
theorem dX11_reads_342 : decode cX11_reads 342 = .ok (.aload_n 0, 1) := by decide +kernel
theorem dX11_reads_343 : decode cX11_reads 343 = .ok (.iload 6, 2) := by decide +kernel
theorem dX11_reads_345 : decode cX11_reads 345 = .ok (.bipush 45, 2) := by decide +kernel
theorem dX11_reads_347 : decode cX11_reads 347 = .ok (.if_icmp .ne 7, 3) := by decide +kernel
theorem dX11_reads_350 : decode cX11_reads 350 = .ok (.iconst 3, 1) := by decide +kernel
theorem dX11_reads_351 : decode cX11_reads 351 = .ok (.goto 4, 3) := by decide +kernel
theorem dX11_reads_354 : decode cX11_reads 354 = .ok (.iconst 2, 1) := by decide +kernel
theorem dX11_reads_355 : decode cX11_reads 355 = .ok (.invokevirtual 124, 3) := by decide +kernel
theorem dX11_reads_358 : decode cX11_reads 358 = .ok (.iinc 5 1, 3) := by decide +kernel
theorem dX11_reads_361 : decode cX11_reads 361 = .ok (.goto 11, 3) := by decide +kernel
theorem dX11_reads_364 : decode cX11_reads 364 = .ok (.bipush 10, 2) := by decide +kernel
theorem dX11_reads_366 : decode cX11_reads 366 = .ok (.iload 5, 2) := by decide +kernel
theorem dX11_reads_368 : decode cX11_reads 368 = .ok (.imul, 1) := by decide +kernel
theorem dX11_reads_369 : decode cX11_reads 369 = .ok (.iconst 1, 1) := by decide +kernel
theorem dX11_reads_370 : decode cX11_reads 370 = .ok (.iadd, 1) := by decide +kernel
theorem dX11_reads_371 : decode cX11_reads 371 = .ok (.ireturn, 1) := by decide +kernel
theorem dX11_reads_372 : decode cX11_reads 372 = .ok (.goto (-347), 3) := by decide +kernel
theorem dX11_reads_375 : decode cX11_reads 375 = .ok (.aload_n 0, 1) := by decide +kernel
theorem dX11_reads_376 : decode cX11_reads 376 = .ok (.iconst 1, 1) := by decide +kernel
theorem dX11_reads_377 : decode cX11_reads 377 = .ok (.invokevirtual 120, 3) := by decide +kernel
theorem dX11_reads_380 : decode cX11_reads 380 = .ok (.iload 4, 2) := by decide +kernel
theorem dX11_reads_382 : decode cX11_reads 382 = .ok (.ifCond .eq 11, 3) := by decide +kernel
theorem dX11_reads_385 : decode cX11_reads 385 = .ok (.iload_n 3, 1) := by decide +kernel
theorem dX11_reads_386 : decode cX11_reads 386 = .ok (.ifCond .ne 7, 3) := by decide +kernel
theorem dX11_reads_389 : decode cX11_reads 389 = .ok (.iconst (-1), 1) := by decide +kernel
theorem dX11_reads_390 : decode cX11_reads 390 = .ok (.goto 9, 3) := by decide +kernel
theorem dX11_reads_393 : decode cX11_reads 393 = .ok (.bipush 10, 2) := by decide +kernel
theorem dX11_reads_395 : decode cX11_reads 395 = .ok (.iload_n 2, 1) := by decide +kernel
theorem dX11_reads_396 : decode cX11_reads 396 = .ok (.imul, 1) := by decide +kernel
theorem dX11_reads_397 : decode cX11_reads 397 = .ok (.iconst 1, 1) := by decide +kernel
theorem dX11_reads_398 : decode cX11_reads 398 = .ok (.iadd, 1) := by decide +kernel
theorem dX11_reads_399 : decode cX11_reads 399 = .ok (.ireturn, 1) := by decide +kernel
theorem dX11_findSat_0 : decode cX11_findSat 0 = .ok (.aload_n 0, 1) := by decide +kernel
theorem dX11_findSat_1 : decode cX11_findSat 1 = .ok (.iconst 0, 1) := by decide +kernel
theorem dX11_findSat_2 : decode cX11_findSat 2 = .ok (.putfield 140, 3) := by decide +kernel
theorem dX11_findSat_5 : decode cX11_findSat 5 = .ok (.aload_n 0, 1) := by decide +kernel
theorem dX11_findSat_6 : decode cX11_findSat 6 = .ok (.iconst (-1), 1) := by decide +kernel
theorem dX11_findSat_7 : decode cX11_findSat 7 = .ok (.putfield 143, 3) := by decide +kernel
theorem dX11_findSat_10 : decode cX11_findSat 10 = .ok (.iconst 0, 1) := by decide +kernel
theorem dX11_findSat_11 : decode cX11_findSat 11 = .ok (.istore_n 3, 1) := by decide +kernel
theorem dX11_findSat_12 : decode cX11_findSat 12 = .ok (.iload_n 3, 1) := by decide +kernel
theorem dX11_findSat_13 : decode cX11_findSat 13 = .ok (.aload_n 0, 1) := by decide +kernel
theorem dX11_findSat_14 : decode cX11_findSat 14 = .ok (.getfield 146, 3) := by decide +kernel
theorem dX11_findSat_17 : decode cX11_findSat 17 = .ok (.if_icmp .ge 75, 3) := by decide +kernel
theorem dX11_findSat_20 : decode cX11_findSat 20 = .ok (.aload_n 0, 1) := by decide +kernel
theorem dX11_findSat_21 : decode cX11_findSat 21 = .ok (.iload_n 3, 1) := by decide +kernel
theorem dX11_findSat_22 : decode cX11_findSat 22 = .ok (.iconst 0, 1) := by decide +kernel
theorem dX11_findSat_23 : decode cX11_findSat 23 = .ok (.invokevirtual 149, 3) := by decide +kernel
theorem dX11_findSat_26 : decode cX11_findSat 26 = .ok (.istore 4, 2) := by decide +kernel
theorem dX11_findSat_28 : decode cX11_findSat 28 = .ok (.iload 4, 2) := by decide +kernel
theorem dX11_findSat_30 : decode cX11_findSat 30 = .ok (.iload_n 2, 1) := by decide +kernel
theorem dX11_findSat_31 : decode cX11_findSat 31 = .ok (.if_icmp .ge 55, 3) := by decide +kernel
theorem dX11_findSat_34 : decode cX11_findSat 34 = .ok (.aload_n 0, 1) := by decide +kernel
theorem dX11_findSat_35 : decode cX11_findSat 35 = .ok (.getfield 36, 3) := by decide +kernel
theorem dX11_findSat_38 : decode cX11_findSat 38 = .ok (.iload_n 3, 1) := by decide +kernel
theorem dX11_findSat_39 : decode cX11_findSat 39 = .ok (.iaload, 1) := by decide +kernel
theorem dX11_findSat_40 : decode cX11_findSat 40 = .ok (.iload_n 1, 1) := by decide +kernel
theorem dX11_findSat_41 : decode cX11_findSat 41 = .ok (.ishr, 1) := by decide +kernel
theorem dX11_findSat_42 : decode cX11_findSat 42 = .ok (.iconst 1, 1) := by decide +kernel
theorem dX11_findSat_43 : decode cX11_findSat 43 = .ok (.iand, 1) := by decide +kernel
theorem dX11_findSat_44 : decode cX11_findSat 44 = .ok (.iconst 1, 1) := by decide +kernel
theorem dX11_findSat_45 : decode cX11_findSat 45 = .ok (.if_icmp .ne 41, 3) := by decide +kernel
theorem dX11_findSat_48 : decode cX11_findSat 48 = .ok (.aload_n 0, 1) := by decide +kernel
theorem dX11_findSat_49 : decode cX11_findSat 49 = .ok (.dup, 1) := by decide +kernel
theorem dX11_findSat_50 : decode cX11_findSat 50 = .ok (.getfield 140, 3) := by decide +kernel
theorem dX11_findSat_53 : decode cX11_findSat 53 = .ok (.iconst 1, 1) := by decide +kernel
theorem dX11_findSat_54 : decode cX11_findSat 54 = .ok (.iadd, 1) := by decide +kernel
theorem dX11_findSat_55 : decode cX11_findSat 55 = .ok (.putfield 140, 3) := by decide +kernel
theorem dX11_findSat_58 : decode cX11_findSat 58 = .ok (.aload_n 0, 1) := by decide +kernel
theorem dX11_findSat_59 : decode cX11_findSat 59 = .ok (.iload 4, 2) := by decide +kernel
theorem dX11_findSat_61 : decode cX11_findSat 61 = .ok (.bipush 100, 2) := by decide +kernel
theorem dX11_findSat_63 : decode cX11_findSat 63 = .ok (.idiv, 1) := by decide +kernel
theorem dX11_findSat_64 : decode cX11_findSat 64 = .ok (.aload_n 0, 1) := by decide +kernel
theorem dX11_findSat_65 : decode cX11_findSat 65 = .ok (.getfield 143, 3) := by decide +kernel
theorem dX11_findSat_68 : decode cX11_findSat 68 = .ok (.if_icmp .le 11, 3) := by decide +kernel
theorem dX11_findSat_71 : decode cX11_findSat 71 = .ok (.iload 4, 2) := by decide +kernel
theorem dX11_findSat_73 : decode cX11_findSat 73 = .ok (.bipush 100, 2) := by decide +kernel
theorem dX11_findSat_75 : decode cX11_findSat 75 = .ok (.idiv, 1) := by decide +kernel
theorem dX11_findSat_76 : decode cX11_findSat 76 = .ok (.goto 7, 3) := by decide +kernel
theorem dX11_findSat_79 : decode cX11_findSat 79 = .ok (.aload_n 0, 1) := by decide +kernel
theorem dX11_findSat_80 : decode cX11_findSat 80 = .ok (.getfield 143, 3) := by decide +kernel
theorem dX11_findSat_83 : decode cX11_findSat 83 = .ok (.putfield 143, 3) := by decide +kernel
theorem dX11_findSat_86 : decode cX11_findSat 86 = .ok (.iinc 3 1, 3) := by decide +kernel
theorem dX11_findSat_89 : decode cX11_findSat 89 = .ok (.goto (-77), 3) := by decide +kernel
theorem dX11_findSat_92 : decode cX11_findSat 92 = .ok (.return_, 1) := by decide +kernel
theorem dX11_named_0 : decode cX11_named 0 = .ok (.bipush 10, 2) := by decide +kernel
theorem dX11_named_2 : decode cX11_named 2 = .ok (.iconst 4, 1) := by decide +kernel
theorem dX11_named_3 : decode cX11_named 3 = .ok (.iload_n 1, 1) := by decide +kernel
theorem dX11_named_4 : decode cX11_named 4 = .ok (.imul, 1) := by decide +kernel
theorem dX11_named_5 : decode cX11_named 5 = .ok (.iadd, 1) := by decide +kernel
theorem dX11_named_6 : decode cX11_named 6 = .ok (.istore 4, 2) := by decide +kernel
theorem dX11_named_8 : decode cX11_named 8 = .ok (.iload_n 3, 1) := by decide +kernel
theorem dX11_named_9 : decode cX11_named 9 = .ok (.tableswitch 91 0 4 #[35, 54, 65, 76, 85], 35) := by decide +kernel
theorem dX11_named_44 : decode cX11_named 44 = .ok (.bipush 100, 2) := by decide +kernel
theorem dX11_named_46 : decode cX11_named 46 = .ok (.iload_n 2, 1) := by decide +kernel
theorem dX11_named_47 : decode cX11_named 47 = .ok (.bipush 100, 2) := by decide +kernel
theorem dX11_named_49 : decode cX11_named 49 = .ok (.idiv, 1) := by decide +kernel
theorem dX11_named_50 : decode cX11_named 50 = .ok (.iadd, 1) := by decide +kernel
theorem dX11_named_51 : decode cX11_named 51 = .ok (.aload_n 0, 1) := by decide +kernel
theorem dX11_named_52 : decode cX11_named 52 = .ok (.getfield 7, 3) := by decide +kernel
theorem dX11_named_55 : decode cX11_named 55 = .ok (.iload 4, 2) := by decide +kernel
theorem dX11_named_57 : decode cX11_named 57 = .ok (.iconst 3, 1) := by decide +kernel
theorem dX11_named_58 : decode cX11_named 58 = .ok (.iadd, 1) := by decide +kernel
theorem dX11_named_59 : decode cX11_named 59 = .ok (.iaload, 1) := by decide +kernel
theorem dX11_named_60 : decode cX11_named 60 = .ok (.isub, 1) := by decide +kernel
theorem dX11_named_61 : decode cX11_named 61 = .ok (.i2l, 1) := by decide +kernel
theorem dX11_named_62 : decode cX11_named 62 = .ok (.lreturn, 1) := by decide +kernel
theorem dX11_named_63 : decode cX11_named 63 = .ok (.aload_n 0, 1) := by decide +kernel
theorem dX11_named_64 : decode cX11_named 64 = .ok (.getfield 7, 3) := by decide +kernel
theorem dX11_named_67 : decode cX11_named 67 = .ok (.iload 4, 2) := by decide +kernel
theorem dX11_named_69 : decode cX11_named 69 = .ok (.iconst 2, 1) := by decide +kernel
theorem dX11_named_70 : decode cX11_named 70 = .ok (.iadd, 1) := by decide +kernel
theorem dX11_named_71 : decode cX11_named 71 = .ok (.iaload, 1) := by decide +kernel
theorem dX11_named_72 : decode cX11_named 72 = .ok (.i2l, 1) := by decide +kernel
theorem dX11_named_73 : decode cX11_named 73 = .ok (.lreturn, 1) := by decide +kernel
theorem dX11_named_74 : decode cX11_named 74 = .ok (.aload_n 0, 1) := by decide +kernel
theorem dX11_named_75 : decode cX11_named 75 = .ok (.getfield 7, 3) := by decide +kernel
theorem dX11_named_78 : decode cX11_named 78 = .ok (.iload 4, 2) := by decide +kernel
theorem dX11_named_80 : decode cX11_named 80 = .ok (.iconst 1, 1) := by decide +kernel
theorem dX11_named_81 : decode cX11_named 81 = .ok (.iadd, 1) := by decide +kernel
theorem dX11_named_82 : decode cX11_named 82 = .ok (.iaload, 1) := by decide +kernel
theorem dX11_named_83 : decode cX11_named 83 = .ok (.i2l, 1) := by decide +kernel
theorem dX11_named_84 : decode cX11_named 84 = .ok (.lreturn, 1) := by decide +kernel
theorem dX11_named_85 : decode cX11_named 85 = .ok (.aload_n 0, 1) := by decide +kernel
theorem dX11_named_86 : decode cX11_named 86 = .ok (.getfield 7, 3) := by decide +kernel
theorem dX11_named_89 : decode cX11_named 89 = .ok (.iload 4, 2) := by decide +kernel
theorem dX11_named_91 : decode cX11_named 91 = .ok (.iaload, 1) := by decide +kernel
theorem dX11_named_92 : decode cX11_named 92 = .ok (.i2l, 1) := by decide +kernel
theorem dX11_named_93 : decode cX11_named 93 = .ok (.lreturn, 1) := by decide +kernel
theorem dX11_named_94 : decode cX11_named 94 = .ok (.aload_n 0, 1) := by decide +kernel
theorem dX11_named_95 : decode cX11_named 95 = .ok (.getfield 140, 3) := by decide +kernel
theorem dX11_named_98 : decode cX11_named 98 = .ok (.i2l, 1) := by decide +kernel
theorem dX11_named_99 : decode cX11_named 99 = .ok (.lreturn, 1) := by decide +kernel
theorem dX11_named_100 : decode cX11_named 100 = .ok (.aload_n 0, 1) := by decide +kernel
theorem dX11_named_101 : decode cX11_named 101 = .ok (.getfield 140, 3) := by decide +kernel
theorem dX11_named_104 : decode cX11_named 104 = .ok (.ifCond .ne 9, 3) := by decide +kernel
theorem dX11_named_107 : decode cX11_named 107 = .ok (.ldc2_w 153, 3) := by decide +kernel
theorem dX11_named_110 : decode cX11_named 110 = .ok (.goto 13, 3) := by decide +kernel
theorem dX11_named_113 : decode cX11_named 113 = .ok (.iload_n 2, 1) := by decide +kernel
theorem dX11_named_114 : decode cX11_named 114 = .ok (.bipush 100, 2) := by decide +kernel
theorem dX11_named_116 : decode cX11_named 116 = .ok (.idiv, 1) := by decide +kernel
theorem dX11_named_117 : decode cX11_named 117 = .ok (.aload_n 0, 1) := by decide +kernel
theorem dX11_named_118 : decode cX11_named 118 = .ok (.getfield 143, 3) := by decide +kernel
theorem dX11_named_121 : decode cX11_named 121 = .ok (.isub, 1) := by decide +kernel
theorem dX11_named_122 : decode cX11_named 122 = .ok (.i2l, 1) := by decide +kernel
theorem dX11_named_123 : decode cX11_named 123 = .ok (.lreturn, 1) := by decide +kernel
theorem dX11_twoOf_0 : decode cX11_twoOf 0 = .ok (.iload_n 0, 1) := by decide +kernel
theorem dX11_twoOf_1 : decode cX11_twoOf 1 = .ok (.tableswitch 127 4 11 #[47, 51, 65, 69, 73, 85, 97, 109], 47) := by decide +kernel
theorem dX11_twoOf_48 : decode cX11_twoOf 48 = .ok (.lload_n 1, 1) := by decide +kernel
theorem dX11_twoOf_49 : decode cX11_twoOf 49 = .ok (.lload_n 3, 1) := by decide +kernel
theorem dX11_twoOf_50 : decode cX11_twoOf 50 = .ok (.lmul, 1) := by decide +kernel
theorem dX11_twoOf_51 : decode cX11_twoOf 51 = .ok (.lreturn, 1) := by decide +kernel
theorem dX11_twoOf_52 : decode cX11_twoOf 52 = .ok (.lload_n 3, 1) := by decide +kernel
theorem dX11_twoOf_53 : decode cX11_twoOf 53 = .ok (.lconst 0, 1) := by decide +kernel
theorem dX11_twoOf_54 : decode cX11_twoOf 54 = .ok (.lcmp, 1) := by decide +kernel
theorem dX11_twoOf_55 : decode cX11_twoOf 55 = .ok (.ifCond .ne 7, 3) := by decide +kernel
theorem dX11_twoOf_58 : decode cX11_twoOf 58 = .ok (.lconst 0, 1) := by decide +kernel
theorem dX11_twoOf_59 : decode cX11_twoOf 59 = .ok (.goto 6, 3) := by decide +kernel
theorem dX11_twoOf_62 : decode cX11_twoOf 62 = .ok (.lload_n 1, 1) := by decide +kernel
theorem dX11_twoOf_63 : decode cX11_twoOf 63 = .ok (.lload_n 3, 1) := by decide +kernel
theorem dX11_twoOf_64 : decode cX11_twoOf 64 = .ok (.ldiv, 1) := by decide +kernel
theorem dX11_twoOf_65 : decode cX11_twoOf 65 = .ok (.lreturn, 1) := by decide +kernel
theorem dX11_twoOf_66 : decode cX11_twoOf 66 = .ok (.lload_n 1, 1) := by decide +kernel
theorem dX11_twoOf_67 : decode cX11_twoOf 67 = .ok (.lload_n 3, 1) := by decide +kernel
theorem dX11_twoOf_68 : decode cX11_twoOf 68 = .ok (.ladd, 1) := by decide +kernel
theorem dX11_twoOf_69 : decode cX11_twoOf 69 = .ok (.lreturn, 1) := by decide +kernel
theorem dX11_twoOf_70 : decode cX11_twoOf 70 = .ok (.lload_n 1, 1) := by decide +kernel
theorem dX11_twoOf_71 : decode cX11_twoOf 71 = .ok (.lload_n 3, 1) := by decide +kernel
theorem dX11_twoOf_72 : decode cX11_twoOf 72 = .ok (.lsub, 1) := by decide +kernel
theorem dX11_twoOf_73 : decode cX11_twoOf 73 = .ok (.lreturn, 1) := by decide +kernel
theorem dX11_twoOf_74 : decode cX11_twoOf 74 = .ok (.lload_n 1, 1) := by decide +kernel
theorem dX11_twoOf_75 : decode cX11_twoOf 75 = .ok (.lload_n 3, 1) := by decide +kernel
theorem dX11_twoOf_76 : decode cX11_twoOf 76 = .ok (.lcmp, 1) := by decide +kernel
theorem dX11_twoOf_77 : decode cX11_twoOf 77 = .ok (.ifCond .ge 7, 3) := by decide +kernel
theorem dX11_twoOf_80 : decode cX11_twoOf 80 = .ok (.lconst 1, 1) := by decide +kernel
theorem dX11_twoOf_81 : decode cX11_twoOf 81 = .ok (.goto 4, 3) := by decide +kernel
theorem dX11_twoOf_84 : decode cX11_twoOf 84 = .ok (.lconst 0, 1) := by decide +kernel
theorem dX11_twoOf_85 : decode cX11_twoOf 85 = .ok (.lreturn, 1) := by decide +kernel
theorem dX11_twoOf_86 : decode cX11_twoOf 86 = .ok (.lload_n 1, 1) := by decide +kernel
theorem dX11_twoOf_87 : decode cX11_twoOf 87 = .ok (.lload_n 3, 1) := by decide +kernel
theorem dX11_twoOf_88 : decode cX11_twoOf 88 = .ok (.lcmp, 1) := by decide +kernel
theorem dX11_twoOf_89 : decode cX11_twoOf 89 = .ok (.ifCond .le 7, 3) := by decide +kernel
theorem dX11_twoOf_92 : decode cX11_twoOf 92 = .ok (.lconst 1, 1) := by decide +kernel
theorem dX11_twoOf_93 : decode cX11_twoOf 93 = .ok (.goto 4, 3) := by decide +kernel
theorem dX11_twoOf_96 : decode cX11_twoOf 96 = .ok (.lconst 0, 1) := by decide +kernel
theorem dX11_twoOf_97 : decode cX11_twoOf 97 = .ok (.lreturn, 1) := by decide +kernel
theorem dX11_twoOf_98 : decode cX11_twoOf 98 = .ok (.lload_n 1, 1) := by decide +kernel
theorem dX11_twoOf_99 : decode cX11_twoOf 99 = .ok (.lload_n 3, 1) := by decide +kernel
theorem dX11_twoOf_100 : decode cX11_twoOf 100 = .ok (.lcmp, 1) := by decide +kernel
theorem dX11_twoOf_101 : decode cX11_twoOf 101 = .ok (.ifCond .ne 7, 3) := by decide +kernel
theorem dX11_twoOf_104 : decode cX11_twoOf 104 = .ok (.lconst 1, 1) := by decide +kernel
theorem dX11_twoOf_105 : decode cX11_twoOf 105 = .ok (.goto 4, 3) := by decide +kernel
theorem dX11_twoOf_108 : decode cX11_twoOf 108 = .ok (.lconst 0, 1) := by decide +kernel
theorem dX11_twoOf_109 : decode cX11_twoOf 109 = .ok (.lreturn, 1) := by decide +kernel
theorem dX11_twoOf_110 : decode cX11_twoOf 110 = .ok (.lload_n 1, 1) := by decide +kernel
theorem dX11_twoOf_111 : decode cX11_twoOf 111 = .ok (.lconst 0, 1) := by decide +kernel
theorem dX11_twoOf_112 : decode cX11_twoOf 112 = .ok (.lcmp, 1) := by decide +kernel
theorem dX11_twoOf_113 : decode cX11_twoOf 113 = .ok (.ifCond .eq 13, 3) := by decide +kernel
theorem dX11_twoOf_116 : decode cX11_twoOf 116 = .ok (.lload_n 3, 1) := by decide +kernel
theorem dX11_twoOf_117 : decode cX11_twoOf 117 = .ok (.lconst 0, 1) := by decide +kernel
theorem dX11_twoOf_118 : decode cX11_twoOf 118 = .ok (.lcmp, 1) := by decide +kernel
theorem dX11_twoOf_119 : decode cX11_twoOf 119 = .ok (.ifCond .eq 7, 3) := by decide +kernel
theorem dX11_twoOf_122 : decode cX11_twoOf 122 = .ok (.lconst 1, 1) := by decide +kernel
theorem dX11_twoOf_123 : decode cX11_twoOf 123 = .ok (.goto 4, 3) := by decide +kernel
theorem dX11_twoOf_126 : decode cX11_twoOf 126 = .ok (.lconst 0, 1) := by decide +kernel
theorem dX11_twoOf_127 : decode cX11_twoOf 127 = .ok (.lreturn, 1) := by decide +kernel
theorem dX11_twoOf_128 : decode cX11_twoOf 128 = .ok (.lload_n 1, 1) := by decide +kernel
theorem dX11_twoOf_129 : decode cX11_twoOf 129 = .ok (.lconst 0, 1) := by decide +kernel
theorem dX11_twoOf_130 : decode cX11_twoOf 130 = .ok (.lcmp, 1) := by decide +kernel
theorem dX11_twoOf_131 : decode cX11_twoOf 131 = .ok (.ifCond .ne 9, 3) := by decide +kernel
theorem dX11_twoOf_134 : decode cX11_twoOf 134 = .ok (.lload_n 3, 1) := by decide +kernel
theorem dX11_twoOf_135 : decode cX11_twoOf 135 = .ok (.lconst 0, 1) := by decide +kernel
theorem dX11_twoOf_136 : decode cX11_twoOf 136 = .ok (.lcmp, 1) := by decide +kernel
theorem dX11_twoOf_137 : decode cX11_twoOf 137 = .ok (.ifCond .eq 7, 3) := by decide +kernel
theorem dX11_twoOf_140 : decode cX11_twoOf 140 = .ok (.lconst 1, 1) := by decide +kernel
theorem dX11_twoOf_141 : decode cX11_twoOf 141 = .ok (.goto 4, 3) := by decide +kernel
theorem dX11_twoOf_144 : decode cX11_twoOf 144 = .ok (.lconst 0, 1) := by decide +kernel
theorem dX11_twoOf_145 : decode cX11_twoOf 145 = .ok (.lreturn, 1) := by decide +kernel
theorem dX11_tellsOf_0 : decode cX11_tellsOf 0 = .ok (.aload_n 0, 1) := by decide +kernel
theorem dX11_tellsOf_1 : decode cX11_tellsOf 1 = .ok (.iload_n 1, 1) := by decide +kernel
theorem dX11_tellsOf_2 : decode cX11_tellsOf 2 = .ok (.iload_n 2, 1) := by decide +kernel
theorem dX11_tellsOf_3 : decode cX11_tellsOf 3 = .ok (.invokevirtual 155, 3) := by decide +kernel
theorem dX11_tellsOf_6 : decode cX11_tellsOf 6 = .ok (.iconst 0, 1) := by decide +kernel
theorem dX11_tellsOf_7 : decode cX11_tellsOf 7 = .ok (.istore_n 3, 1) := by decide +kernel
theorem dX11_tellsOf_8 : decode cX11_tellsOf 8 = .ok (.iconst 0, 1) := by decide +kernel
theorem dX11_tellsOf_9 : decode cX11_tellsOf 9 = .ok (.istore 4, 2) := by decide +kernel
theorem dX11_tellsOf_11 : decode cX11_tellsOf 11 = .ok (.iload 4, 2) := by decide +kernel
theorem dX11_tellsOf_13 : decode cX11_tellsOf 13 = .ok (.aload_n 0, 1) := by decide +kernel
theorem dX11_tellsOf_14 : decode cX11_tellsOf 14 = .ok (.getfield 106, 3) := by decide +kernel
theorem dX11_tellsOf_17 : decode cX11_tellsOf 17 = .ok (.if_icmp .ge 161, 3) := by decide +kernel
theorem dX11_tellsOf_20 : decode cX11_tellsOf 20 = .ok (.aload_n 0, 1) := by decide +kernel
theorem dX11_tellsOf_21 : decode cX11_tellsOf 21 = .ok (.getfield 20, 3) := by decide +kernel
theorem dX11_tellsOf_24 : decode cX11_tellsOf 24 = .ok (.iload 4, 2) := by decide +kernel
theorem dX11_tellsOf_26 : decode cX11_tellsOf 26 = .ok (.iaload, 1) := by decide +kernel
theorem dX11_tellsOf_27 : decode cX11_tellsOf 27 = .ok (.istore 5, 2) := by decide +kernel
theorem dX11_tellsOf_29 : decode cX11_tellsOf 29 = .ok (.iload 5, 2) := by decide +kernel
theorem dX11_tellsOf_31 : decode cX11_tellsOf 31 = .ok (.ifCond .eq 9, 3) := by decide +kernel
theorem dX11_tellsOf_34 : decode cX11_tellsOf 34 = .ok (.iload 5, 2) := by decide +kernel
theorem dX11_tellsOf_36 : decode cX11_tellsOf 36 = .ok (.iconst 1, 1) := by decide +kernel
theorem dX11_tellsOf_37 : decode cX11_tellsOf 37 = .ok (.if_icmp .ne 44, 3) := by decide +kernel
theorem dX11_tellsOf_40 : decode cX11_tellsOf 40 = .ok (.aload_n 0, 1) := by decide +kernel
theorem dX11_tellsOf_41 : decode cX11_tellsOf 41 = .ok (.getfield 29, 3) := by decide +kernel
theorem dX11_tellsOf_44 : decode cX11_tellsOf 44 = .ok (.iload_n 3, 1) := by decide +kernel
theorem dX11_tellsOf_45 : decode cX11_tellsOf 45 = .ok (.iload 5, 2) := by decide +kernel
theorem dX11_tellsOf_47 : decode cX11_tellsOf 47 = .ok (.ifCond .ne 14, 3) := by decide +kernel
theorem dX11_tellsOf_50 : decode cX11_tellsOf 50 = .ok (.aload_n 0, 1) := by decide +kernel
theorem dX11_tellsOf_51 : decode cX11_tellsOf 51 = .ok (.getfield 23, 3) := by decide +kernel
theorem dX11_tellsOf_54 : decode cX11_tellsOf 54 = .ok (.iload 4, 2) := by decide +kernel
theorem dX11_tellsOf_56 : decode cX11_tellsOf 56 = .ok (.iaload, 1) := by decide +kernel
theorem dX11_tellsOf_57 : decode cX11_tellsOf 57 = .ok (.i2l, 1) := by decide +kernel
theorem dX11_tellsOf_58 : decode cX11_tellsOf 58 = .ok (.goto 16, 3) := by decide +kernel
theorem dX11_tellsOf_61 : decode cX11_tellsOf 61 = .ok (.aload_n 0, 1) := by decide +kernel
theorem dX11_tellsOf_62 : decode cX11_tellsOf 62 = .ok (.iload_n 1, 1) := by decide +kernel
theorem dX11_tellsOf_63 : decode cX11_tellsOf 63 = .ok (.iload_n 2, 1) := by decide +kernel
theorem dX11_tellsOf_64 : decode cX11_tellsOf 64 = .ok (.aload_n 0, 1) := by decide +kernel
theorem dX11_tellsOf_65 : decode cX11_tellsOf 65 = .ok (.getfield 23, 3) := by decide +kernel
theorem dX11_tellsOf_68 : decode cX11_tellsOf 68 = .ok (.iload 4, 2) := by decide +kernel
theorem dX11_tellsOf_70 : decode cX11_tellsOf 70 = .ok (.iaload, 1) := by decide +kernel
theorem dX11_tellsOf_71 : decode cX11_tellsOf 71 = .ok (.invokevirtual 158, 3) := by decide +kernel
theorem dX11_tellsOf_74 : decode cX11_tellsOf 74 = .ok (.lastore, 1) := by decide +kernel
theorem dX11_tellsOf_75 : decode cX11_tellsOf 75 = .ok (.iinc 3 1, 3) := by decide +kernel
theorem dX11_tellsOf_78 : decode cX11_tellsOf 78 = .ok (.goto 94, 3) := by decide +kernel
theorem dX11_tellsOf_81 : decode cX11_tellsOf 81 = .ok (.iload 5, 2) := by decide +kernel
theorem dX11_tellsOf_83 : decode cX11_tellsOf 83 = .ok (.iconst 3, 1) := by decide +kernel
theorem dX11_tellsOf_84 : decode cX11_tellsOf 84 = .ok (.if_icmp .ne 23, 3) := by decide +kernel
theorem dX11_tellsOf_87 : decode cX11_tellsOf 87 = .ok (.aload_n 0, 1) := by decide +kernel
theorem dX11_tellsOf_88 : decode cX11_tellsOf 88 = .ok (.getfield 29, 3) := by decide +kernel
theorem dX11_tellsOf_91 : decode cX11_tellsOf 91 = .ok (.iload_n 3, 1) := by decide +kernel
theorem dX11_tellsOf_92 : decode cX11_tellsOf 92 = .ok (.iconst 1, 1) := by decide +kernel
theorem dX11_tellsOf_93 : decode cX11_tellsOf 93 = .ok (.isub, 1) := by decide +kernel
theorem dX11_tellsOf_94 : decode cX11_tellsOf 94 = .ok (.aload_n 0, 1) := by decide +kernel
theorem dX11_tellsOf_95 : decode cX11_tellsOf 95 = .ok (.getfield 29, 3) := by decide +kernel
theorem dX11_tellsOf_98 : decode cX11_tellsOf 98 = .ok (.iload_n 3, 1) := by decide +kernel
theorem dX11_tellsOf_99 : decode cX11_tellsOf 99 = .ok (.iconst 1, 1) := by decide +kernel
theorem dX11_tellsOf_100 : decode cX11_tellsOf 100 = .ok (.isub, 1) := by decide +kernel
theorem dX11_tellsOf_101 : decode cX11_tellsOf 101 = .ok (.laload, 1) := by decide +kernel
theorem dX11_tellsOf_102 : decode cX11_tellsOf 102 = .ok (.lneg, 1) := by decide +kernel
theorem dX11_tellsOf_103 : decode cX11_tellsOf 103 = .ok (.lastore, 1) := by decide +kernel
theorem dX11_tellsOf_104 : decode cX11_tellsOf 104 = .ok (.goto 68, 3) := by decide +kernel
theorem dX11_tellsOf_107 : decode cX11_tellsOf 107 = .ok (.iload 5, 2) := by decide +kernel
theorem dX11_tellsOf_109 : decode cX11_tellsOf 109 = .ok (.iconst 2, 1) := by decide +kernel
theorem dX11_tellsOf_110 : decode cX11_tellsOf 110 = .ok (.if_icmp .ne 32, 3) := by decide +kernel
theorem dX11_tellsOf_113 : decode cX11_tellsOf 113 = .ok (.aload_n 0, 1) := by decide +kernel
theorem dX11_tellsOf_114 : decode cX11_tellsOf 114 = .ok (.getfield 29, 3) := by decide +kernel
theorem dX11_tellsOf_117 : decode cX11_tellsOf 117 = .ok (.iload_n 3, 1) := by decide +kernel
theorem dX11_tellsOf_118 : decode cX11_tellsOf 118 = .ok (.iconst 1, 1) := by decide +kernel
theorem dX11_tellsOf_119 : decode cX11_tellsOf 119 = .ok (.isub, 1) := by decide +kernel
theorem dX11_tellsOf_120 : decode cX11_tellsOf 120 = .ok (.aload_n 0, 1) := by decide +kernel
theorem dX11_tellsOf_121 : decode cX11_tellsOf 121 = .ok (.getfield 29, 3) := by decide +kernel
theorem dX11_tellsOf_124 : decode cX11_tellsOf 124 = .ok (.iload_n 3, 1) := by decide +kernel
theorem dX11_tellsOf_125 : decode cX11_tellsOf 125 = .ok (.iconst 1, 1) := by decide +kernel
theorem dX11_tellsOf_126 : decode cX11_tellsOf 126 = .ok (.isub, 1) := by decide +kernel
theorem dX11_tellsOf_127 : decode cX11_tellsOf 127 = .ok (.laload, 1) := by decide +kernel
theorem dX11_tellsOf_128 : decode cX11_tellsOf 128 = .ok (.lconst 0, 1) := by decide +kernel
theorem dX11_tellsOf_129 : decode cX11_tellsOf 129 = .ok (.lcmp, 1) := by decide +kernel
theorem dX11_tellsOf_130 : decode cX11_tellsOf 130 = .ok (.ifCond .ne 7, 3) := by decide +kernel
theorem dX11_tellsOf_133 : decode cX11_tellsOf 133 = .ok (.lconst 1, 1) := by decide +kernel
theorem dX11_tellsOf_134 : decode cX11_tellsOf 134 = .ok (.goto 4, 3) := by decide +kernel
theorem dX11_tellsOf_137 : decode cX11_tellsOf 137 = .ok (.lconst 0, 1) := by decide +kernel
theorem dX11_tellsOf_138 : decode cX11_tellsOf 138 = .ok (.lastore, 1) := by decide +kernel
theorem dX11_tellsOf_139 : decode cX11_tellsOf 139 = .ok (.goto 33, 3) := by decide +kernel
theorem dX11_tellsOf_142 : decode cX11_tellsOf 142 = .ok (.iinc 3 (-1), 3) := by decide +kernel
theorem dX11_tellsOf_145 : decode cX11_tellsOf 145 = .ok (.aload_n 0, 1) := by decide +kernel
theorem dX11_tellsOf_146 : decode cX11_tellsOf 146 = .ok (.getfield 29, 3) := by decide +kernel
theorem dX11_tellsOf_149 : decode cX11_tellsOf 149 = .ok (.iload_n 3, 1) := by decide +kernel
theorem dX11_tellsOf_150 : decode cX11_tellsOf 150 = .ok (.iconst 1, 1) := by decide +kernel
theorem dX11_tellsOf_151 : decode cX11_tellsOf 151 = .ok (.isub, 1) := by decide +kernel
theorem dX11_tellsOf_152 : decode cX11_tellsOf 152 = .ok (.iload 5, 2) := by decide +kernel
theorem dX11_tellsOf_154 : decode cX11_tellsOf 154 = .ok (.aload_n 0, 1) := by decide +kernel
theorem dX11_tellsOf_155 : decode cX11_tellsOf 155 = .ok (.getfield 29, 3) := by decide +kernel
theorem dX11_tellsOf_158 : decode cX11_tellsOf 158 = .ok (.iload_n 3, 1) := by decide +kernel
theorem dX11_tellsOf_159 : decode cX11_tellsOf 159 = .ok (.iconst 1, 1) := by decide +kernel
theorem dX11_tellsOf_160 : decode cX11_tellsOf 160 = .ok (.isub, 1) := by decide +kernel
theorem dX11_tellsOf_161 : decode cX11_tellsOf 161 = .ok (.laload, 1) := by decide +kernel
theorem dX11_tellsOf_162 : decode cX11_tellsOf 162 = .ok (.aload_n 0, 1) := by decide +kernel
theorem dX11_tellsOf_163 : decode cX11_tellsOf 163 = .ok (.getfield 29, 3) := by decide +kernel
theorem dX11_tellsOf_166 : decode cX11_tellsOf 166 = .ok (.iload_n 3, 1) := by decide +kernel
theorem dX11_tellsOf_167 : decode cX11_tellsOf 167 = .ok (.laload, 1) := by decide +kernel
theorem dX11_tellsOf_168 : decode cX11_tellsOf 168 = .ok (.invokestatic 162, 3) := by decide +kernel
theorem dX11_tellsOf_171 : decode cX11_tellsOf 171 = .ok (.lastore, 1) := by decide +kernel
theorem dX11_tellsOf_172 : decode cX11_tellsOf 172 = .ok (.iinc 4 1, 3) := by decide +kernel
theorem dX11_tellsOf_175 : decode cX11_tellsOf 175 = .ok (.goto (-164), 3) := by decide +kernel
theorem dX11_tellsOf_178 : decode cX11_tellsOf 178 = .ok (.aload_n 0, 1) := by decide +kernel
theorem dX11_tellsOf_179 : decode cX11_tellsOf 179 = .ok (.getfield 29, 3) := by decide +kernel
theorem dX11_tellsOf_182 : decode cX11_tellsOf 182 = .ok (.iconst 0, 1) := by decide +kernel
theorem dX11_tellsOf_183 : decode cX11_tellsOf 183 = .ok (.laload, 1) := by decide +kernel
theorem dX11_tellsOf_184 : decode cX11_tellsOf 184 = .ok (.lreturn, 1) := by decide +kernel
theorem dX11_isText_0 : decode cX11_isText 0 = .ok (.iload_n 0, 1) := by decide +kernel
theorem dX11_isText_1 : decode cX11_isText 1 = .ok (.i2l, 1) := by decide +kernel
theorem dX11_isText_2 : decode cX11_isText 2 = .ok (.lconst 0, 1) := by decide +kernel
theorem dX11_isText_3 : decode cX11_isText 3 = .ok (.ldc2_w 77, 3) := by decide +kernel
theorem dX11_isText_6 : decode cX11_isText 6 = .ok (.invokestatic 67, 3) := by decide +kernel
theorem dX11_isText_9 : decode cX11_isText 9 = .ok (.ireturn, 1) := by decide +kernel
theorem dX11_write_0 : decode cX11_write 0 = .ok (.iload_n 1, 1) := by decide +kernel
theorem dX11_write_1 : decode cX11_write 1 = .ok (.invokestatic 166, 3) := by decide +kernel
theorem dX11_write_4 : decode cX11_write 4 = .ok (.ifCond .eq 15, 3) := by decide +kernel
theorem dX11_write_7 : decode cX11_write 7 = .ok (.iload_n 2, 1) := by decide +kernel
theorem dX11_write_8 : decode cX11_write 8 = .ok (.i2l, 1) := by decide +kernel
theorem dX11_write_9 : decode cX11_write 9 = .ok (.lconst 0, 1) := by decide +kernel
theorem dX11_write_10 : decode cX11_write 10 = .ok (.ldc2_w 169, 3) := by decide +kernel
theorem dX11_write_13 : decode cX11_write 13 = .ok (.invokestatic 67, 3) := by decide +kernel
theorem dX11_write_16 : decode cX11_write 16 = .ok (.ifCond .ne 6, 3) := by decide +kernel
theorem dX11_write_19 : decode cX11_write 19 = .ok (.bipush (-2), 2) := by decide +kernel
theorem dX11_write_21 : decode cX11_write 21 = .ok (.ireturn, 1) := by decide +kernel
theorem dX11_write_22 : decode cX11_write 22 = .ok (.sipush 262, 3) := by decide +kernel
theorem dX11_write_25 : decode cX11_write 25 = .ok (.bipush 51, 2) := by decide +kernel
theorem dX11_write_27 : decode cX11_write 27 = .ok (.iload_n 1, 1) := by decide +kernel
theorem dX11_write_28 : decode cX11_write 28 = .ok (.imul, 1) := by decide +kernel
theorem dX11_write_29 : decode cX11_write 29 = .ok (.iadd, 1) := by decide +kernel
theorem dX11_write_30 : decode cX11_write 30 = .ok (.istore_n 3, 1) := by decide +kernel
theorem dX11_write_31 : decode cX11_write 31 = .ok (.aload_n 0, 1) := by decide +kernel
theorem dX11_write_32 : decode cX11_write 32 = .ok (.getfield 7, 3) := by decide +kernel
theorem dX11_write_35 : decode cX11_write 35 = .ok (.iload_n 3, 1) := by decide +kernel
theorem dX11_write_36 : decode cX11_write 36 = .ok (.iaload, 1) := by decide +kernel
theorem dX11_write_37 : decode cX11_write 37 = .ok (.bipush 50, 2) := by decide +kernel
theorem dX11_write_39 : decode cX11_write 39 = .ok (.if_icmp .ne 6, 3) := by decide +kernel
theorem dX11_write_42 : decode cX11_write 42 = .ok (.bipush (-4), 2) := by decide +kernel
theorem dX11_write_44 : decode cX11_write 44 = .ok (.ireturn, 1) := by decide +kernel
theorem dX11_write_45 : decode cX11_write 45 = .ok (.aload_n 0, 1) := by decide +kernel
theorem dX11_write_46 : decode cX11_write 46 = .ok (.getfield 7, 3) := by decide +kernel
theorem dX11_write_49 : decode cX11_write 49 = .ok (.iload_n 3, 1) := by decide +kernel
theorem dX11_write_50 : decode cX11_write 50 = .ok (.dup2, 1) := by decide +kernel
theorem dX11_write_51 : decode cX11_write 51 = .ok (.iaload, 1) := by decide +kernel
theorem dX11_write_52 : decode cX11_write 52 = .ok (.iconst 1, 1) := by decide +kernel
theorem dX11_write_53 : decode cX11_write 53 = .ok (.iadd, 1) := by decide +kernel
theorem dX11_write_54 : decode cX11_write 54 = .ok (.iastore, 1) := by decide +kernel
theorem dX11_write_55 : decode cX11_write 55 = .ok (.aload_n 0, 1) := by decide +kernel
theorem dX11_write_56 : decode cX11_write 56 = .ok (.getfield 7, 3) := by decide +kernel
theorem dX11_write_59 : decode cX11_write 59 = .ok (.iload_n 3, 1) := by decide +kernel
theorem dX11_write_60 : decode cX11_write 60 = .ok (.aload_n 0, 1) := by decide +kernel
theorem dX11_write_61 : decode cX11_write 61 = .ok (.getfield 7, 3) := by decide +kernel
theorem dX11_write_64 : decode cX11_write 64 = .ok (.iload_n 3, 1) := by decide +kernel
theorem dX11_write_65 : decode cX11_write 65 = .ok (.iaload, 1) := by decide +kernel
theorem dX11_write_66 : decode cX11_write 66 = .ok (.iadd, 1) := by decide +kernel
theorem dX11_write_67 : decode cX11_write 67 = .ok (.iload_n 2, 1) := by decide +kernel
theorem dX11_write_68 : decode cX11_write 68 = .ok (.iastore, 1) := by decide +kernel
theorem dX11_write_69 : decode cX11_write 69 = .ok (.aload_n 0, 1) := by decide +kernel
theorem dX11_write_70 : decode cX11_write 70 = .ok (.getfield 7, 3) := by decide +kernel
theorem dX11_write_73 : decode cX11_write 73 = .ok (.iload_n 3, 1) := by decide +kernel
theorem dX11_write_74 : decode cX11_write 74 = .ok (.iaload, 1) := by decide +kernel
theorem dX11_write_75 : decode cX11_write 75 = .ok (.ireturn, 1) := by decide +kernel
theorem dX11_erase_0 : decode cX11_erase 0 = .ok (.iload_n 1, 1) := by decide +kernel
theorem dX11_erase_1 : decode cX11_erase 1 = .ok (.invokestatic 166, 3) := by decide +kernel
theorem dX11_erase_4 : decode cX11_erase 4 = .ok (.ifCond .ne 6, 3) := by decide +kernel
theorem dX11_erase_7 : decode cX11_erase 7 = .ok (.bipush (-2), 2) := by decide +kernel
theorem dX11_erase_9 : decode cX11_erase 9 = .ok (.ireturn, 1) := by decide +kernel
theorem dX11_erase_10 : decode cX11_erase 10 = .ok (.aload_n 0, 1) := by decide +kernel
theorem dX11_erase_11 : decode cX11_erase 11 = .ok (.getfield 7, 3) := by decide +kernel
theorem dX11_erase_14 : decode cX11_erase 14 = .ok (.sipush 262, 3) := by decide +kernel
theorem dX11_erase_17 : decode cX11_erase 17 = .ok (.bipush 51, 2) := by decide +kernel
theorem dX11_erase_19 : decode cX11_erase 19 = .ok (.iload_n 1, 1) := by decide +kernel
theorem dX11_erase_20 : decode cX11_erase 20 = .ok (.imul, 1) := by decide +kernel
theorem dX11_erase_21 : decode cX11_erase 21 = .ok (.iadd, 1) := by decide +kernel
theorem dX11_erase_22 : decode cX11_erase 22 = .ok (.iaload, 1) := by decide +kernel
theorem dX11_erase_23 : decode cX11_erase 23 = .ok (.istore_n 2, 1) := by decide +kernel
theorem dX11_erase_24 : decode cX11_erase 24 = .ok (.aload_n 0, 1) := by decide +kernel
theorem dX11_erase_25 : decode cX11_erase 25 = .ok (.getfield 7, 3) := by decide +kernel
theorem dX11_erase_28 : decode cX11_erase 28 = .ok (.sipush 262, 3) := by decide +kernel
theorem dX11_erase_31 : decode cX11_erase 31 = .ok (.bipush 51, 2) := by decide +kernel
theorem dX11_erase_33 : decode cX11_erase 33 = .ok (.iload_n 1, 1) := by decide +kernel
theorem dX11_erase_34 : decode cX11_erase 34 = .ok (.imul, 1) := by decide +kernel
theorem dX11_erase_35 : decode cX11_erase 35 = .ok (.iadd, 1) := by decide +kernel
theorem dX11_erase_36 : decode cX11_erase 36 = .ok (.iconst 0, 1) := by decide +kernel
theorem dX11_erase_37 : decode cX11_erase 37 = .ok (.iastore, 1) := by decide +kernel
theorem dX11_erase_38 : decode cX11_erase 38 = .ok (.iload_n 2, 1) := by decide +kernel
theorem dX11_erase_39 : decode cX11_erase 39 = .ok (.ireturn, 1) := by decide +kernel
theorem dX11_fault_0 : decode cX11_fault 0 = .ok (.iload_n 1, 1) := by decide +kernel
theorem dX11_fault_1 : decode cX11_fault 1 = .ok (.invokestatic 166, 3) := by decide +kernel
theorem dX11_fault_4 : decode cX11_fault 4 = .ok (.ifCond .eq 18, 3) := by decide +kernel
theorem dX11_fault_7 : decode cX11_fault 7 = .ok (.aload_n 0, 1) := by decide +kernel
theorem dX11_fault_8 : decode cX11_fault 8 = .ok (.sipush 262, 3) := by decide +kernel
theorem dX11_fault_11 : decode cX11_fault 11 = .ok (.bipush 51, 2) := by decide +kernel
theorem dX11_fault_13 : decode cX11_fault 13 = .ok (.iload_n 1, 1) := by decide +kernel
theorem dX11_fault_14 : decode cX11_fault 14 = .ok (.imul, 1) := by decide +kernel
theorem dX11_fault_15 : decode cX11_fault 15 = .ok (.iadd, 1) := by decide +kernel
theorem dX11_fault_16 : decode cX11_fault 16 = .ok (.invokevirtual 171, 3) := by decide +kernel
theorem dX11_fault_19 : decode cX11_fault 19 = .ok (.goto 5, 3) := by decide +kernel
theorem dX11_fault_22 : decode cX11_fault 22 = .ok (.bipush (-2), 2) := by decide +kernel
theorem dX11_fault_24 : decode cX11_fault 24 = .ok (.ireturn, 1) := by decide +kernel
theorem dX11_tells_0 : decode cX11_tells 0 = .ok (.iload_n 1, 1) := by decide +kernel
theorem dX11_tells_1 : decode cX11_tells 1 = .ok (.invokestatic 166, 3) := by decide +kernel
theorem dX11_tells_4 : decode cX11_tells 4 = .ok (.ifCond .eq 19, 3) := by decide +kernel
theorem dX11_tells_7 : decode cX11_tells 7 = .ok (.aload_n 0, 1) := by decide +kernel
theorem dX11_tells_8 : decode cX11_tells 8 = .ok (.iconst 0, 1) := by decide +kernel
theorem dX11_tells_9 : decode cX11_tells 9 = .ok (.iload_n 2, 1) := by decide +kernel
theorem dX11_tells_10 : decode cX11_tells 10 = .ok (.invokevirtual 87, 3) := by decide +kernel
theorem dX11_tells_13 : decode cX11_tells 13 = .ok (.ifCond .eq 10, 3) := by decide +kernel
theorem dX11_tells_16 : decode cX11_tells 16 = .ok (.iload_n 3, 1) := by decide +kernel
theorem dX11_tells_17 : decode cX11_tells 17 = .ok (.invokestatic 93, 3) := by decide +kernel
theorem dX11_tells_20 : decode cX11_tells 20 = .ok (.ifCond .ne 7, 3) := by decide +kernel
theorem dX11_tells_23 : decode cX11_tells 23 = .ok (.ldc2_w 174, 3) := by decide +kernel
theorem dX11_tells_26 : decode cX11_tells 26 = .ok (.lreturn, 1) := by decide +kernel
theorem dX11_tells_27 : decode cX11_tells 27 = .ok (.aload_n 0, 1) := by decide +kernel
theorem dX11_tells_28 : decode cX11_tells 28 = .ok (.invokevirtual 176, 3) := by decide +kernel
theorem dX11_tells_31 : decode cX11_tells 31 = .ok (.aload_n 0, 1) := by decide +kernel
theorem dX11_tells_32 : decode cX11_tells 32 = .ok (.sipush 262, 3) := by decide +kernel
theorem dX11_tells_35 : decode cX11_tells 35 = .ok (.bipush 51, 2) := by decide +kernel
theorem dX11_tells_37 : decode cX11_tells 37 = .ok (.iload_n 1, 1) := by decide +kernel
theorem dX11_tells_38 : decode cX11_tells 38 = .ok (.imul, 1) := by decide +kernel
theorem dX11_tells_39 : decode cX11_tells 39 = .ok (.iadd, 1) := by decide +kernel
theorem dX11_tells_40 : decode cX11_tells 40 = .ok (.invokevirtual 171, 3) := by decide +kernel
theorem dX11_tells_43 : decode cX11_tells 43 = .ok (.iconst (-1), 1) := by decide +kernel
theorem dX11_tells_44 : decode cX11_tells 44 = .ok (.if_icmp .eq 9, 3) := by decide +kernel
theorem dX11_tells_47 : decode cX11_tells 47 = .ok (.ldc2_w 179, 3) := by decide +kernel
theorem dX11_tells_50 : decode cX11_tells 50 = .ok (.goto 9, 3) := by decide +kernel
theorem dX11_tells_53 : decode cX11_tells 53 = .ok (.aload_n 0, 1) := by decide +kernel
theorem dX11_tells_54 : decode cX11_tells 54 = .ok (.iload_n 2, 1) := by decide +kernel
theorem dX11_tells_55 : decode cX11_tells 55 = .ok (.iload_n 3, 1) := by decide +kernel
theorem dX11_tells_56 : decode cX11_tells 56 = .ok (.invokevirtual 181, 3) := by decide +kernel
theorem dX11_tells_59 : decode cX11_tells 59 = .ok (.lreturn, 1) := by decide +kernel
theorem dX11_act_0 : decode cX11_act 0 = .ok (.iload_n 1, 1) := by decide +kernel
theorem dX11_act_1 : decode cX11_act 1 = .ok (.invokestatic 166, 3) := by decide +kernel
theorem dX11_act_4 : decode cX11_act 4 = .ok (.ifCond .eq 20, 3) := by decide +kernel
theorem dX11_act_7 : decode cX11_act 7 = .ok (.iload_n 2, 1) := by decide +kernel
theorem dX11_act_8 : decode cX11_act 8 = .ok (.i2l, 1) := by decide +kernel
theorem dX11_act_9 : decode cX11_act 9 = .ok (.lconst 0, 1) := by decide +kernel
theorem dX11_act_10 : decode cX11_act 10 = .ok (.lconst 1, 1) := by decide +kernel
theorem dX11_act_11 : decode cX11_act 11 = .ok (.invokestatic 67, 3) := by decide +kernel
theorem dX11_act_14 : decode cX11_act 14 = .ok (.ifCond .eq 10, 3) := by decide +kernel
theorem dX11_act_17 : decode cX11_act 17 = .ok (.iload_n 3, 1) := by decide +kernel
theorem dX11_act_18 : decode cX11_act 18 = .ok (.invokestatic 93, 3) := by decide +kernel
theorem dX11_act_21 : decode cX11_act 21 = .ok (.ifCond .ne 6, 3) := by decide +kernel
theorem dX11_act_24 : decode cX11_act 24 = .ok (.bipush (-2), 2) := by decide +kernel
theorem dX11_act_26 : decode cX11_act 26 = .ok (.ireturn, 1) := by decide +kernel
theorem dX11_act_27 : decode cX11_act 27 = .ok (.aload_n 0, 1) := by decide +kernel
theorem dX11_act_28 : decode cX11_act 28 = .ok (.sipush 262, 3) := by decide +kernel
theorem dX11_act_31 : decode cX11_act 31 = .ok (.bipush 51, 2) := by decide +kernel
theorem dX11_act_33 : decode cX11_act 33 = .ok (.iload_n 1, 1) := by decide +kernel
theorem dX11_act_34 : decode cX11_act 34 = .ok (.imul, 1) := by decide +kernel
theorem dX11_act_35 : decode cX11_act 35 = .ok (.iadd, 1) := by decide +kernel
theorem dX11_act_36 : decode cX11_act 36 = .ok (.invokevirtual 171, 3) := by decide +kernel
theorem dX11_act_39 : decode cX11_act 39 = .ok (.iconst (-1), 1) := by decide +kernel
theorem dX11_act_40 : decode cX11_act 40 = .ok (.if_icmp .eq 6, 3) := by decide +kernel
theorem dX11_act_43 : decode cX11_act 43 = .ok (.bipush (-3), 2) := by decide +kernel
theorem dX11_act_45 : decode cX11_act 45 = .ok (.ireturn, 1) := by decide +kernel
theorem dX11_act_46 : decode cX11_act 46 = .ok (.aload_n 0, 1) := by decide +kernel
theorem dX11_act_47 : decode cX11_act 47 = .ok (.getfield 7, 3) := by decide +kernel
theorem dX11_act_50 : decode cX11_act 50 = .ok (.iconst 3, 1) := by decide +kernel
theorem dX11_act_51 : decode cX11_act 51 = .ok (.iaload, 1) := by decide +kernel
theorem dX11_act_52 : decode cX11_act 52 = .ok (.bipush 20, 2) := by decide +kernel
theorem dX11_act_54 : decode cX11_act 54 = .ok (.if_icmp .ne 6, 3) := by decide +kernel
theorem dX11_act_57 : decode cX11_act 57 = .ok (.bipush (-4), 2) := by decide +kernel
theorem dX11_act_59 : decode cX11_act 59 = .ok (.ireturn, 1) := by decide +kernel
theorem dX11_act_60 : decode cX11_act 60 = .ok (.sipush 466, 3) := by decide +kernel
theorem dX11_act_63 : decode cX11_act 63 = .ok (.bipush 54, 2) := by decide +kernel
theorem dX11_act_65 : decode cX11_act 65 = .ok (.aload_n 0, 1) := by decide +kernel
theorem dX11_act_66 : decode cX11_act 66 = .ok (.getfield 7, 3) := by decide +kernel
theorem dX11_act_69 : decode cX11_act 69 = .ok (.iconst 3, 1) := by decide +kernel
theorem dX11_act_70 : decode cX11_act 70 = .ok (.iaload, 1) := by decide +kernel
theorem dX11_act_71 : decode cX11_act 71 = .ok (.imul, 1) := by decide +kernel
theorem dX11_act_72 : decode cX11_act 72 = .ok (.iadd, 1) := by decide +kernel
theorem dX11_act_73 : decode cX11_act 73 = .ok (.istore 4, 2) := by decide +kernel
theorem dX11_act_75 : decode cX11_act 75 = .ok (.aload_n 0, 1) := by decide +kernel
theorem dX11_act_76 : decode cX11_act 76 = .ok (.getfield 7, 3) := by decide +kernel
theorem dX11_act_79 : decode cX11_act 79 = .ok (.iload 4, 2) := by decide +kernel
theorem dX11_act_81 : decode cX11_act 81 = .ok (.iload_n 2, 1) := by decide +kernel
theorem dX11_act_82 : decode cX11_act 82 = .ok (.iastore, 1) := by decide +kernel
theorem dX11_act_83 : decode cX11_act 83 = .ok (.aload_n 0, 1) := by decide +kernel
theorem dX11_act_84 : decode cX11_act 84 = .ok (.getfield 7, 3) := by decide +kernel
theorem dX11_act_87 : decode cX11_act 87 = .ok (.iload 4, 2) := by decide +kernel
theorem dX11_act_89 : decode cX11_act 89 = .ok (.iconst 1, 1) := by decide +kernel
theorem dX11_act_90 : decode cX11_act 90 = .ok (.iadd, 1) := by decide +kernel
theorem dX11_act_91 : decode cX11_act 91 = .ok (.iload_n 3, 1) := by decide +kernel
theorem dX11_act_92 : decode cX11_act 92 = .ok (.iastore, 1) := by decide +kernel
theorem dX11_act_93 : decode cX11_act 93 = .ok (.aload_n 0, 1) := by decide +kernel
theorem dX11_act_94 : decode cX11_act 94 = .ok (.getfield 7, 3) := by decide +kernel
theorem dX11_act_97 : decode cX11_act 97 = .ok (.iload 4, 2) := by decide +kernel
theorem dX11_act_99 : decode cX11_act 99 = .ok (.iconst 2, 1) := by decide +kernel
theorem dX11_act_100 : decode cX11_act 100 = .ok (.iadd, 1) := by decide +kernel
theorem dX11_act_101 : decode cX11_act 101 = .ok (.iconst (-1), 1) := by decide +kernel
theorem dX11_act_102 : decode cX11_act 102 = .ok (.iastore, 1) := by decide +kernel
theorem dX11_act_103 : decode cX11_act 103 = .ok (.iconst 0, 1) := by decide +kernel
theorem dX11_act_104 : decode cX11_act 104 = .ok (.istore 5, 2) := by decide +kernel
theorem dX11_act_106 : decode cX11_act 106 = .ok (.iload 5, 2) := by decide +kernel
theorem dX11_act_108 : decode cX11_act 108 = .ok (.bipush 51, 2) := by decide +kernel
theorem dX11_act_110 : decode cX11_act 110 = .ok (.if_icmp .ge 37, 3) := by decide +kernel
theorem dX11_act_113 : decode cX11_act 113 = .ok (.aload_n 0, 1) := by decide +kernel
theorem dX11_act_114 : decode cX11_act 114 = .ok (.getfield 7, 3) := by decide +kernel
theorem dX11_act_117 : decode cX11_act 117 = .ok (.iload 4, 2) := by decide +kernel
theorem dX11_act_119 : decode cX11_act 119 = .ok (.iconst 3, 1) := by decide +kernel
theorem dX11_act_120 : decode cX11_act 120 = .ok (.iadd, 1) := by decide +kernel
theorem dX11_act_121 : decode cX11_act 121 = .ok (.iload 5, 2) := by decide +kernel
theorem dX11_act_123 : decode cX11_act 123 = .ok (.iadd, 1) := by decide +kernel
theorem dX11_act_124 : decode cX11_act 124 = .ok (.aload_n 0, 1) := by decide +kernel
theorem dX11_act_125 : decode cX11_act 125 = .ok (.getfield 7, 3) := by decide +kernel
theorem dX11_act_128 : decode cX11_act 128 = .ok (.sipush 262, 3) := by decide +kernel
theorem dX11_act_131 : decode cX11_act 131 = .ok (.bipush 51, 2) := by decide +kernel
theorem dX11_act_133 : decode cX11_act 133 = .ok (.iload_n 1, 1) := by decide +kernel
theorem dX11_act_134 : decode cX11_act 134 = .ok (.imul, 1) := by decide +kernel
theorem dX11_act_135 : decode cX11_act 135 = .ok (.iadd, 1) := by decide +kernel
theorem dX11_act_136 : decode cX11_act 136 = .ok (.iload 5, 2) := by decide +kernel
theorem dX11_act_138 : decode cX11_act 138 = .ok (.iadd, 1) := by decide +kernel
theorem dX11_act_139 : decode cX11_act 139 = .ok (.iaload, 1) := by decide +kernel
theorem dX11_act_140 : decode cX11_act 140 = .ok (.iastore, 1) := by decide +kernel
theorem dX11_act_141 : decode cX11_act 141 = .ok (.iinc 5 1, 3) := by decide +kernel
theorem dX11_act_144 : decode cX11_act 144 = .ok (.goto (-38), 3) := by decide +kernel
theorem dX11_act_147 : decode cX11_act 147 = .ok (.aload_n 0, 1) := by decide +kernel
theorem dX11_act_148 : decode cX11_act 148 = .ok (.iconst 3, 1) := by decide +kernel
theorem dX11_act_149 : decode cX11_act 149 = .ok (.invokevirtual 83, 3) := by decide +kernel
theorem dX11_act_152 : decode cX11_act 152 = .ok (.ireturn, 1) := by decide +kernel
theorem dX11_strikeOut_0 : decode cX11_strikeOut 0 = .ok (.aload_n 0, 1) := by decide +kernel
theorem dX11_strikeOut_1 : decode cX11_strikeOut 1 = .ok (.iconst 3, 1) := by decide +kernel
theorem dX11_strikeOut_2 : decode cX11_strikeOut 2 = .ok (.iload_n 1, 1) := by decide +kernel
theorem dX11_strikeOut_3 : decode cX11_strikeOut 3 = .ok (.invokevirtual 87, 3) := by decide +kernel
theorem dX11_strikeOut_6 : decode cX11_strikeOut 6 = .ok (.ifCond .eq 10, 3) := by decide +kernel
theorem dX11_strikeOut_9 : decode cX11_strikeOut 9 = .ok (.iload_n 2, 1) := by decide +kernel
theorem dX11_strikeOut_10 : decode cX11_strikeOut 10 = .ok (.invokestatic 93, 3) := by decide +kernel
theorem dX11_strikeOut_13 : decode cX11_strikeOut 13 = .ok (.ifCond .ne 6, 3) := by decide +kernel
theorem dX11_strikeOut_16 : decode cX11_strikeOut 16 = .ok (.bipush (-2), 2) := by decide +kernel
theorem dX11_strikeOut_18 : decode cX11_strikeOut 18 = .ok (.ireturn, 1) := by decide +kernel
theorem dX11_strikeOut_19 : decode cX11_strikeOut 19 = .ok (.sipush 466, 3) := by decide +kernel
theorem dX11_strikeOut_22 : decode cX11_strikeOut 22 = .ok (.bipush 54, 2) := by decide +kernel
theorem dX11_strikeOut_24 : decode cX11_strikeOut 24 = .ok (.iload_n 1, 1) := by decide +kernel
theorem dX11_strikeOut_25 : decode cX11_strikeOut 25 = .ok (.imul, 1) := by decide +kernel
theorem dX11_strikeOut_26 : decode cX11_strikeOut 26 = .ok (.iadd, 1) := by decide +kernel
theorem dX11_strikeOut_27 : decode cX11_strikeOut 27 = .ok (.istore_n 3, 1) := by decide +kernel
theorem dX11_strikeOut_28 : decode cX11_strikeOut 28 = .ok (.aload_n 0, 1) := by decide +kernel
theorem dX11_strikeOut_29 : decode cX11_strikeOut 29 = .ok (.getfield 7, 3) := by decide +kernel
theorem dX11_strikeOut_32 : decode cX11_strikeOut 32 = .ok (.iload_n 3, 1) := by decide +kernel
theorem dX11_strikeOut_33 : decode cX11_strikeOut 33 = .ok (.iconst 2, 1) := by decide +kernel
theorem dX11_strikeOut_34 : decode cX11_strikeOut 34 = .ok (.iadd, 1) := by decide +kernel
theorem dX11_strikeOut_35 : decode cX11_strikeOut 35 = .ok (.iaload, 1) := by decide +kernel
theorem dX11_strikeOut_36 : decode cX11_strikeOut 36 = .ok (.iconst (-1), 1) := by decide +kernel
theorem dX11_strikeOut_37 : decode cX11_strikeOut 37 = .ok (.if_icmp .eq 6, 3) := by decide +kernel
theorem dX11_strikeOut_40 : decode cX11_strikeOut 40 = .ok (.bipush (-3), 2) := by decide +kernel
theorem dX11_strikeOut_42 : decode cX11_strikeOut 42 = .ok (.ireturn, 1) := by decide +kernel
theorem dX11_strikeOut_43 : decode cX11_strikeOut 43 = .ok (.aload_n 0, 1) := by decide +kernel
theorem dX11_strikeOut_44 : decode cX11_strikeOut 44 = .ok (.getfield 7, 3) := by decide +kernel
theorem dX11_strikeOut_47 : decode cX11_strikeOut 47 = .ok (.iload_n 3, 1) := by decide +kernel
theorem dX11_strikeOut_48 : decode cX11_strikeOut 48 = .ok (.iconst 2, 1) := by decide +kernel
theorem dX11_strikeOut_49 : decode cX11_strikeOut 49 = .ok (.iadd, 1) := by decide +kernel
theorem dX11_strikeOut_50 : decode cX11_strikeOut 50 = .ok (.iload_n 2, 1) := by decide +kernel
theorem dX11_strikeOut_51 : decode cX11_strikeOut 51 = .ok (.iastore, 1) := by decide +kernel
theorem dX11_strikeOut_52 : decode cX11_strikeOut 52 = .ok (.aload_n 0, 1) := by decide +kernel
theorem dX11_strikeOut_53 : decode cX11_strikeOut 53 = .ok (.iconst 0, 1) := by decide +kernel
theorem dX11_strikeOut_54 : decode cX11_strikeOut 54 = .ok (.putfield 71, 3) := by decide +kernel
theorem dX11_strikeOut_57 : decode cX11_strikeOut 57 = .ok (.iconst 1, 1) := by decide +kernel
theorem dX11_strikeOut_58 : decode cX11_strikeOut 58 = .ok (.ireturn, 1) := by decide +kernel
theorem dX11_inForce_0 : decode cX11_inForce 0 = .ok (.iconst (-1), 1) := by decide +kernel
theorem dX11_inForce_1 : decode cX11_inForce 1 = .ok (.istore_n 3, 1) := by decide +kernel
theorem dX11_inForce_2 : decode cX11_inForce 2 = .ok (.iconst 0, 1) := by decide +kernel
theorem dX11_inForce_3 : decode cX11_inForce 3 = .ok (.istore 4, 2) := by decide +kernel
theorem dX11_inForce_5 : decode cX11_inForce 5 = .ok (.iload 4, 2) := by decide +kernel
theorem dX11_inForce_7 : decode cX11_inForce 7 = .ok (.aload_n 0, 1) := by decide +kernel
theorem dX11_inForce_8 : decode cX11_inForce 8 = .ok (.getfield 7, 3) := by decide +kernel
theorem dX11_inForce_11 : decode cX11_inForce 11 = .ok (.iconst 3, 1) := by decide +kernel
theorem dX11_inForce_12 : decode cX11_inForce 12 = .ok (.iaload, 1) := by decide +kernel
theorem dX11_inForce_13 : decode cX11_inForce 13 = .ok (.if_icmp .ge 121, 3) := by decide +kernel
theorem dX11_inForce_16 : decode cX11_inForce 16 = .ok (.sipush 466, 3) := by decide +kernel
theorem dX11_inForce_19 : decode cX11_inForce 19 = .ok (.bipush 54, 2) := by decide +kernel
theorem dX11_inForce_21 : decode cX11_inForce 21 = .ok (.iload 4, 2) := by decide +kernel
theorem dX11_inForce_23 : decode cX11_inForce 23 = .ok (.imul, 1) := by decide +kernel
theorem dX11_inForce_24 : decode cX11_inForce 24 = .ok (.iadd, 1) := by decide +kernel
theorem dX11_inForce_25 : decode cX11_inForce 25 = .ok (.istore 5, 2) := by decide +kernel
theorem dX11_inForce_27 : decode cX11_inForce 27 = .ok (.aload_n 0, 1) := by decide +kernel
theorem dX11_inForce_28 : decode cX11_inForce 28 = .ok (.getfield 7, 3) := by decide +kernel
theorem dX11_inForce_31 : decode cX11_inForce 31 = .ok (.iload 5, 2) := by decide +kernel
theorem dX11_inForce_33 : decode cX11_inForce 33 = .ok (.iaload, 1) := by decide +kernel
theorem dX11_inForce_34 : decode cX11_inForce 34 = .ok (.iload_n 1, 1) := by decide +kernel
theorem dX11_inForce_35 : decode cX11_inForce 35 = .ok (.if_icmp .ne 46, 3) := by decide +kernel
theorem dX11_inForce_38 : decode cX11_inForce 38 = .ok (.aload_n 0, 1) := by decide +kernel
theorem dX11_inForce_39 : decode cX11_inForce 39 = .ok (.getfield 7, 3) := by decide +kernel
theorem dX11_inForce_42 : decode cX11_inForce 42 = .ok (.iload 5, 2) := by decide +kernel
theorem dX11_inForce_44 : decode cX11_inForce 44 = .ok (.iconst 1, 1) := by decide +kernel
theorem dX11_inForce_45 : decode cX11_inForce 45 = .ok (.iadd, 1) := by decide +kernel
theorem dX11_inForce_46 : decode cX11_inForce 46 = .ok (.iaload, 1) := by decide +kernel
theorem dX11_inForce_47 : decode cX11_inForce 47 = .ok (.iload_n 2, 1) := by decide +kernel
theorem dX11_inForce_48 : decode cX11_inForce 48 = .ok (.if_icmp .gt 33, 3) := by decide +kernel
theorem dX11_inForce_51 : decode cX11_inForce 51 = .ok (.aload_n 0, 1) := by decide +kernel
theorem dX11_inForce_52 : decode cX11_inForce 52 = .ok (.getfield 7, 3) := by decide +kernel
theorem dX11_inForce_55 : decode cX11_inForce 55 = .ok (.iload 5, 2) := by decide +kernel
theorem dX11_inForce_57 : decode cX11_inForce 57 = .ok (.iconst 2, 1) := by decide +kernel
theorem dX11_inForce_58 : decode cX11_inForce 58 = .ok (.iadd, 1) := by decide +kernel
theorem dX11_inForce_59 : decode cX11_inForce 59 = .ok (.iaload, 1) := by decide +kernel
theorem dX11_inForce_60 : decode cX11_inForce 60 = .ok (.iconst (-1), 1) := by decide +kernel
theorem dX11_inForce_61 : decode cX11_inForce 61 = .ok (.if_icmp .eq 16, 3) := by decide +kernel
theorem dX11_inForce_64 : decode cX11_inForce 64 = .ok (.aload_n 0, 1) := by decide +kernel
theorem dX11_inForce_65 : decode cX11_inForce 65 = .ok (.getfield 7, 3) := by decide +kernel
theorem dX11_inForce_68 : decode cX11_inForce 68 = .ok (.iload 5, 2) := by decide +kernel
theorem dX11_inForce_70 : decode cX11_inForce 70 = .ok (.iconst 2, 1) := by decide +kernel
theorem dX11_inForce_71 : decode cX11_inForce 71 = .ok (.iadd, 1) := by decide +kernel
theorem dX11_inForce_72 : decode cX11_inForce 72 = .ok (.iaload, 1) := by decide +kernel
theorem dX11_inForce_73 : decode cX11_inForce 73 = .ok (.iload_n 2, 1) := by decide +kernel
theorem dX11_inForce_74 : decode cX11_inForce 74 = .ok (.if_icmp .le 7, 3) := by decide +kernel
theorem dX11_inForce_77 : decode cX11_inForce 77 = .ok (.iconst 1, 1) := by decide +kernel
theorem dX11_inForce_78 : decode cX11_inForce 78 = .ok (.goto 4, 3) := by decide +kernel
theorem dX11_inForce_81 : decode cX11_inForce 81 = .ok (.iconst 0, 1) := by decide +kernel
theorem dX11_inForce_82 : decode cX11_inForce 82 = .ok (.istore 6, 2) := by decide +kernel
theorem dX11_inForce_84 : decode cX11_inForce 84 = .ok (.iload 6, 2) := by decide +kernel
theorem dX11_inForce_86 : decode cX11_inForce 86 = .ok (.ifCond .eq 40, 3) := by decide +kernel
theorem dX11_inForce_89 : decode cX11_inForce 89 = .ok (.iload_n 3, 1) := by decide +kernel
theorem dX11_inForce_90 : decode cX11_inForce 90 = .ok (.iconst (-1), 1) := by decide +kernel
theorem dX11_inForce_91 : decode cX11_inForce 91 = .ok (.if_icmp .eq 30, 3) := by decide +kernel
theorem dX11_inForce_94 : decode cX11_inForce 94 = .ok (.aload_n 0, 1) := by decide +kernel
theorem dX11_inForce_95 : decode cX11_inForce 95 = .ok (.getfield 7, 3) := by decide +kernel
theorem dX11_inForce_98 : decode cX11_inForce 98 = .ok (.iload 5, 2) := by decide +kernel
theorem dX11_inForce_100 : decode cX11_inForce 100 = .ok (.iconst 1, 1) := by decide +kernel
theorem dX11_inForce_101 : decode cX11_inForce 101 = .ok (.iadd, 1) := by decide +kernel
theorem dX11_inForce_102 : decode cX11_inForce 102 = .ok (.iaload, 1) := by decide +kernel
theorem dX11_inForce_103 : decode cX11_inForce 103 = .ok (.aload_n 0, 1) := by decide +kernel
theorem dX11_inForce_104 : decode cX11_inForce 104 = .ok (.getfield 7, 3) := by decide +kernel
theorem dX11_inForce_107 : decode cX11_inForce 107 = .ok (.sipush 466, 3) := by decide +kernel
theorem dX11_inForce_110 : decode cX11_inForce 110 = .ok (.bipush 54, 2) := by decide +kernel
theorem dX11_inForce_112 : decode cX11_inForce 112 = .ok (.iload_n 3, 1) := by decide +kernel
theorem dX11_inForce_113 : decode cX11_inForce 113 = .ok (.imul, 1) := by decide +kernel
theorem dX11_inForce_114 : decode cX11_inForce 114 = .ok (.iadd, 1) := by decide +kernel
theorem dX11_inForce_115 : decode cX11_inForce 115 = .ok (.iconst 1, 1) := by decide +kernel
theorem dX11_inForce_116 : decode cX11_inForce 116 = .ok (.iadd, 1) := by decide +kernel
theorem dX11_inForce_117 : decode cX11_inForce 117 = .ok (.iaload, 1) := by decide +kernel
theorem dX11_inForce_118 : decode cX11_inForce 118 = .ok (.if_icmp .lt 8, 3) := by decide +kernel
theorem dX11_inForce_121 : decode cX11_inForce 121 = .ok (.iload 4, 2) := by decide +kernel
theorem dX11_inForce_123 : decode cX11_inForce 123 = .ok (.goto 4, 3) := by decide +kernel
theorem dX11_inForce_126 : decode cX11_inForce 126 = .ok (.iload_n 3, 1) := by decide +kernel
theorem dX11_inForce_127 : decode cX11_inForce 127 = .ok (.istore_n 3, 1) := by decide +kernel
theorem dX11_inForce_128 : decode cX11_inForce 128 = .ok (.iinc 4 1, 3) := by decide +kernel
theorem dX11_inForce_131 : decode cX11_inForce 131 = .ok (.goto (-126), 3) := by decide +kernel
theorem dX11_inForce_134 : decode cX11_inForce 134 = .ok (.iload_n 3, 1) := by decide +kernel
theorem dX11_inForce_135 : decode cX11_inForce 135 = .ok (.ireturn, 1) := by decide +kernel

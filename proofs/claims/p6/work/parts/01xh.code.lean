theorem dX11_seats_0 : decode cX11_seats 0 = .ok (.aload_n 0, 1) := by decide +kernel
theorem dX11_seats_1 : decode cX11_seats 1 = .ok (.iload_n 1, 1) := by decide +kernel
theorem dX11_seats_2 : decode cX11_seats 2 = .ok (.iconst 2, 1) := by decide +kernel
theorem dX11_seats_3 : decode cX11_seats 3 = .ok (.invokevirtual 149, 3) := by decide +kernel
theorem dX11_seats_6 : decode cX11_seats 6 = .ok (.istore 4, 2) := by decide +kernel
theorem dX11_seats_8 : decode cX11_seats 8 = .ok (.iconst 0, 1) := by decide +kernel
theorem dX11_seats_9 : decode cX11_seats 9 = .ok (.istore 5, 2) := by decide +kernel
theorem dX11_seats_11 : decode cX11_seats 11 = .ok (.iconst 0, 1) := by decide +kernel
theorem dX11_seats_12 : decode cX11_seats 12 = .ok (.istore 6, 2) := by decide +kernel
theorem dX11_seats_14 : decode cX11_seats 14 = .ok (.iconst 0, 1) := by decide +kernel
theorem dX11_seats_15 : decode cX11_seats 15 = .ok (.istore 7, 2) := by decide +kernel
theorem dX11_seats_17 : decode cX11_seats 17 = .ok (.iload 7, 2) := by decide +kernel
theorem dX11_seats_19 : decode cX11_seats 19 = .ok (.aload_n 0, 1) := by decide +kernel
theorem dX11_seats_20 : decode cX11_seats 20 = .ok (.getfield 42, 3) := by decide +kernel
theorem dX11_seats_23 : decode cX11_seats 23 = .ok (.iload_n 2, 1) := by decide +kernel
theorem dX11_seats_24 : decode cX11_seats 24 = .ok (.iaload, 1) := by decide +kernel
theorem dX11_seats_25 : decode cX11_seats 25 = .ok (.if_icmp .ge 59, 3) := by decide +kernel
theorem dX11_seats_28 : decode cX11_seats 28 = .ok (.iload 6, 2) := by decide +kernel
theorem dX11_seats_30 : decode cX11_seats 30 = .ok (.iload 4, 2) := by decide +kernel
theorem dX11_seats_32 : decode cX11_seats 32 = .ok (.if_icmp .ge 52, 3) := by decide +kernel
theorem dX11_seats_35 : decode cX11_seats 35 = .ok (.aload_n 0, 1) := by decide +kernel
theorem dX11_seats_36 : decode cX11_seats 36 = .ok (.getfield 39, 3) := by decide +kernel
theorem dX11_seats_39 : decode cX11_seats 39 = .ok (.bipush 24, 2) := by decide +kernel
theorem dX11_seats_41 : decode cX11_seats 41 = .ok (.iload_n 2, 1) := by decide +kernel
theorem dX11_seats_42 : decode cX11_seats 42 = .ok (.imul, 1) := by decide +kernel
theorem dX11_seats_43 : decode cX11_seats 43 = .ok (.iload 7, 2) := by decide +kernel
theorem dX11_seats_45 : decode cX11_seats 45 = .ok (.iadd, 1) := by decide +kernel
theorem dX11_seats_46 : decode cX11_seats 46 = .ok (.iaload, 1) := by decide +kernel
theorem dX11_seats_47 : decode cX11_seats 47 = .ok (.istore 8, 2) := by decide +kernel
theorem dX11_seats_49 : decode cX11_seats 49 = .ok (.aload_n 0, 1) := by decide +kernel
theorem dX11_seats_50 : decode cX11_seats 50 = .ok (.getfield 45, 3) := by decide +kernel
theorem dX11_seats_53 : decode cX11_seats 53 = .ok (.bipush 30, 2) := by decide +kernel
theorem dX11_seats_55 : decode cX11_seats 55 = .ok (.iload_n 2, 1) := by decide +kernel
theorem dX11_seats_56 : decode cX11_seats 56 = .ok (.imul, 1) := by decide +kernel
theorem dX11_seats_57 : decode cX11_seats 57 = .ok (.iload 8, 2) := by decide +kernel
theorem dX11_seats_59 : decode cX11_seats 59 = .ok (.iadd, 1) := by decide +kernel
theorem dX11_seats_60 : decode cX11_seats 60 = .ok (.iaload, 1) := by decide +kernel
theorem dX11_seats_61 : decode cX11_seats 61 = .ok (.bipush 6, 2) := by decide +kernel
theorem dX11_seats_63 : decode cX11_seats 63 = .ok (.if_icmp .ne 15, 3) := by decide +kernel
theorem dX11_seats_66 : decode cX11_seats 66 = .ok (.iload 5, 2) := by decide +kernel
theorem dX11_seats_68 : decode cX11_seats 68 = .ok (.iconst 1, 1) := by decide +kernel
theorem dX11_seats_69 : decode cX11_seats 69 = .ok (.iload 8, 2) := by decide +kernel
theorem dX11_seats_71 : decode cX11_seats 71 = .ok (.ishl, 1) := by decide +kernel
theorem dX11_seats_72 : decode cX11_seats 72 = .ok (.ior, 1) := by decide +kernel
theorem dX11_seats_73 : decode cX11_seats 73 = .ok (.istore 5, 2) := by decide +kernel
theorem dX11_seats_75 : decode cX11_seats 75 = .ok (.iinc 6 1, 3) := by decide +kernel
theorem dX11_seats_78 : decode cX11_seats 78 = .ok (.iinc 7 1, 3) := by decide +kernel
theorem dX11_seats_81 : decode cX11_seats 81 = .ok (.goto (-64), 3) := by decide +kernel
theorem dX11_seats_84 : decode cX11_seats 84 = .ok (.iconst 0, 1) := by decide +kernel
theorem dX11_seats_85 : decode cX11_seats 85 = .ok (.istore 7, 2) := by decide +kernel
theorem dX11_seats_87 : decode cX11_seats 87 = .ok (.iconst 0, 1) := by decide +kernel
theorem dX11_seats_88 : decode cX11_seats 88 = .ok (.istore 8, 2) := by decide +kernel
theorem dX11_seats_90 : decode cX11_seats 90 = .ok (.iload 8, 2) := by decide +kernel
theorem dX11_seats_92 : decode cX11_seats 92 = .ok (.bipush 30, 2) := by decide +kernel
theorem dX11_seats_94 : decode cX11_seats 94 = .ok (.if_icmp .ge 38, 3) := by decide +kernel
theorem dX11_seats_97 : decode cX11_seats 97 = .ok (.iload 6, 2) := by decide +kernel
theorem dX11_seats_99 : decode cX11_seats 99 = .ok (.iload 4, 2) := by decide +kernel
theorem dX11_seats_101 : decode cX11_seats 101 = .ok (.if_icmp .ge 31, 3) := by decide +kernel
theorem dX11_seats_104 : decode cX11_seats 104 = .ok (.iload_n 3, 1) := by decide +kernel
theorem dX11_seats_105 : decode cX11_seats 105 = .ok (.iload 8, 2) := by decide +kernel
theorem dX11_seats_107 : decode cX11_seats 107 = .ok (.ishr, 1) := by decide +kernel
theorem dX11_seats_108 : decode cX11_seats 108 = .ok (.iconst 1, 1) := by decide +kernel
theorem dX11_seats_109 : decode cX11_seats 109 = .ok (.iand, 1) := by decide +kernel
theorem dX11_seats_110 : decode cX11_seats 110 = .ok (.iconst 1, 1) := by decide +kernel
theorem dX11_seats_111 : decode cX11_seats 111 = .ok (.if_icmp .ne 15, 3) := by decide +kernel
theorem dX11_seats_114 : decode cX11_seats 114 = .ok (.iload 7, 2) := by decide +kernel
theorem dX11_seats_116 : decode cX11_seats 116 = .ok (.iconst 1, 1) := by decide +kernel
theorem dX11_seats_117 : decode cX11_seats 117 = .ok (.iload 8, 2) := by decide +kernel
theorem dX11_seats_119 : decode cX11_seats 119 = .ok (.ishl, 1) := by decide +kernel
theorem dX11_seats_120 : decode cX11_seats 120 = .ok (.ior, 1) := by decide +kernel
theorem dX11_seats_121 : decode cX11_seats 121 = .ok (.istore 7, 2) := by decide +kernel
theorem dX11_seats_123 : decode cX11_seats 123 = .ok (.iinc 6 1, 3) := by decide +kernel
theorem dX11_seats_126 : decode cX11_seats 126 = .ok (.iinc 8 1, 3) := by decide +kernel
theorem dX11_seats_129 : decode cX11_seats 129 = .ok (.goto (-39), 3) := by decide +kernel
theorem dX11_seats_132 : decode cX11_seats 132 = .ok (.iload 6, 2) := by decide +kernel
theorem dX11_seats_134 : decode cX11_seats 134 = .ok (.iload 4, 2) := by decide +kernel
theorem dX11_seats_136 : decode cX11_seats 136 = .ok (.if_icmp .ge 11, 3) := by decide +kernel
theorem dX11_seats_139 : decode cX11_seats 139 = .ok (.aload_n 0, 1) := by decide +kernel
theorem dX11_seats_140 : decode cX11_seats 140 = .ok (.getfield 36, 3) := by decide +kernel
theorem dX11_seats_143 : decode cX11_seats 143 = .ok (.iload_n 2, 1) := by decide +kernel
theorem dX11_seats_144 : decode cX11_seats 144 = .ok (.iconst 0, 1) := by decide +kernel
theorem dX11_seats_145 : decode cX11_seats 145 = .ok (.iastore, 1) := by decide +kernel
theorem dX11_seats_146 : decode cX11_seats 146 = .ok (.return_, 1) := by decide +kernel
theorem dX11_seats_147 : decode cX11_seats 147 = .ok (.aload_n 0, 1) := by decide +kernel
theorem dX11_seats_148 : decode cX11_seats 148 = .ok (.getfield 36, 3) := by decide +kernel
theorem dX11_seats_151 : decode cX11_seats 151 = .ok (.iload_n 2, 1) := by decide +kernel
theorem dX11_seats_152 : decode cX11_seats 152 = .ok (.iload 5, 2) := by decide +kernel
theorem dX11_seats_154 : decode cX11_seats 154 = .ok (.iload 7, 2) := by decide +kernel
theorem dX11_seats_156 : decode cX11_seats 156 = .ok (.ior, 1) := by decide +kernel
theorem dX11_seats_157 : decode cX11_seats 157 = .ok (.iastore, 1) := by decide +kernel
theorem dX11_seats_158 : decode cX11_seats 158 = .ok (.aload_n 0, 1) := by decide +kernel
theorem dX11_seats_159 : decode cX11_seats 159 = .ok (.getfield 48, 3) := by decide +kernel
theorem dX11_seats_162 : decode cX11_seats 162 = .ok (.iconst 4, 1) := by decide +kernel
theorem dX11_seats_163 : decode cX11_seats 163 = .ok (.iload_n 2, 1) := by decide +kernel
theorem dX11_seats_164 : decode cX11_seats 164 = .ok (.imul, 1) := by decide +kernel
theorem dX11_seats_165 : decode cX11_seats 165 = .ok (.iload 7, 2) := by decide +kernel
theorem dX11_seats_167 : decode cX11_seats 167 = .ok (.invokestatic 222, 3) := by decide +kernel
theorem dX11_seats_170 : decode cX11_seats 170 = .ok (.iastore, 1) := by decide +kernel
theorem dX11_seats_171 : decode cX11_seats 171 = .ok (.iconst 0, 1) := by decide +kernel
theorem dX11_seats_172 : decode cX11_seats 172 = .ok (.istore 8, 2) := by decide +kernel
theorem dX11_seats_174 : decode cX11_seats 174 = .ok (.iload 8, 2) := by decide +kernel
theorem dX11_seats_176 : decode cX11_seats 176 = .ok (.bipush 30, 2) := by decide +kernel
theorem dX11_seats_178 : decode cX11_seats 178 = .ok (.if_icmp .ge 68, 3) := by decide +kernel
theorem dX11_seats_181 : decode cX11_seats 181 = .ok (.aload_n 0, 1) := by decide +kernel
theorem dX11_seats_182 : decode cX11_seats 182 = .ok (.getfield 45, 3) := by decide +kernel
theorem dX11_seats_185 : decode cX11_seats 185 = .ok (.bipush 30, 2) := by decide +kernel
theorem dX11_seats_187 : decode cX11_seats 187 = .ok (.iload_n 2, 1) := by decide +kernel
theorem dX11_seats_188 : decode cX11_seats 188 = .ok (.imul, 1) := by decide +kernel
theorem dX11_seats_189 : decode cX11_seats 189 = .ok (.iload 8, 2) := by decide +kernel
theorem dX11_seats_191 : decode cX11_seats 191 = .ok (.iadd, 1) := by decide +kernel
theorem dX11_seats_192 : decode cX11_seats 192 = .ok (.iaload, 1) := by decide +kernel
theorem dX11_seats_193 : decode cX11_seats 193 = .ok (.istore 9, 2) := by decide +kernel
theorem dX11_seats_195 : decode cX11_seats 195 = .ok (.aload_n 0, 1) := by decide +kernel
theorem dX11_seats_196 : decode cX11_seats 196 = .ok (.getfield 45, 3) := by decide +kernel
theorem dX11_seats_199 : decode cX11_seats 199 = .ok (.bipush 30, 2) := by decide +kernel
theorem dX11_seats_201 : decode cX11_seats 201 = .ok (.iload_n 2, 1) := by decide +kernel
theorem dX11_seats_202 : decode cX11_seats 202 = .ok (.imul, 1) := by decide +kernel
theorem dX11_seats_203 : decode cX11_seats 203 = .ok (.iload 8, 2) := by decide +kernel
theorem dX11_seats_205 : decode cX11_seats 205 = .ok (.iadd, 1) := by decide +kernel
theorem dX11_seats_206 : decode cX11_seats 206 = .ok (.iload 5, 2) := by decide +kernel
theorem dX11_seats_208 : decode cX11_seats 208 = .ok (.iload 8, 2) := by decide +kernel
theorem dX11_seats_210 : decode cX11_seats 210 = .ok (.ishr, 1) := by decide +kernel
theorem dX11_seats_211 : decode cX11_seats 211 = .ok (.iconst 1, 1) := by decide +kernel
theorem dX11_seats_212 : decode cX11_seats 212 = .ok (.iand, 1) := by decide +kernel
theorem dX11_seats_213 : decode cX11_seats 213 = .ok (.iconst 1, 1) := by decide +kernel
theorem dX11_seats_214 : decode cX11_seats 214 = .ok (.if_icmp .ne 7, 3) := by decide +kernel
theorem dX11_seats_217 : decode cX11_seats 217 = .ok (.iconst 5, 1) := by decide +kernel
theorem dX11_seats_218 : decode cX11_seats 218 = .ok (.goto 21, 3) := by decide +kernel
theorem dX11_seats_221 : decode cX11_seats 221 = .ok (.iload 7, 2) := by decide +kernel
theorem dX11_seats_223 : decode cX11_seats 223 = .ok (.iload 8, 2) := by decide +kernel
theorem dX11_seats_225 : decode cX11_seats 225 = .ok (.ishr, 1) := by decide +kernel
theorem dX11_seats_226 : decode cX11_seats 226 = .ok (.iconst 1, 1) := by decide +kernel
theorem dX11_seats_227 : decode cX11_seats 227 = .ok (.iand, 1) := by decide +kernel
theorem dX11_seats_228 : decode cX11_seats 228 = .ok (.iconst 1, 1) := by decide +kernel
theorem dX11_seats_229 : decode cX11_seats 229 = .ok (.if_icmp .ne 8, 3) := by decide +kernel
theorem dX11_seats_232 : decode cX11_seats 232 = .ok (.bipush 7, 2) := by decide +kernel
theorem dX11_seats_234 : decode cX11_seats 234 = .ok (.goto 5, 3) := by decide +kernel
theorem dX11_seats_237 : decode cX11_seats 237 = .ok (.iload 9, 2) := by decide +kernel
theorem dX11_seats_239 : decode cX11_seats 239 = .ok (.iastore, 1) := by decide +kernel
theorem dX11_seats_240 : decode cX11_seats 240 = .ok (.iinc 8 1, 3) := by decide +kernel
theorem dX11_seats_243 : decode cX11_seats 243 = .ok (.goto (-69), 3) := by decide +kernel
theorem dX11_seats_246 : decode cX11_seats 246 = .ok (.return_, 1) := by decide +kernel
theorem dX11_finds_0 : decode cX11_finds 0 = .ok (.aload_n 0, 1) := by decide +kernel
theorem dX11_finds_1 : decode cX11_finds 1 = .ok (.getfield 71, 3) := by decide +kernel
theorem dX11_finds_4 : decode cX11_finds 4 = .ok (.ifCond .eq 4, 3) := by decide +kernel
theorem dX11_finds_7 : decode cX11_finds 7 = .ok (.return_, 1) := by decide +kernel
theorem dX11_finds_8 : decode cX11_finds 8 = .ok (.aload_n 0, 1) := by decide +kernel
theorem dX11_finds_9 : decode cX11_finds 9 = .ok (.iconst 1, 1) := by decide +kernel
theorem dX11_finds_10 : decode cX11_finds 10 = .ok (.putfield 71, 3) := by decide +kernel
theorem dX11_finds_13 : decode cX11_finds 13 = .ok (.aload_n 0, 1) := by decide +kernel
theorem dX11_finds_14 : decode cX11_finds 14 = .ok (.iconst 0, 1) := by decide +kernel
theorem dX11_finds_15 : decode cX11_finds 15 = .ok (.putfield 146, 3) := by decide +kernel
theorem dX11_finds_18 : decode cX11_finds 18 = .ok (.iconst 0, 1) := by decide +kernel
theorem dX11_finds_19 : decode cX11_finds 19 = .ok (.istore_n 1, 1) := by decide +kernel
theorem dX11_finds_20 : decode cX11_finds 20 = .ok (.iload_n 1, 1) := by decide +kernel
theorem dX11_finds_21 : decode cX11_finds 21 = .ok (.aload_n 0, 1) := by decide +kernel
theorem dX11_finds_22 : decode cX11_finds 22 = .ok (.getfield 7, 3) := by decide +kernel
theorem dX11_finds_25 : decode cX11_finds 25 = .ok (.iconst 4, 1) := by decide +kernel
theorem dX11_finds_26 : decode cX11_finds 26 = .ok (.iaload, 1) := by decide +kernel
theorem dX11_finds_27 : decode cX11_finds 27 = .ok (.if_icmp .ge 24, 3) := by decide +kernel
theorem dX11_finds_30 : decode cX11_finds 30 = .ok (.aload_n 0, 1) := by decide +kernel
theorem dX11_finds_31 : decode cX11_finds 31 = .ok (.iload_n 1, 1) := by decide +kernel
theorem dX11_finds_32 : decode cX11_finds 32 = .ok (.iload_n 1, 1) := by decide +kernel
theorem dX11_finds_33 : decode cX11_finds 33 = .ok (.iconst (-1), 1) := by decide +kernel
theorem dX11_finds_34 : decode cX11_finds 34 = .ok (.iconst (-1), 1) := by decide +kernel
theorem dX11_finds_35 : decode cX11_finds 35 = .ok (.invokevirtual 225, 3) := by decide +kernel
theorem dX11_finds_38 : decode cX11_finds 38 = .ok (.aload_n 0, 1) := by decide +kernel
theorem dX11_finds_39 : decode cX11_finds 39 = .ok (.iload_n 1, 1) := by decide +kernel
theorem dX11_finds_40 : decode cX11_finds 40 = .ok (.iconst 1, 1) := by decide +kernel
theorem dX11_finds_41 : decode cX11_finds 41 = .ok (.iadd, 1) := by decide +kernel
theorem dX11_finds_42 : decode cX11_finds 42 = .ok (.putfield 146, 3) := by decide +kernel
theorem dX11_finds_45 : decode cX11_finds 45 = .ok (.iinc 1 1, 3) := by decide +kernel
theorem dX11_finds_48 : decode cX11_finds 48 = .ok (.goto (-28), 3) := by decide +kernel
theorem dX11_finds_51 : decode cX11_finds 51 = .ok (.return_, 1) := by decide +kernel
theorem dX11_isTrial_0 : decode cX11_isTrial 0 = .ok (.aload_n 0, 1) := by decide +kernel
theorem dX11_isTrial_1 : decode cX11_isTrial 1 = .ok (.invokevirtual 176, 3) := by decide +kernel
theorem dX11_isTrial_4 : decode cX11_isTrial 4 = .ok (.aload_n 0, 1) := by decide +kernel
theorem dX11_isTrial_5 : decode cX11_isTrial 5 = .ok (.iconst 4, 1) := by decide +kernel
theorem dX11_isTrial_6 : decode cX11_isTrial 6 = .ok (.iload_n 1, 1) := by decide +kernel
theorem dX11_isTrial_7 : decode cX11_isTrial 7 = .ok (.invokevirtual 87, 3) := by decide +kernel
theorem dX11_isTrial_10 : decode cX11_isTrial 10 = .ok (.ireturn, 1) := by decide +kernel
theorem dX11_box_0 : decode cX11_box 0 = .ok (.aload_n 0, 1) := by decide +kernel
theorem dX11_box_1 : decode cX11_box 1 = .ok (.iload_n 1, 1) := by decide +kernel
theorem dX11_box_2 : decode cX11_box 2 = .ok (.invokevirtual 229, 3) := by decide +kernel
theorem dX11_box_5 : decode cX11_box 5 = .ok (.ifCond .eq 12, 3) := by decide +kernel
theorem dX11_box_8 : decode cX11_box 8 = .ok (.aload_n 0, 1) := by decide +kernel
theorem dX11_box_9 : decode cX11_box 9 = .ok (.getfield 33, 3) := by decide +kernel
theorem dX11_box_12 : decode cX11_box 12 = .ok (.iload_n 1, 1) := by decide +kernel
theorem dX11_box_13 : decode cX11_box 13 = .ok (.iaload, 1) := by decide +kernel
theorem dX11_box_14 : decode cX11_box 14 = .ok (.goto 5, 3) := by decide +kernel
theorem dX11_box_17 : decode cX11_box 17 = .ok (.bipush (-2), 2) := by decide +kernel
theorem dX11_box_19 : decode cX11_box 19 = .ok (.ireturn, 1) := by decide +kernel
theorem dX11_drawn_0 : decode cX11_drawn 0 = .ok (.aload_n 0, 1) := by decide +kernel
theorem dX11_drawn_1 : decode cX11_drawn 1 = .ok (.iload_n 1, 1) := by decide +kernel
theorem dX11_drawn_2 : decode cX11_drawn 2 = .ok (.invokevirtual 229, 3) := by decide +kernel
theorem dX11_drawn_5 : decode cX11_drawn 5 = .ok (.ifCond .eq 7, 3) := by decide +kernel
theorem dX11_drawn_8 : decode cX11_drawn 8 = .ok (.iload_n 2, 1) := by decide +kernel
theorem dX11_drawn_9 : decode cX11_drawn 9 = .ok (.ifCond .ge 6, 3) := by decide +kernel
theorem dX11_drawn_12 : decode cX11_drawn 12 = .ok (.bipush (-2), 2) := by decide +kernel
theorem dX11_drawn_14 : decode cX11_drawn 14 = .ok (.ireturn, 1) := by decide +kernel
theorem dX11_drawn_15 : decode cX11_drawn 15 = .ok (.iload_n 2, 1) := by decide +kernel
theorem dX11_drawn_16 : decode cX11_drawn 16 = .ok (.aload_n 0, 1) := by decide +kernel
theorem dX11_drawn_17 : decode cX11_drawn 17 = .ok (.getfield 42, 3) := by decide +kernel
theorem dX11_drawn_20 : decode cX11_drawn 20 = .ok (.iload_n 1, 1) := by decide +kernel
theorem dX11_drawn_21 : decode cX11_drawn 21 = .ok (.iaload, 1) := by decide +kernel
theorem dX11_drawn_22 : decode cX11_drawn 22 = .ok (.if_icmp .ge 17, 3) := by decide +kernel
theorem dX11_drawn_25 : decode cX11_drawn 25 = .ok (.aload_n 0, 1) := by decide +kernel
theorem dX11_drawn_26 : decode cX11_drawn 26 = .ok (.getfield 39, 3) := by decide +kernel
theorem dX11_drawn_29 : decode cX11_drawn 29 = .ok (.bipush 24, 2) := by decide +kernel
theorem dX11_drawn_31 : decode cX11_drawn 31 = .ok (.iload_n 1, 1) := by decide +kernel
theorem dX11_drawn_32 : decode cX11_drawn 32 = .ok (.imul, 1) := by decide +kernel
theorem dX11_drawn_33 : decode cX11_drawn 33 = .ok (.iload_n 2, 1) := by decide +kernel
theorem dX11_drawn_34 : decode cX11_drawn 34 = .ok (.iadd, 1) := by decide +kernel
theorem dX11_drawn_35 : decode cX11_drawn 35 = .ok (.iaload, 1) := by decide +kernel
theorem dX11_drawn_36 : decode cX11_drawn 36 = .ok (.goto 4, 3) := by decide +kernel
theorem dX11_drawn_39 : decode cX11_drawn 39 = .ok (.iconst (-1), 1) := by decide +kernel
theorem dX11_drawn_40 : decode cX11_drawn 40 = .ok (.ireturn, 1) := by decide +kernel
theorem dX11_slip_0 : decode cX11_slip 0 = .ok (.aload_n 0, 1) := by decide +kernel
theorem dX11_slip_1 : decode cX11_slip 1 = .ok (.iload_n 1, 1) := by decide +kernel
theorem dX11_slip_2 : decode cX11_slip 2 = .ok (.invokevirtual 229, 3) := by decide +kernel
theorem dX11_slip_5 : decode cX11_slip 5 = .ok (.ifCond .eq 26, 3) := by decide +kernel
theorem dX11_slip_8 : decode cX11_slip 8 = .ok (.aload_n 0, 1) := by decide +kernel
theorem dX11_slip_9 : decode cX11_slip 9 = .ok (.iconst 0, 1) := by decide +kernel
theorem dX11_slip_10 : decode cX11_slip 10 = .ok (.iload_n 2, 1) := by decide +kernel
theorem dX11_slip_11 : decode cX11_slip 11 = .ok (.invokevirtual 87, 3) := by decide +kernel
theorem dX11_slip_14 : decode cX11_slip 14 = .ok (.ifCond .eq 17, 3) := by decide +kernel
theorem dX11_slip_17 : decode cX11_slip 17 = .ok (.aload_n 0, 1) := by decide +kernel
theorem dX11_slip_18 : decode cX11_slip 18 = .ok (.getfield 45, 3) := by decide +kernel
theorem dX11_slip_21 : decode cX11_slip 21 = .ok (.bipush 30, 2) := by decide +kernel
theorem dX11_slip_23 : decode cX11_slip 23 = .ok (.iload_n 1, 1) := by decide +kernel
theorem dX11_slip_24 : decode cX11_slip 24 = .ok (.imul, 1) := by decide +kernel
theorem dX11_slip_25 : decode cX11_slip 25 = .ok (.iload_n 2, 1) := by decide +kernel
theorem dX11_slip_26 : decode cX11_slip 26 = .ok (.iadd, 1) := by decide +kernel
theorem dX11_slip_27 : decode cX11_slip 27 = .ok (.iaload, 1) := by decide +kernel
theorem dX11_slip_28 : decode cX11_slip 28 = .ok (.goto 5, 3) := by decide +kernel
theorem dX11_slip_31 : decode cX11_slip 31 = .ok (.bipush (-2), 2) := by decide +kernel
theorem dX11_slip_33 : decode cX11_slip 33 = .ok (.ireturn, 1) := by decide +kernel
theorem dX11_jury_0 : decode cX11_jury 0 = .ok (.aload_n 0, 1) := by decide +kernel
theorem dX11_jury_1 : decode cX11_jury 1 = .ok (.iload_n 1, 1) := by decide +kernel
theorem dX11_jury_2 : decode cX11_jury 2 = .ok (.invokevirtual 229, 3) := by decide +kernel
theorem dX11_jury_5 : decode cX11_jury 5 = .ok (.ifCond .eq 12, 3) := by decide +kernel
theorem dX11_jury_8 : decode cX11_jury 8 = .ok (.aload_n 0, 1) := by decide +kernel
theorem dX11_jury_9 : decode cX11_jury 9 = .ok (.getfield 36, 3) := by decide +kernel
theorem dX11_jury_12 : decode cX11_jury 12 = .ok (.iload_n 1, 1) := by decide +kernel
theorem dX11_jury_13 : decode cX11_jury 13 = .ok (.iaload, 1) := by decide +kernel
theorem dX11_jury_14 : decode cX11_jury 14 = .ok (.goto 5, 3) := by decide +kernel
theorem dX11_jury_17 : decode cX11_jury 17 = .ok (.bipush (-2), 2) := by decide +kernel
theorem dX11_jury_19 : decode cX11_jury 19 = .ok (.ireturn, 1) := by decide +kernel
theorem dX11_about_0 : decode cX11_about 0 = .ok (.aload_n 0, 1) := by decide +kernel
theorem dX11_about_1 : decode cX11_about 1 = .ok (.iload_n 1, 1) := by decide +kernel
theorem dX11_about_2 : decode cX11_about 2 = .ok (.invokevirtual 229, 3) := by decide +kernel
theorem dX11_about_5 : decode cX11_about 5 = .ok (.ifCond .eq 28, 3) := by decide +kernel
theorem dX11_about_8 : decode cX11_about 8 = .ok (.iload_n 2, 1) := by decide +kernel
theorem dX11_about_9 : decode cX11_about 9 = .ok (.i2l, 1) := by decide +kernel
theorem dX11_about_10 : decode cX11_about 10 = .ok (.lconst 0, 1) := by decide +kernel
theorem dX11_about_11 : decode cX11_about 11 = .ok (.ldc2_w 77, 3) := by decide +kernel
theorem dX11_about_14 : decode cX11_about 14 = .ok (.invokestatic 67, 3) := by decide +kernel
theorem dX11_about_17 : decode cX11_about 17 = .ok (.ifCond .eq 16, 3) := by decide +kernel
theorem dX11_about_20 : decode cX11_about 20 = .ok (.aload_n 0, 1) := by decide +kernel
theorem dX11_about_21 : decode cX11_about 21 = .ok (.getfield 48, 3) := by decide +kernel
theorem dX11_about_24 : decode cX11_about 24 = .ok (.iconst 4, 1) := by decide +kernel
theorem dX11_about_25 : decode cX11_about 25 = .ok (.iload_n 1, 1) := by decide +kernel
theorem dX11_about_26 : decode cX11_about 26 = .ok (.imul, 1) := by decide +kernel
theorem dX11_about_27 : decode cX11_about 27 = .ok (.iload_n 2, 1) := by decide +kernel
theorem dX11_about_28 : decode cX11_about 28 = .ok (.iadd, 1) := by decide +kernel
theorem dX11_about_29 : decode cX11_about 29 = .ok (.iaload, 1) := by decide +kernel
theorem dX11_about_30 : decode cX11_about 30 = .ok (.goto 5, 3) := by decide +kernel
theorem dX11_about_33 : decode cX11_about 33 = .ok (.ldc 232, 2) := by decide +kernel
theorem dX11_about_35 : decode cX11_about 35 = .ok (.ireturn, 1) := by decide +kernel
theorem dX11_bad_0 : decode cX11_bad 0 = .ok (.iload_n 1, 1) := by decide +kernel
theorem dX11_bad_1 : decode cX11_bad 1 = .ok (.invokestatic 93, 3) := by decide +kernel
theorem dX11_bad_4 : decode cX11_bad 4 = .ok (.ifCond .ne 6, 3) := by decide +kernel
theorem dX11_bad_7 : decode cX11_bad 7 = .ok (.bipush (-2), 2) := by decide +kernel
theorem dX11_bad_9 : decode cX11_bad 9 = .ok (.ireturn, 1) := by decide +kernel
theorem dX11_bad_10 : decode cX11_bad 10 = .ok (.aload_n 0, 1) := by decide +kernel
theorem dX11_bad_11 : decode cX11_bad 11 = .ok (.invokevirtual 176, 3) := by decide +kernel
theorem dX11_bad_14 : decode cX11_bad 14 = .ok (.iconst 0, 1) := by decide +kernel
theorem dX11_bad_15 : decode cX11_bad 15 = .ok (.istore_n 2, 1) := by decide +kernel
theorem dX11_bad_16 : decode cX11_bad 16 = .ok (.iconst 0, 1) := by decide +kernel
theorem dX11_bad_17 : decode cX11_bad 17 = .ok (.istore_n 3, 1) := by decide +kernel
theorem dX11_bad_18 : decode cX11_bad 18 = .ok (.iload_n 3, 1) := by decide +kernel
theorem dX11_bad_19 : decode cX11_bad 19 = .ok (.aload_n 0, 1) := by decide +kernel
theorem dX11_bad_20 : decode cX11_bad 20 = .ok (.getfield 7, 3) := by decide +kernel
theorem dX11_bad_23 : decode cX11_bad 23 = .ok (.iconst 4, 1) := by decide +kernel
theorem dX11_bad_24 : decode cX11_bad 24 = .ok (.iaload, 1) := by decide +kernel
theorem dX11_bad_25 : decode cX11_bad 25 = .ok (.if_icmp .ge 35, 3) := by decide +kernel
theorem dX11_bad_28 : decode cX11_bad 28 = .ok (.iload_n 2, 1) := by decide +kernel
theorem dX11_bad_29 : decode cX11_bad 29 = .ok (.aload_n 0, 1) := by decide +kernel
theorem dX11_bad_30 : decode cX11_bad 30 = .ok (.getfield 36, 3) := by decide +kernel
theorem dX11_bad_33 : decode cX11_bad 33 = .ok (.iload_n 3, 1) := by decide +kernel
theorem dX11_bad_34 : decode cX11_bad 34 = .ok (.iaload, 1) := by decide +kernel
theorem dX11_bad_35 : decode cX11_bad 35 = .ok (.aload_n 0, 1) := by decide +kernel
theorem dX11_bad_36 : decode cX11_bad 36 = .ok (.iload_n 3, 1) := by decide +kernel
theorem dX11_bad_37 : decode cX11_bad 37 = .ok (.iload_n 1, 1) := by decide +kernel
theorem dX11_bad_38 : decode cX11_bad 38 = .ok (.invokevirtual 206, 3) := by decide +kernel
theorem dX11_bad_41 : decode cX11_bad 41 = .ok (.iand, 1) := by decide +kernel
theorem dX11_bad_42 : decode cX11_bad 42 = .ok (.ifCond .eq 9, 3) := by decide +kernel
theorem dX11_bad_45 : decode cX11_bad 45 = .ok (.iconst 1, 1) := by decide +kernel
theorem dX11_bad_46 : decode cX11_bad 46 = .ok (.iload_n 3, 1) := by decide +kernel
theorem dX11_bad_47 : decode cX11_bad 47 = .ok (.ishl, 1) := by decide +kernel
theorem dX11_bad_48 : decode cX11_bad 48 = .ok (.goto 4, 3) := by decide +kernel
theorem dX11_bad_51 : decode cX11_bad 51 = .ok (.iconst 0, 1) := by decide +kernel
theorem dX11_bad_52 : decode cX11_bad 52 = .ok (.ior, 1) := by decide +kernel
theorem dX11_bad_53 : decode cX11_bad 53 = .ok (.istore_n 2, 1) := by decide +kernel
theorem dX11_bad_54 : decode cX11_bad 54 = .ok (.iinc 3 1, 3) := by decide +kernel
theorem dX11_bad_57 : decode cX11_bad 57 = .ok (.goto (-39), 3) := by decide +kernel
theorem dX11_bad_60 : decode cX11_bad 60 = .ok (.iload_n 2, 1) := by decide +kernel
theorem dX11_bad_61 : decode cX11_bad 61 = .ok (.ireturn, 1) := by decide +kernel
theorem dX11_sums_0 : decode cX11_sums 0 = .ok (.iload_n 1, 1) := by decide +kernel
theorem dX11_sums_1 : decode cX11_sums 1 = .ok (.i2l, 1) := by decide +kernel
theorem dX11_sums_2 : decode cX11_sums 2 = .ok (.lconst 0, 1) := by decide +kernel
theorem dX11_sums_3 : decode cX11_sums 3 = .ok (.ldc2_w 202, 3) := by decide +kernel
theorem dX11_sums_6 : decode cX11_sums 6 = .ok (.invokestatic 67, 3) := by decide +kernel
theorem dX11_sums_9 : decode cX11_sums 9 = .ok (.ifCond .eq 15, 3) := by decide +kernel
theorem dX11_sums_12 : decode cX11_sums 12 = .ok (.iload_n 2, 1) := by decide +kernel
theorem dX11_sums_13 : decode cX11_sums 13 = .ok (.i2l, 1) := by decide +kernel
theorem dX11_sums_14 : decode cX11_sums 14 = .ok (.lconst 0, 1) := by decide +kernel
theorem dX11_sums_15 : decode cX11_sums 15 = .ok (.ldc2_w 79, 3) := by decide +kernel
theorem dX11_sums_18 : decode cX11_sums 18 = .ok (.invokestatic 67, 3) := by decide +kernel
theorem dX11_sums_21 : decode cX11_sums 21 = .ok (.ifCond .ne 6, 3) := by decide +kernel
theorem dX11_sums_24 : decode cX11_sums 24 = .ok (.bipush (-2), 2) := by decide +kernel
theorem dX11_sums_26 : decode cX11_sums 26 = .ok (.ireturn, 1) := by decide +kernel
theorem dX11_sums_27 : decode cX11_sums 27 = .ok (.aload_n 0, 1) := by decide +kernel
theorem dX11_sums_28 : decode cX11_sums 28 = .ok (.getfield 7, 3) := by decide +kernel
theorem dX11_sums_31 : decode cX11_sums 31 = .ok (.iconst 5, 1) := by decide +kernel
theorem dX11_sums_32 : decode cX11_sums 32 = .ok (.iload_n 1, 1) := by decide +kernel
theorem dX11_sums_33 : decode cX11_sums 33 = .ok (.iastore, 1) := by decide +kernel
theorem dX11_sums_34 : decode cX11_sums 34 = .ok (.aload_n 0, 1) := by decide +kernel
theorem dX11_sums_35 : decode cX11_sums 35 = .ok (.getfield 7, 3) := by decide +kernel
theorem dX11_sums_38 : decode cX11_sums 38 = .ok (.bipush 6, 2) := by decide +kernel
theorem dX11_sums_40 : decode cX11_sums 40 = .ok (.iload_n 2, 1) := by decide +kernel
theorem dX11_sums_41 : decode cX11_sums 41 = .ok (.iastore, 1) := by decide +kernel
theorem dX11_sums_42 : decode cX11_sums 42 = .ok (.iconst 1, 1) := by decide +kernel
theorem dX11_sums_43 : decode cX11_sums 43 = .ok (.ireturn, 1) := by decide +kernel
theorem dX11_owed_0 : decode cX11_owed 0 = .ok (.aload_n 0, 1) := by decide +kernel
theorem dX11_owed_1 : decode cX11_owed 1 = .ok (.iconst 0, 1) := by decide +kernel
theorem dX11_owed_2 : decode cX11_owed 2 = .ok (.iload_n 1, 1) := by decide +kernel
theorem dX11_owed_3 : decode cX11_owed 3 = .ok (.invokevirtual 87, 3) := by decide +kernel
theorem dX11_owed_6 : decode cX11_owed 6 = .ok (.ifCond .eq 10, 3) := by decide +kernel
theorem dX11_owed_9 : decode cX11_owed 9 = .ok (.iload_n 2, 1) := by decide +kernel
theorem dX11_owed_10 : decode cX11_owed 10 = .ok (.invokestatic 93, 3) := by decide +kernel
theorem dX11_owed_13 : decode cX11_owed 13 = .ok (.ifCond .ne 6, 3) := by decide +kernel
theorem dX11_owed_16 : decode cX11_owed 16 = .ok (.ldc 233, 2) := by decide +kernel
theorem dX11_owed_18 : decode cX11_owed 18 = .ok (.ireturn, 1) := by decide +kernel
theorem dX11_owed_19 : decode cX11_owed 19 = .ok (.aload_n 0, 1) := by decide +kernel
theorem dX11_owed_20 : decode cX11_owed 20 = .ok (.invokevirtual 176, 3) := by decide +kernel
theorem dX11_owed_23 : decode cX11_owed 23 = .ok (.iconst 0, 1) := by decide +kernel
theorem dX11_owed_24 : decode cX11_owed 24 = .ok (.istore_n 3, 1) := by decide +kernel
theorem dX11_owed_25 : decode cX11_owed 25 = .ok (.iconst 0, 1) := by decide +kernel
theorem dX11_owed_26 : decode cX11_owed 26 = .ok (.istore 4, 2) := by decide +kernel
theorem dX11_owed_28 : decode cX11_owed 28 = .ok (.iload 4, 2) := by decide +kernel
theorem dX11_owed_30 : decode cX11_owed 30 = .ok (.aload_n 0, 1) := by decide +kernel
theorem dX11_owed_31 : decode cX11_owed 31 = .ok (.getfield 7, 3) := by decide +kernel
theorem dX11_owed_34 : decode cX11_owed 34 = .ok (.iconst 4, 1) := by decide +kernel
theorem dX11_owed_35 : decode cX11_owed 35 = .ok (.iaload, 1) := by decide +kernel
theorem dX11_owed_36 : decode cX11_owed 36 = .ok (.if_icmp .ge 86, 3) := by decide +kernel
theorem dX11_owed_39 : decode cX11_owed 39 = .ok (.aload_n 0, 1) := by decide +kernel
theorem dX11_owed_40 : decode cX11_owed 40 = .ok (.iload 4, 2) := by decide +kernel
theorem dX11_owed_42 : decode cX11_owed 42 = .ok (.iconst 0, 1) := by decide +kernel
theorem dX11_owed_43 : decode cX11_owed 43 = .ok (.invokevirtual 149, 3) := by decide +kernel
theorem dX11_owed_46 : decode cX11_owed 46 = .ok (.iload_n 2, 1) := by decide +kernel
theorem dX11_owed_47 : decode cX11_owed 47 = .ok (.if_icmp .gt 69, 3) := by decide +kernel
theorem dX11_owed_50 : decode cX11_owed 50 = .ok (.iload_n 3, 1) := by decide +kernel
theorem dX11_owed_51 : decode cX11_owed 51 = .ok (.aload_n 0, 1) := by decide +kernel
theorem dX11_owed_52 : decode cX11_owed 52 = .ok (.getfield 36, 3) := by decide +kernel
theorem dX11_owed_55 : decode cX11_owed 55 = .ok (.iload 4, 2) := by decide +kernel
theorem dX11_owed_57 : decode cX11_owed 57 = .ok (.iaload, 1) := by decide +kernel
theorem dX11_owed_58 : decode cX11_owed 58 = .ok (.iload_n 1, 1) := by decide +kernel
theorem dX11_owed_59 : decode cX11_owed 59 = .ok (.ishr, 1) := by decide +kernel
theorem dX11_owed_60 : decode cX11_owed 60 = .ok (.iconst 1, 1) := by decide +kernel
theorem dX11_owed_61 : decode cX11_owed 61 = .ok (.iand, 1) := by decide +kernel
theorem dX11_owed_62 : decode cX11_owed 62 = .ok (.iconst 1, 1) := by decide +kernel
theorem dX11_owed_63 : decode cX11_owed 63 = .ok (.if_icmp .ne 20, 3) := by decide +kernel
theorem dX11_owed_66 : decode cX11_owed 66 = .ok (.aload_n 0, 1) := by decide +kernel
theorem dX11_owed_67 : decode cX11_owed 67 = .ok (.getfield 7, 3) := by decide +kernel
theorem dX11_owed_70 : decode cX11_owed 70 = .ok (.iconst 5, 1) := by decide +kernel
theorem dX11_owed_71 : decode cX11_owed 71 = .ok (.iaload, 1) := by decide +kernel
theorem dX11_owed_72 : decode cX11_owed 72 = .ok (.aload_n 0, 1) := by decide +kernel
theorem dX11_owed_73 : decode cX11_owed 73 = .ok (.iload 4, 2) := by decide +kernel
theorem dX11_owed_75 : decode cX11_owed 75 = .ok (.iconst 1, 1) := by decide +kernel
theorem dX11_owed_76 : decode cX11_owed 76 = .ok (.invokevirtual 149, 3) := by decide +kernel
theorem dX11_owed_79 : decode cX11_owed 79 = .ok (.imul, 1) := by decide +kernel
theorem dX11_owed_80 : decode cX11_owed 80 = .ok (.goto 4, 3) := by decide +kernel
theorem dX11_owed_83 : decode cX11_owed 83 = .ok (.iconst 0, 1) := by decide +kernel
theorem dX11_owed_84 : decode cX11_owed 84 = .ok (.iadd, 1) := by decide +kernel
theorem dX11_owed_85 : decode cX11_owed 85 = .ok (.istore_n 3, 1) := by decide +kernel
theorem dX11_owed_86 : decode cX11_owed 86 = .ok (.iload_n 3, 1) := by decide +kernel
theorem dX11_owed_87 : decode cX11_owed 87 = .ok (.aload_n 0, 1) := by decide +kernel
theorem dX11_owed_88 : decode cX11_owed 88 = .ok (.getfield 45, 3) := by decide +kernel
theorem dX11_owed_91 : decode cX11_owed 91 = .ok (.bipush 30, 2) := by decide +kernel
theorem dX11_owed_93 : decode cX11_owed 93 = .ok (.iload 4, 2) := by decide +kernel
theorem dX11_owed_95 : decode cX11_owed 95 = .ok (.imul, 1) := by decide +kernel
theorem dX11_owed_96 : decode cX11_owed 96 = .ok (.iload_n 1, 1) := by decide +kernel
theorem dX11_owed_97 : decode cX11_owed 97 = .ok (.iadd, 1) := by decide +kernel
theorem dX11_owed_98 : decode cX11_owed 98 = .ok (.iaload, 1) := by decide +kernel
theorem dX11_owed_99 : decode cX11_owed 99 = .ok (.iconst 2, 1) := by decide +kernel
theorem dX11_owed_100 : decode cX11_owed 100 = .ok (.if_icmp .ne 13, 3) := by decide +kernel
theorem dX11_owed_103 : decode cX11_owed 103 = .ok (.aload_n 0, 1) := by decide +kernel
theorem dX11_owed_104 : decode cX11_owed 104 = .ok (.getfield 7, 3) := by decide +kernel
theorem dX11_owed_107 : decode cX11_owed 107 = .ok (.bipush 6, 2) := by decide +kernel
theorem dX11_owed_109 : decode cX11_owed 109 = .ok (.iaload, 1) := by decide +kernel
theorem dX11_owed_110 : decode cX11_owed 110 = .ok (.goto 4, 3) := by decide +kernel
theorem dX11_owed_113 : decode cX11_owed 113 = .ok (.iconst 0, 1) := by decide +kernel
theorem dX11_owed_114 : decode cX11_owed 114 = .ok (.isub, 1) := by decide +kernel
theorem dX11_owed_115 : decode cX11_owed 115 = .ok (.istore_n 3, 1) := by decide +kernel
theorem dX11_owed_116 : decode cX11_owed 116 = .ok (.iinc 4 1, 3) := by decide +kernel
theorem dX11_owed_119 : decode cX11_owed 119 = .ok (.goto (-91), 3) := by decide +kernel
theorem dX11_owed_122 : decode cX11_owed 122 = .ok (.iload_n 3, 1) := by decide +kernel
theorem dX11_owed_123 : decode cX11_owed 123 = .ok (.ireturn, 1) := by decide +kernel
theorem dX11_divisor_0 : decode cX11_divisor 0 = .ok (.lload_n 0, 1) := by decide +kernel
theorem dX11_divisor_1 : decode cX11_divisor 1 = .ok (.lstore 4, 2) := by decide +kernel
theorem dX11_divisor_3 : decode cX11_divisor 3 = .ok (.lload_n 2, 1) := by decide +kernel
theorem dX11_divisor_4 : decode cX11_divisor 4 = .ok (.lstore 6, 2) := by decide +kernel
theorem dX11_divisor_6 : decode cX11_divisor 6 = .ok (.lload 6, 2) := by decide +kernel
theorem dX11_divisor_8 : decode cX11_divisor 8 = .ok (.lconst 0, 1) := by decide +kernel
theorem dX11_divisor_9 : decode cX11_divisor 9 = .ok (.lcmp, 1) := by decide +kernel
theorem dX11_divisor_10 : decode cX11_divisor 10 = .ok (.ifCond .eq 21, 3) := by decide +kernel
theorem dX11_divisor_13 : decode cX11_divisor 13 = .ok (.lload 4, 2) := by decide +kernel
theorem dX11_divisor_15 : decode cX11_divisor 15 = .ok (.lload 6, 2) := by decide +kernel
theorem dX11_divisor_17 : decode cX11_divisor 17 = .ok (.lrem, 1) := by decide +kernel
theorem dX11_divisor_18 : decode cX11_divisor 18 = .ok (.lstore 8, 2) := by decide +kernel
theorem dX11_divisor_20 : decode cX11_divisor 20 = .ok (.lload 6, 2) := by decide +kernel
theorem dX11_divisor_22 : decode cX11_divisor 22 = .ok (.lstore 4, 2) := by decide +kernel
theorem dX11_divisor_24 : decode cX11_divisor 24 = .ok (.lload 8, 2) := by decide +kernel
theorem dX11_divisor_26 : decode cX11_divisor 26 = .ok (.lstore 6, 2) := by decide +kernel
theorem dX11_divisor_28 : decode cX11_divisor 28 = .ok (.goto (-22), 3) := by decide +kernel
theorem dX11_divisor_31 : decode cX11_divisor 31 = .ok (.lload 4, 2) := by decide +kernel
theorem dX11_divisor_33 : decode cX11_divisor 33 = .ok (.lreturn, 1) := by decide +kernel
theorem dX11_told_0 : decode cX11_told 0 = .ok (.lload_n 1, 1) := by decide +kernel
theorem dX11_told_1 : decode cX11_told 1 = .ok (.lconst 0, 1) := by decide +kernel
theorem dX11_told_2 : decode cX11_told 2 = .ok (.lcmp, 1) := by decide +kernel
theorem dX11_told_3 : decode cX11_told 3 = .ok (.ifCond .eq 9, 3) := by decide +kernel
theorem dX11_told_6 : decode cX11_told 6 = .ok (.lload_n 3, 1) := by decide +kernel
theorem dX11_told_7 : decode cX11_told 7 = .ok (.lconst 0, 1) := by decide +kernel
theorem dX11_told_8 : decode cX11_told 8 = .ok (.lcmp, 1) := by decide +kernel
theorem dX11_told_9 : decode cX11_told 9 = .ok (.ifCond .ne 5, 3) := by decide +kernel
theorem dX11_told_12 : decode cX11_told 12 = .ok (.iconst 0, 1) := by decide +kernel
theorem dX11_told_13 : decode cX11_told 13 = .ok (.ireturn, 1) := by decide +kernel
theorem dX11_told_14 : decode cX11_told 14 = .ok (.lload_n 1, 1) := by decide +kernel
theorem dX11_told_15 : decode cX11_told 15 = .ok (.lload_n 3, 1) := by decide +kernel
theorem dX11_told_16 : decode cX11_told 16 = .ok (.invokestatic 234, 3) := by decide +kernel
theorem dX11_told_19 : decode cX11_told 19 = .ok (.lstore 5, 2) := by decide +kernel
theorem dX11_told_21 : decode cX11_told 21 = .ok (.aload_n 0, 1) := by decide +kernel
theorem dX11_told_22 : decode cX11_told 22 = .ok (.lload_n 1, 1) := by decide +kernel
theorem dX11_told_23 : decode cX11_told 23 = .ok (.lload 5, 2) := by decide +kernel
theorem dX11_told_25 : decode cX11_told 25 = .ok (.ldiv, 1) := by decide +kernel
theorem dX11_told_26 : decode cX11_told 26 = .ok (.putfield 238, 3) := by decide +kernel
theorem dX11_told_29 : decode cX11_told 29 = .ok (.aload_n 0, 1) := by decide +kernel
theorem dX11_told_30 : decode cX11_told 30 = .ok (.lload_n 3, 1) := by decide +kernel
theorem dX11_told_31 : decode cX11_told 31 = .ok (.lload 5, 2) := by decide +kernel
theorem dX11_told_33 : decode cX11_told 33 = .ok (.ldiv, 1) := by decide +kernel
theorem dX11_told_34 : decode cX11_told 34 = .ok (.putfield 63, 3) := by decide +kernel
theorem dX11_told_37 : decode cX11_told 37 = .ok (.iconst 1, 1) := by decide +kernel
theorem dX11_told_38 : decode cX11_told 38 = .ok (.ireturn, 1) := by decide +kernel
theorem dX11_ways_0 : decode cX11_ways 0 = .ok (.iload_n 1, 1) := by decide +kernel
theorem dX11_ways_1 : decode cX11_ways 1 = .ok (.ifCond .lt 8, 3) := by decide +kernel
theorem dX11_ways_4 : decode cX11_ways 4 = .ok (.iload_n 1, 1) := by decide +kernel
theorem dX11_ways_5 : decode cX11_ways 5 = .ok (.iload_n 0, 1) := by decide +kernel
theorem dX11_ways_6 : decode cX11_ways 6 = .ok (.if_icmp .le 5, 3) := by decide +kernel
theorem dX11_ways_9 : decode cX11_ways 9 = .ok (.lconst 0, 1) := by decide +kernel
theorem dX11_ways_10 : decode cX11_ways 10 = .ok (.lreturn, 1) := by decide +kernel
theorem dX11_ways_11 : decode cX11_ways 11 = .ok (.lconst 1, 1) := by decide +kernel
theorem dX11_ways_12 : decode cX11_ways 12 = .ok (.lstore_n 2, 1) := by decide +kernel
theorem dX11_ways_13 : decode cX11_ways 13 = .ok (.iconst 1, 1) := by decide +kernel
theorem dX11_ways_14 : decode cX11_ways 14 = .ok (.istore 4, 2) := by decide +kernel
theorem dX11_ways_16 : decode cX11_ways 16 = .ok (.iload 4, 2) := by decide +kernel
theorem dX11_ways_18 : decode cX11_ways 18 = .ok (.iload_n 1, 1) := by decide +kernel
theorem dX11_ways_19 : decode cX11_ways 19 = .ok (.if_icmp .gt 23, 3) := by decide +kernel
theorem dX11_ways_22 : decode cX11_ways 22 = .ok (.lload_n 2, 1) := by decide +kernel
theorem dX11_ways_23 : decode cX11_ways 23 = .ok (.iload_n 0, 1) := by decide +kernel
theorem dX11_ways_24 : decode cX11_ways 24 = .ok (.iload_n 1, 1) := by decide +kernel
theorem dX11_ways_25 : decode cX11_ways 25 = .ok (.isub, 1) := by decide +kernel
theorem dX11_ways_26 : decode cX11_ways 26 = .ok (.iload 4, 2) := by decide +kernel
theorem dX11_ways_28 : decode cX11_ways 28 = .ok (.iadd, 1) := by decide +kernel
theorem dX11_ways_29 : decode cX11_ways 29 = .ok (.i2l, 1) := by decide +kernel
theorem dX11_ways_30 : decode cX11_ways 30 = .ok (.lmul, 1) := by decide +kernel
theorem dX11_ways_31 : decode cX11_ways 31 = .ok (.iload 4, 2) := by decide +kernel
theorem dX11_ways_33 : decode cX11_ways 33 = .ok (.i2l, 1) := by decide +kernel
theorem dX11_ways_34 : decode cX11_ways 34 = .ok (.ldiv, 1) := by decide +kernel
theorem dX11_ways_35 : decode cX11_ways 35 = .ok (.lstore_n 2, 1) := by decide +kernel
theorem dX11_ways_36 : decode cX11_ways 36 = .ok (.iinc 4 1, 3) := by decide +kernel
theorem dX11_ways_39 : decode cX11_ways 39 = .ok (.goto (-23), 3) := by decide +kernel
theorem dX11_ways_42 : decode cX11_ways 42 = .ok (.lload_n 2, 1) := by decide +kernel
theorem dX11_ways_43 : decode cX11_ways 43 = .ok (.lreturn, 1) := by decide +kernel
theorem dX11_chance_0 : decode cX11_chance 0 = .ok (.iload_n 1, 1) := by decide +kernel
theorem dX11_chance_1 : decode cX11_chance 1 = .ok (.i2l, 1) := by decide +kernel
theorem dX11_chance_2 : decode cX11_chance 2 = .ok (.lconst 0, 1) := by decide +kernel
theorem dX11_chance_3 : decode cX11_chance 3 = .ok (.ldc2_w 241, 3) := by decide +kernel
theorem dX11_chance_6 : decode cX11_chance 6 = .ok (.invokestatic 67, 3) := by decide +kernel
theorem dX11_chance_9 : decode cX11_chance 9 = .ok (.ifCond .eq 38, 3) := by decide +kernel
theorem dX11_chance_12 : decode cX11_chance 12 = .ok (.iload_n 2, 1) := by decide +kernel
theorem dX11_chance_13 : decode cX11_chance 13 = .ok (.i2l, 1) := by decide +kernel
theorem dX11_chance_14 : decode cX11_chance 14 = .ok (.lconst 0, 1) := by decide +kernel
theorem dX11_chance_15 : decode cX11_chance 15 = .ok (.iload_n 1, 1) := by decide +kernel
theorem dX11_chance_16 : decode cX11_chance 16 = .ok (.i2l, 1) := by decide +kernel
theorem dX11_chance_17 : decode cX11_chance 17 = .ok (.invokestatic 67, 3) := by decide +kernel
theorem dX11_chance_20 : decode cX11_chance 20 = .ok (.ifCond .eq 27, 3) := by decide +kernel
theorem dX11_chance_23 : decode cX11_chance 23 = .ok (.iload_n 3, 1) := by decide +kernel
theorem dX11_chance_24 : decode cX11_chance 24 = .ok (.i2l, 1) := by decide +kernel
theorem dX11_chance_25 : decode cX11_chance 25 = .ok (.lconst 0, 1) := by decide +kernel
theorem dX11_chance_26 : decode cX11_chance 26 = .ok (.iload_n 1, 1) := by decide +kernel
theorem dX11_chance_27 : decode cX11_chance 27 = .ok (.i2l, 1) := by decide +kernel
theorem dX11_chance_28 : decode cX11_chance 28 = .ok (.invokestatic 67, 3) := by decide +kernel
theorem dX11_chance_31 : decode cX11_chance 31 = .ok (.ifCond .eq 16, 3) := by decide +kernel
theorem dX11_chance_34 : decode cX11_chance 34 = .ok (.iload 4, 2) := by decide +kernel
theorem dX11_chance_36 : decode cX11_chance 36 = .ok (.i2l, 1) := by decide +kernel
theorem dX11_chance_37 : decode cX11_chance 37 = .ok (.lconst 0, 1) := by decide +kernel
theorem dX11_chance_38 : decode cX11_chance 38 = .ok (.ldc2_w 241, 3) := by decide +kernel
theorem dX11_chance_41 : decode cX11_chance 41 = .ok (.invokestatic 67, 3) := by decide +kernel
theorem dX11_chance_44 : decode cX11_chance 44 = .ok (.ifCond .ne 6, 3) := by decide +kernel
theorem dX11_chance_47 : decode cX11_chance 47 = .ok (.bipush (-2), 2) := by decide +kernel
theorem dX11_chance_49 : decode cX11_chance 49 = .ok (.ireturn, 1) := by decide +kernel
theorem dX11_chance_50 : decode cX11_chance 50 = .ok (.lconst 0, 1) := by decide +kernel
theorem dX11_chance_51 : decode cX11_chance 51 = .ok (.lstore 5, 2) := by decide +kernel
theorem dX11_chance_53 : decode cX11_chance 53 = .ok (.iload 4, 2) := by decide +kernel
theorem dX11_chance_55 : decode cX11_chance 55 = .ok (.istore 7, 2) := by decide +kernel
theorem dX11_chance_57 : decode cX11_chance 57 = .ok (.iload 7, 2) := by decide +kernel
theorem dX11_chance_59 : decode cX11_chance 59 = .ok (.iload_n 3, 1) := by decide +kernel
theorem dX11_chance_60 : decode cX11_chance 60 = .ok (.if_icmp .gt 31, 3) := by decide +kernel
theorem dX11_chance_63 : decode cX11_chance 63 = .ok (.lload 5, 2) := by decide +kernel
theorem dX11_chance_65 : decode cX11_chance 65 = .ok (.iload_n 2, 1) := by decide +kernel
theorem dX11_chance_66 : decode cX11_chance 66 = .ok (.iload 7, 2) := by decide +kernel
theorem dX11_chance_68 : decode cX11_chance 68 = .ok (.invokestatic 243, 3) := by decide +kernel
theorem dX11_chance_71 : decode cX11_chance 71 = .ok (.iload_n 1, 1) := by decide +kernel
theorem dX11_chance_72 : decode cX11_chance 72 = .ok (.iload_n 2, 1) := by decide +kernel
theorem dX11_chance_73 : decode cX11_chance 73 = .ok (.isub, 1) := by decide +kernel
theorem dX11_chance_74 : decode cX11_chance 74 = .ok (.iload_n 3, 1) := by decide +kernel
theorem dX11_chance_75 : decode cX11_chance 75 = .ok (.iload 7, 2) := by decide +kernel
theorem dX11_chance_77 : decode cX11_chance 77 = .ok (.isub, 1) := by decide +kernel
theorem dX11_chance_78 : decode cX11_chance 78 = .ok (.invokestatic 243, 3) := by decide +kernel
theorem dX11_chance_81 : decode cX11_chance 81 = .ok (.lmul, 1) := by decide +kernel
theorem dX11_chance_82 : decode cX11_chance 82 = .ok (.ladd, 1) := by decide +kernel
theorem dX11_chance_83 : decode cX11_chance 83 = .ok (.lstore 5, 2) := by decide +kernel
theorem dX11_chance_85 : decode cX11_chance 85 = .ok (.iinc 7 1, 3) := by decide +kernel
theorem dX11_chance_88 : decode cX11_chance 88 = .ok (.goto (-31), 3) := by decide +kernel
theorem dX11_chance_91 : decode cX11_chance 91 = .ok (.aload_n 0, 1) := by decide +kernel
theorem dX11_chance_92 : decode cX11_chance 92 = .ok (.lload 5, 2) := by decide +kernel
theorem dX11_chance_94 : decode cX11_chance 94 = .ok (.iload_n 1, 1) := by decide +kernel
theorem dX11_chance_95 : decode cX11_chance 95 = .ok (.iload_n 3, 1) := by decide +kernel
theorem dX11_chance_96 : decode cX11_chance 96 = .ok (.invokestatic 243, 3) := by decide +kernel
theorem dX11_chance_99 : decode cX11_chance 99 = .ok (.invokevirtual 246, 3) := by decide +kernel
theorem dX11_chance_102 : decode cX11_chance 102 = .ok (.ireturn, 1) := by decide +kernel
theorem dX11_twelve_0 : decode cX11_twelve 0 = .ok (.aload_n 0, 1) := by decide +kernel
theorem dX11_twelve_1 : decode cX11_twelve 1 = .ok (.iload_n 1, 1) := by decide +kernel
theorem dX11_twelve_2 : decode cX11_twelve 2 = .ok (.invokevirtual 229, 3) := by decide +kernel
theorem dX11_twelve_5 : decode cX11_twelve 5 = .ok (.ifCond .eq 13, 3) := by decide +kernel
theorem dX11_twelve_8 : decode cX11_twelve 8 = .ok (.iload_n 2, 1) := by decide +kernel
theorem dX11_twelve_9 : decode cX11_twelve 9 = .ok (.i2l, 1) := by decide +kernel
theorem dX11_twelve_10 : decode cX11_twelve 10 = .ok (.lconst 0, 1) := by decide +kernel
theorem dX11_twelve_11 : decode cX11_twelve 11 = .ok (.lconst 1, 1) := by decide +kernel
theorem dX11_twelve_12 : decode cX11_twelve 12 = .ok (.invokestatic 67, 3) := by decide +kernel
theorem dX11_twelve_15 : decode cX11_twelve 15 = .ok (.ifCond .ne 6, 3) := by decide +kernel
theorem dX11_twelve_18 : decode cX11_twelve 18 = .ok (.bipush (-2), 2) := by decide +kernel
theorem dX11_twelve_20 : decode cX11_twelve 20 = .ok (.ireturn, 1) := by decide +kernel
theorem dX11_twelve_21 : decode cX11_twelve 21 = .ok (.iload_n 2, 1) := by decide +kernel
theorem dX11_twelve_22 : decode cX11_twelve 22 = .ok (.ifCond .ne 12, 3) := by decide +kernel
theorem dX11_twelve_25 : decode cX11_twelve 25 = .ok (.aload_n 0, 1) := by decide +kernel
theorem dX11_twelve_26 : decode cX11_twelve 26 = .ok (.getfield 33, 3) := by decide +kernel
theorem dX11_twelve_29 : decode cX11_twelve 29 = .ok (.iload_n 1, 1) := by decide +kernel
theorem dX11_twelve_30 : decode cX11_twelve 30 = .ok (.iaload, 1) := by decide +kernel
theorem dX11_twelve_31 : decode cX11_twelve 31 = .ok (.goto 15, 3) := by decide +kernel
theorem dX11_twelve_34 : decode cX11_twelve 34 = .ok (.aload_n 0, 1) := by decide +kernel
theorem dX11_twelve_35 : decode cX11_twelve 35 = .ok (.iconst 0, 1) := by decide +kernel
theorem dX11_twelve_36 : decode cX11_twelve 36 = .ok (.aload_n 0, 1) := by decide +kernel
theorem dX11_twelve_37 : decode cX11_twelve 37 = .ok (.iload_n 1, 1) := by decide +kernel
theorem dX11_twelve_38 : decode cX11_twelve 38 = .ok (.iconst 0, 1) := by decide +kernel
theorem dX11_twelve_39 : decode cX11_twelve 39 = .ok (.invokevirtual 149, 3) := by decide +kernel
theorem dX11_twelve_42 : decode cX11_twelve 42 = .ok (.iconst (-1), 1) := by decide +kernel
theorem dX11_twelve_43 : decode cX11_twelve 43 = .ok (.invokevirtual 188, 3) := by decide +kernel
theorem dX11_twelve_46 : decode cX11_twelve 46 = .ok (.istore_n 3, 1) := by decide +kernel
theorem dX11_twelve_47 : decode cX11_twelve 47 = .ok (.lconst 0, 1) := by decide +kernel
theorem dX11_twelve_48 : decode cX11_twelve 48 = .ok (.lstore 4, 2) := by decide +kernel
theorem dX11_twelve_50 : decode cX11_twelve 50 = .ok (.iconst 0, 1) := by decide +kernel
theorem dX11_twelve_51 : decode cX11_twelve 51 = .ok (.istore 6, 2) := by decide +kernel
theorem dX11_twelve_53 : decode cX11_twelve 53 = .ok (.iload 6, 2) := by decide +kernel
theorem dX11_twelve_55 : decode cX11_twelve 55 = .ok (.iconst 4, 1) := by decide +kernel
theorem dX11_twelve_56 : decode cX11_twelve 56 = .ok (.if_icmp .ge 85, 3) := by decide +kernel
theorem dX11_twelve_59 : decode cX11_twelve 59 = .ok (.iconst 0, 1) := by decide +kernel
theorem dX11_twelve_60 : decode cX11_twelve 60 = .ok (.istore 7, 2) := by decide +kernel
theorem dX11_twelve_62 : decode cX11_twelve 62 = .ok (.iconst 0, 1) := by decide +kernel
theorem dX11_twelve_63 : decode cX11_twelve 63 = .ok (.istore 8, 2) := by decide +kernel
theorem dX11_twelve_65 : decode cX11_twelve 65 = .ok (.iload 8, 2) := by decide +kernel
theorem dX11_twelve_67 : decode cX11_twelve 67 = .ok (.aload_n 0, 1) := by decide +kernel
theorem dX11_twelve_68 : decode cX11_twelve 68 = .ok (.getfield 7, 3) := by decide +kernel
theorem dX11_twelve_71 : decode cX11_twelve 71 = .ok (.iconst 0, 1) := by decide +kernel
theorem dX11_twelve_72 : decode cX11_twelve 72 = .ok (.iaload, 1) := by decide +kernel
theorem dX11_twelve_73 : decode cX11_twelve 73 = .ok (.if_icmp .ge 46, 3) := by decide +kernel
theorem dX11_twelve_76 : decode cX11_twelve 76 = .ok (.iload 7, 2) := by decide +kernel
theorem dX11_twelve_78 : decode cX11_twelve 78 = .ok (.iload_n 3, 1) := by decide +kernel
theorem dX11_twelve_79 : decode cX11_twelve 79 = .ok (.iload 8, 2) := by decide +kernel
theorem dX11_twelve_81 : decode cX11_twelve 81 = .ok (.ishr, 1) := by decide +kernel
theorem dX11_twelve_82 : decode cX11_twelve 82 = .ok (.iconst 1, 1) := by decide +kernel
theorem dX11_twelve_83 : decode cX11_twelve 83 = .ok (.iand, 1) := by decide +kernel
theorem dX11_twelve_84 : decode cX11_twelve 84 = .ok (.iconst 1, 1) := by decide +kernel
theorem dX11_twelve_85 : decode cX11_twelve 85 = .ok (.if_icmp .ne 24, 3) := by decide +kernel
theorem dX11_twelve_88 : decode cX11_twelve 88 = .ok (.aload_n 0, 1) := by decide +kernel
theorem dX11_twelve_89 : decode cX11_twelve 89 = .ok (.getfield 7, 3) := by decide +kernel
theorem dX11_twelve_92 : decode cX11_twelve 92 = .ok (.bipush 10, 2) := by decide +kernel
theorem dX11_twelve_94 : decode cX11_twelve 94 = .ok (.iconst 4, 1) := by decide +kernel
theorem dX11_twelve_95 : decode cX11_twelve 95 = .ok (.iload 8, 2) := by decide +kernel
theorem dX11_twelve_97 : decode cX11_twelve 97 = .ok (.imul, 1) := by decide +kernel
theorem dX11_twelve_98 : decode cX11_twelve 98 = .ok (.iadd, 1) := by decide +kernel
theorem dX11_twelve_99 : decode cX11_twelve 99 = .ok (.iaload, 1) := by decide +kernel
theorem dX11_twelve_100 : decode cX11_twelve 100 = .ok (.iload 6, 2) := by decide +kernel
theorem dX11_twelve_102 : decode cX11_twelve 102 = .ok (.if_icmp .ne 7, 3) := by decide +kernel
theorem dX11_twelve_105 : decode cX11_twelve 105 = .ok (.iconst 1, 1) := by decide +kernel
theorem dX11_twelve_106 : decode cX11_twelve 106 = .ok (.goto 4, 3) := by decide +kernel
theorem dX11_twelve_109 : decode cX11_twelve 109 = .ok (.iconst 0, 1) := by decide +kernel
theorem dX11_twelve_110 : decode cX11_twelve 110 = .ok (.iadd, 1) := by decide +kernel
theorem dX11_twelve_111 : decode cX11_twelve 111 = .ok (.istore 7, 2) := by decide +kernel
theorem dX11_twelve_113 : decode cX11_twelve 113 = .ok (.iinc 8 1, 3) := by decide +kernel
theorem dX11_twelve_116 : decode cX11_twelve 116 = .ok (.goto (-51), 3) := by decide +kernel
theorem dX11_twelve_119 : decode cX11_twelve 119 = .ok (.lload 4, 2) := by decide +kernel
theorem dX11_twelve_121 : decode cX11_twelve 121 = .ok (.iload 7, 2) := by decide +kernel
theorem dX11_twelve_123 : decode cX11_twelve 123 = .ok (.aload_n 0, 1) := by decide +kernel
theorem dX11_twelve_124 : decode cX11_twelve 124 = .ok (.iload_n 1, 1) := by decide +kernel
theorem dX11_twelve_125 : decode cX11_twelve 125 = .ok (.iconst 2, 1) := by decide +kernel
theorem dX11_twelve_126 : decode cX11_twelve 126 = .ok (.invokevirtual 149, 3) := by decide +kernel
theorem dX11_twelve_129 : decode cX11_twelve 129 = .ok (.invokestatic 243, 3) := by decide +kernel
theorem dX11_twelve_132 : decode cX11_twelve 132 = .ok (.ladd, 1) := by decide +kernel
theorem dX11_twelve_133 : decode cX11_twelve 133 = .ok (.lstore 4, 2) := by decide +kernel
theorem dX11_twelve_135 : decode cX11_twelve 135 = .ok (.iinc 6 1, 3) := by decide +kernel
theorem dX11_twelve_138 : decode cX11_twelve 138 = .ok (.goto (-85), 3) := by decide +kernel
theorem dX11_twelve_141 : decode cX11_twelve 141 = .ok (.aload_n 0, 1) := by decide +kernel
theorem dX11_twelve_142 : decode cX11_twelve 142 = .ok (.lload 4, 2) := by decide +kernel
theorem dX11_twelve_144 : decode cX11_twelve 144 = .ok (.iload_n 3, 1) := by decide +kernel
theorem dX11_twelve_145 : decode cX11_twelve 145 = .ok (.invokestatic 222, 3) := by decide +kernel
theorem dX11_twelve_148 : decode cX11_twelve 148 = .ok (.aload_n 0, 1) := by decide +kernel
theorem dX11_twelve_149 : decode cX11_twelve 149 = .ok (.iload_n 1, 1) := by decide +kernel
theorem dX11_twelve_150 : decode cX11_twelve 150 = .ok (.iconst 2, 1) := by decide +kernel
theorem dX11_twelve_151 : decode cX11_twelve 151 = .ok (.invokevirtual 149, 3) := by decide +kernel
theorem dX11_twelve_154 : decode cX11_twelve 154 = .ok (.invokestatic 243, 3) := by decide +kernel
theorem dX11_twelve_157 : decode cX11_twelve 157 = .ok (.invokevirtual 246, 3) := by decide +kernel
theorem dX11_twelve_160 : decode cX11_twelve 160 = .ok (.ireturn, 1) := by decide +kernel
theorem dX11_part_0 : decode cX11_part 0 = .ok (.iload_n 1, 1) := by decide +kernel
theorem dX11_part_1 : decode cX11_part 1 = .ok (.ifCond .ne 10, 3) := by decide +kernel
theorem dX11_part_4 : decode cX11_part 4 = .ok (.aload_n 0, 1) := by decide +kernel
theorem dX11_part_5 : decode cX11_part 5 = .ok (.getfield 238, 3) := by decide +kernel
theorem dX11_part_8 : decode cX11_part 8 = .ok (.goto 18, 3) := by decide +kernel
theorem dX11_part_11 : decode cX11_part 11 = .ok (.iload_n 1, 1) := by decide +kernel
theorem dX11_part_12 : decode cX11_part 12 = .ok (.iconst 1, 1) := by decide +kernel
theorem dX11_part_13 : decode cX11_part 13 = .ok (.if_icmp .ne 10, 3) := by decide +kernel
theorem dX11_part_16 : decode cX11_part 16 = .ok (.aload_n 0, 1) := by decide +kernel
theorem dX11_part_17 : decode cX11_part 17 = .ok (.getfield 63, 3) := by decide +kernel
theorem dX11_part_20 : decode cX11_part 20 = .ok (.goto 6, 3) := by decide +kernel
theorem dX11_part_23 : decode cX11_part 23 = .ok (.ldc2_w 194, 3) := by decide +kernel
theorem dX11_part_26 : decode cX11_part 26 = .ok (.lreturn, 1) := by decide +kernel
theorem dX11_beside_0 : decode cX11_beside 0 = .ok (.aload_n 0, 1) := by decide +kernel
theorem dX11_beside_1 : decode cX11_beside 1 = .ok (.iload_n 1, 1) := by decide +kernel
theorem dX11_beside_2 : decode cX11_beside 2 = .ok (.invokevirtual 229, 3) := by decide +kernel
theorem dX11_beside_5 : decode cX11_beside 5 = .ok (.ifCond .eq 20, 3) := by decide +kernel
theorem dX11_beside_8 : decode cX11_beside 8 = .ok (.iload_n 2, 1) := by decide +kernel
theorem dX11_beside_9 : decode cX11_beside 9 = .ok (.invokestatic 166, 3) := by decide +kernel
theorem dX11_beside_12 : decode cX11_beside 12 = .ok (.ifCond .eq 13, 3) := by decide +kernel
theorem dX11_beside_15 : decode cX11_beside 15 = .ok (.iload_n 3, 1) := by decide +kernel
theorem dX11_beside_16 : decode cX11_beside 16 = .ok (.i2l, 1) := by decide +kernel
theorem dX11_beside_17 : decode cX11_beside 17 = .ok (.lconst 0, 1) := by decide +kernel
theorem dX11_beside_18 : decode cX11_beside 18 = .ok (.lconst 1, 1) := by decide +kernel
theorem dX11_beside_19 : decode cX11_beside 19 = .ok (.invokestatic 67, 3) := by decide +kernel
theorem dX11_beside_22 : decode cX11_beside 22 = .ok (.ifCond .ne 6, 3) := by decide +kernel
theorem dX11_beside_25 : decode cX11_beside 25 = .ok (.bipush (-2), 2) := by decide +kernel
theorem dX11_beside_27 : decode cX11_beside 27 = .ok (.ireturn, 1) := by decide +kernel
theorem dX11_beside_28 : decode cX11_beside 28 = .ok (.aload_n 0, 1) := by decide +kernel
theorem dX11_beside_29 : decode cX11_beside 29 = .ok (.sipush 262, 3) := by decide +kernel
theorem dX11_beside_32 : decode cX11_beside 32 = .ok (.bipush 51, 2) := by decide +kernel
theorem dX11_beside_34 : decode cX11_beside 34 = .ok (.iload_n 2, 1) := by decide +kernel
theorem dX11_beside_35 : decode cX11_beside 35 = .ok (.imul, 1) := by decide +kernel
theorem dX11_beside_36 : decode cX11_beside 36 = .ok (.iadd, 1) := by decide +kernel
theorem dX11_beside_37 : decode cX11_beside 37 = .ok (.invokevirtual 171, 3) := by decide +kernel
theorem dX11_beside_40 : decode cX11_beside 40 = .ok (.iconst (-1), 1) := by decide +kernel
theorem dX11_beside_41 : decode cX11_beside 41 = .ok (.if_icmp .eq 6, 3) := by decide +kernel
theorem dX11_beside_44 : decode cX11_beside 44 = .ok (.bipush (-3), 2) := by decide +kernel
theorem dX11_beside_46 : decode cX11_beside 46 = .ok (.ireturn, 1) := by decide +kernel
theorem dX11_beside_47 : decode cX11_beside 47 = .ok (.aload_n 0, 1) := by decide +kernel
theorem dX11_beside_48 : decode cX11_beside 48 = .ok (.getfield 146, 3) := by decide +kernel
theorem dX11_beside_51 : decode cX11_beside 51 = .ok (.istore 4, 2) := by decide +kernel
theorem dX11_beside_53 : decode cX11_beside 53 = .ok (.aload_n 0, 1) := by decide +kernel
theorem dX11_beside_54 : decode cX11_beside 54 = .ok (.iload_n 1, 1) := by decide +kernel
theorem dX11_beside_55 : decode cX11_beside 55 = .ok (.putfield 146, 3) := by decide +kernel
theorem dX11_beside_58 : decode cX11_beside 58 = .ok (.aload_n 0, 1) := by decide +kernel
theorem dX11_beside_59 : decode cX11_beside 59 = .ok (.iload_n 1, 1) := by decide +kernel
theorem dX11_beside_60 : decode cX11_beside 60 = .ok (.bipush 10, 2) := by decide +kernel
theorem dX11_beside_62 : decode cX11_beside 62 = .ok (.iload_n 2, 1) := by decide +kernel
theorem dX11_beside_63 : decode cX11_beside 63 = .ok (.iload_n 3, 1) := by decide +kernel
theorem dX11_beside_64 : decode cX11_beside 64 = .ok (.invokevirtual 225, 3) := by decide +kernel
theorem dX11_beside_67 : decode cX11_beside 67 = .ok (.aload_n 0, 1) := by decide +kernel
theorem dX11_beside_68 : decode cX11_beside 68 = .ok (.iload 4, 2) := by decide +kernel
theorem dX11_beside_70 : decode cX11_beside 70 = .ok (.putfield 146, 3) := by decide +kernel
theorem dX11_beside_73 : decode cX11_beside 73 = .ok (.aload_n 0, 1) := by decide +kernel
theorem dX11_beside_74 : decode cX11_beside 74 = .ok (.getfield 36, 3) := by decide +kernel
theorem dX11_beside_77 : decode cX11_beside 77 = .ok (.bipush 10, 2) := by decide +kernel
theorem dX11_beside_79 : decode cX11_beside 79 = .ok (.iaload, 1) := by decide +kernel
theorem dX11_beside_80 : decode cX11_beside 80 = .ok (.aload_n 0, 1) := by decide +kernel
theorem dX11_beside_81 : decode cX11_beside 81 = .ok (.getfield 36, 3) := by decide +kernel
theorem dX11_beside_84 : decode cX11_beside 84 = .ok (.iload_n 1, 1) := by decide +kernel
theorem dX11_beside_85 : decode cX11_beside 85 = .ok (.iaload, 1) := by decide +kernel
theorem dX11_beside_86 : decode cX11_beside 86 = .ok (.ixor, 1) := by decide +kernel
theorem dX11_beside_87 : decode cX11_beside 87 = .ok (.ireturn, 1) := by decide +kernel
theorem dX11_meets_0 : decode cX11_meets 0 = .ok (.aload_n 0, 1) := by decide +kernel
theorem dX11_meets_1 : decode cX11_meets 1 = .ok (.iload_n 1, 1) := by decide +kernel
theorem dX11_meets_2 : decode cX11_meets 2 = .ok (.iconst 5, 1) := by decide +kernel
theorem dX11_meets_3 : decode cX11_meets 3 = .ok (.invokevirtual 149, 3) := by decide +kernel
theorem dX11_meets_6 : decode cX11_meets 6 = .ok (.iconst (-1), 1) := by decide +kernel
theorem dX11_meets_7 : decode cX11_meets 7 = .ok (.if_icmp .eq 22, 3) := by decide +kernel
theorem dX11_meets_10 : decode cX11_meets 10 = .ok (.aload_n 0, 1) := by decide +kernel
theorem dX11_meets_11 : decode cX11_meets 11 = .ok (.iload_n 1, 1) := by decide +kernel
theorem dX11_meets_12 : decode cX11_meets 12 = .ok (.iconst 5, 1) := by decide +kernel
theorem dX11_meets_13 : decode cX11_meets 13 = .ok (.invokevirtual 149, 3) := by decide +kernel
theorem dX11_meets_16 : decode cX11_meets 16 = .ok (.aload_n 0, 1) := by decide +kernel
theorem dX11_meets_17 : decode cX11_meets 17 = .ok (.iload_n 2, 1) := by decide +kernel
theorem dX11_meets_18 : decode cX11_meets 18 = .ok (.iconst 5, 1) := by decide +kernel
theorem dX11_meets_19 : decode cX11_meets 19 = .ok (.invokevirtual 149, 3) := by decide +kernel
theorem dX11_meets_22 : decode cX11_meets 22 = .ok (.if_icmp .ne 7, 3) := by decide +kernel
theorem dX11_meets_25 : decode cX11_meets 25 = .ok (.iconst 1, 1) := by decide +kernel
theorem dX11_meets_26 : decode cX11_meets 26 = .ok (.goto 4, 3) := by decide +kernel
theorem dX11_meets_29 : decode cX11_meets 29 = .ok (.iconst 0, 1) := by decide +kernel
theorem dX11_meets_30 : decode cX11_meets 30 = .ok (.istore_n 3, 1) := by decide +kernel
theorem dX11_meets_31 : decode cX11_meets 31 = .ok (.iconst 0, 1) := by decide +kernel
theorem dX11_meets_32 : decode cX11_meets 32 = .ok (.istore 4, 2) := by decide +kernel
theorem dX11_meets_34 : decode cX11_meets 34 = .ok (.iload 4, 2) := by decide +kernel
theorem dX11_meets_36 : decode cX11_meets 36 = .ok (.iconst 2, 1) := by decide +kernel
theorem dX11_meets_37 : decode cX11_meets 37 = .ok (.if_icmp .ge 68, 3) := by decide +kernel
theorem dX11_meets_40 : decode cX11_meets 40 = .ok (.iconst 0, 1) := by decide +kernel
theorem dX11_meets_41 : decode cX11_meets 41 = .ok (.istore 5, 2) := by decide +kernel
theorem dX11_meets_43 : decode cX11_meets 43 = .ok (.iload 5, 2) := by decide +kernel
theorem dX11_meets_45 : decode cX11_meets 45 = .ok (.iconst 2, 1) := by decide +kernel
theorem dX11_meets_46 : decode cX11_meets 46 = .ok (.if_icmp .ge 53, 3) := by decide +kernel
theorem dX11_meets_49 : decode cX11_meets 49 = .ok (.iload_n 3, 1) := by decide +kernel
theorem dX11_meets_50 : decode cX11_meets 50 = .ok (.ifCond .ne 37, 3) := by decide +kernel
theorem dX11_meets_53 : decode cX11_meets 53 = .ok (.aload_n 0, 1) := by decide +kernel
theorem dX11_meets_54 : decode cX11_meets 54 = .ok (.iload_n 1, 1) := by decide +kernel
theorem dX11_meets_55 : decode cX11_meets 55 = .ok (.iconst 3, 1) := by decide +kernel
theorem dX11_meets_56 : decode cX11_meets 56 = .ok (.iload 4, 2) := by decide +kernel
theorem dX11_meets_58 : decode cX11_meets 58 = .ok (.iadd, 1) := by decide +kernel
theorem dX11_meets_59 : decode cX11_meets 59 = .ok (.invokevirtual 149, 3) := by decide +kernel
theorem dX11_meets_62 : decode cX11_meets 62 = .ok (.iconst (-1), 1) := by decide +kernel
theorem dX11_meets_63 : decode cX11_meets 63 = .ok (.if_icmp .eq 28, 3) := by decide +kernel
theorem dX11_meets_66 : decode cX11_meets 66 = .ok (.aload_n 0, 1) := by decide +kernel
theorem dX11_meets_67 : decode cX11_meets 67 = .ok (.iload_n 1, 1) := by decide +kernel
theorem dX11_meets_68 : decode cX11_meets 68 = .ok (.iconst 3, 1) := by decide +kernel
theorem dX11_meets_69 : decode cX11_meets 69 = .ok (.iload 4, 2) := by decide +kernel
theorem dX11_meets_71 : decode cX11_meets 71 = .ok (.iadd, 1) := by decide +kernel
theorem dX11_meets_72 : decode cX11_meets 72 = .ok (.invokevirtual 149, 3) := by decide +kernel
theorem dX11_meets_75 : decode cX11_meets 75 = .ok (.aload_n 0, 1) := by decide +kernel
theorem dX11_meets_76 : decode cX11_meets 76 = .ok (.iload_n 2, 1) := by decide +kernel
theorem dX11_meets_77 : decode cX11_meets 77 = .ok (.iconst 3, 1) := by decide +kernel
theorem dX11_meets_78 : decode cX11_meets 78 = .ok (.iload 5, 2) := by decide +kernel
theorem dX11_meets_80 : decode cX11_meets 80 = .ok (.iadd, 1) := by decide +kernel
theorem dX11_meets_81 : decode cX11_meets 81 = .ok (.invokevirtual 149, 3) := by decide +kernel
theorem dX11_meets_84 : decode cX11_meets 84 = .ok (.if_icmp .ne 7, 3) := by decide +kernel
theorem dX11_meets_87 : decode cX11_meets 87 = .ok (.iconst 1, 1) := by decide +kernel
theorem dX11_meets_88 : decode cX11_meets 88 = .ok (.goto 4, 3) := by decide +kernel
theorem dX11_meets_91 : decode cX11_meets 91 = .ok (.iconst 0, 1) := by decide +kernel
theorem dX11_meets_92 : decode cX11_meets 92 = .ok (.istore_n 3, 1) := by decide +kernel
theorem dX11_meets_93 : decode cX11_meets 93 = .ok (.iinc 5 1, 3) := by decide +kernel
theorem dX11_meets_96 : decode cX11_meets 96 = .ok (.goto (-53), 3) := by decide +kernel
theorem dX11_meets_99 : decode cX11_meets 99 = .ok (.iinc 4 1, 3) := by decide +kernel
theorem dX11_meets_102 : decode cX11_meets 102 = .ok (.goto (-68), 3) := by decide +kernel
theorem dX11_meets_105 : decode cX11_meets 105 = .ok (.iload_n 3, 1) := by decide +kernel
theorem dX11_meets_106 : decode cX11_meets 106 = .ok (.ireturn, 1) := by decide +kernel
theorem dX11_areApart_0 : decode cX11_areApart 0 = .ok (.iconst 0, 1) := by decide +kernel
theorem dX11_areApart_1 : decode cX11_areApart 1 = .ok (.istore_n 2, 1) := by decide +kernel
theorem dX11_areApart_2 : decode cX11_areApart 2 = .ok (.iload_n 2, 1) := by decide +kernel
theorem dX11_areApart_3 : decode cX11_areApart 3 = .ok (.iload_n 1, 1) := by decide +kernel
theorem dX11_areApart_4 : decode cX11_areApart 4 = .ok (.if_icmp .ge 133, 3) := by decide +kernel
theorem dX11_areApart_7 : decode cX11_areApart 7 = .ok (.iconst 0, 1) := by decide +kernel
theorem dX11_areApart_8 : decode cX11_areApart 8 = .ok (.istore_n 3, 1) := by decide +kernel
theorem dX11_areApart_9 : decode cX11_areApart 9 = .ok (.iload_n 3, 1) := by decide +kernel
theorem dX11_areApart_10 : decode cX11_areApart 10 = .ok (.iload_n 2, 1) := by decide +kernel
theorem dX11_areApart_11 : decode cX11_areApart 11 = .ok (.if_icmp .ge 120, 3) := by decide +kernel
theorem dX11_areApart_14 : decode cX11_areApart 14 = .ok (.aload_n 0, 1) := by decide +kernel
theorem dX11_areApart_15 : decode cX11_areApart 15 = .ok (.aload_n 0, 1) := by decide +kernel
theorem dX11_areApart_16 : decode cX11_areApart 16 = .ok (.getfield 54, 3) := by decide +kernel
theorem dX11_areApart_19 : decode cX11_areApart 19 = .ok (.iload_n 2, 1) := by decide +kernel
theorem dX11_areApart_20 : decode cX11_areApart 20 = .ok (.iaload, 1) := by decide +kernel
theorem dX11_areApart_21 : decode cX11_areApart 21 = .ok (.iconst 0, 1) := by decide +kernel
theorem dX11_areApart_22 : decode cX11_areApart 22 = .ok (.invokevirtual 149, 3) := by decide +kernel
theorem dX11_areApart_25 : decode cX11_areApart 25 = .ok (.aload_n 0, 1) := by decide +kernel
theorem dX11_areApart_26 : decode cX11_areApart 26 = .ok (.getfield 57, 3) := by decide +kernel
theorem dX11_areApart_29 : decode cX11_areApart 29 = .ok (.iload_n 2, 1) := by decide +kernel
theorem dX11_areApart_30 : decode cX11_areApart 30 = .ok (.iaload, 1) := by decide +kernel
theorem dX11_areApart_31 : decode cX11_areApart 31 = .ok (.iadd, 1) := by decide +kernel
theorem dX11_areApart_32 : decode cX11_areApart 32 = .ok (.istore 4, 2) := by decide +kernel
theorem dX11_areApart_34 : decode cX11_areApart 34 = .ok (.aload_n 0, 1) := by decide +kernel
theorem dX11_areApart_35 : decode cX11_areApart 35 = .ok (.aload_n 0, 1) := by decide +kernel
theorem dX11_areApart_36 : decode cX11_areApart 36 = .ok (.getfield 54, 3) := by decide +kernel
theorem dX11_areApart_39 : decode cX11_areApart 39 = .ok (.iload_n 3, 1) := by decide +kernel
theorem dX11_areApart_40 : decode cX11_areApart 40 = .ok (.iaload, 1) := by decide +kernel
theorem dX11_areApart_41 : decode cX11_areApart 41 = .ok (.iconst 0, 1) := by decide +kernel
theorem dX11_areApart_42 : decode cX11_areApart 42 = .ok (.invokevirtual 149, 3) := by decide +kernel
theorem dX11_areApart_45 : decode cX11_areApart 45 = .ok (.aload_n 0, 1) := by decide +kernel
theorem dX11_areApart_46 : decode cX11_areApart 46 = .ok (.getfield 57, 3) := by decide +kernel
theorem dX11_areApart_49 : decode cX11_areApart 49 = .ok (.iload_n 3, 1) := by decide +kernel
theorem dX11_areApart_50 : decode cX11_areApart 50 = .ok (.iaload, 1) := by decide +kernel
theorem dX11_areApart_51 : decode cX11_areApart 51 = .ok (.iadd, 1) := by decide +kernel
theorem dX11_areApart_52 : decode cX11_areApart 52 = .ok (.istore 5, 2) := by decide +kernel
theorem dX11_areApart_54 : decode cX11_areApart 54 = .ok (.iload 4, 2) := by decide +kernel
theorem dX11_areApart_56 : decode cX11_areApart 56 = .ok (.iload 5, 2) := by decide +kernel
theorem dX11_areApart_58 : decode cX11_areApart 58 = .ok (.aload_n 0, 1) := by decide +kernel
theorem dX11_areApart_59 : decode cX11_areApart 59 = .ok (.aload_n 0, 1) := by decide +kernel
theorem dX11_areApart_60 : decode cX11_areApart 60 = .ok (.getfield 54, 3) := by decide +kernel
theorem dX11_areApart_63 : decode cX11_areApart 63 = .ok (.iload_n 3, 1) := by decide +kernel
theorem dX11_areApart_64 : decode cX11_areApart 64 = .ok (.iaload, 1) := by decide +kernel
theorem dX11_areApart_65 : decode cX11_areApart 65 = .ok (.iconst 1, 1) := by decide +kernel
theorem dX11_areApart_66 : decode cX11_areApart 66 = .ok (.invokevirtual 149, 3) := by decide +kernel
theorem dX11_areApart_69 : decode cX11_areApart 69 = .ok (.iadd, 1) := by decide +kernel
theorem dX11_areApart_70 : decode cX11_areApart 70 = .ok (.if_icmp .ge 26, 3) := by decide +kernel
theorem dX11_areApart_73 : decode cX11_areApart 73 = .ok (.iload 5, 2) := by decide +kernel
theorem dX11_areApart_75 : decode cX11_areApart 75 = .ok (.iload 4, 2) := by decide +kernel
theorem dX11_areApart_77 : decode cX11_areApart 77 = .ok (.aload_n 0, 1) := by decide +kernel
theorem dX11_areApart_78 : decode cX11_areApart 78 = .ok (.aload_n 0, 1) := by decide +kernel
theorem dX11_areApart_79 : decode cX11_areApart 79 = .ok (.getfield 54, 3) := by decide +kernel
theorem dX11_areApart_82 : decode cX11_areApart 82 = .ok (.iload_n 2, 1) := by decide +kernel
theorem dX11_areApart_83 : decode cX11_areApart 83 = .ok (.iaload, 1) := by decide +kernel
theorem dX11_areApart_84 : decode cX11_areApart 84 = .ok (.iconst 1, 1) := by decide +kernel
theorem dX11_areApart_85 : decode cX11_areApart 85 = .ok (.invokevirtual 149, 3) := by decide +kernel
theorem dX11_areApart_88 : decode cX11_areApart 88 = .ok (.iadd, 1) := by decide +kernel
theorem dX11_areApart_89 : decode cX11_areApart 89 = .ok (.if_icmp .ge 7, 3) := by decide +kernel
theorem dX11_areApart_92 : decode cX11_areApart 92 = .ok (.iconst 1, 1) := by decide +kernel
theorem dX11_areApart_93 : decode cX11_areApart 93 = .ok (.goto 4, 3) := by decide +kernel
theorem dX11_areApart_96 : decode cX11_areApart 96 = .ok (.iconst 0, 1) := by decide +kernel
theorem dX11_areApart_97 : decode cX11_areApart 97 = .ok (.istore 6, 2) := by decide +kernel
theorem dX11_areApart_99 : decode cX11_areApart 99 = .ok (.iload 6, 2) := by decide +kernel
theorem dX11_areApart_101 : decode cX11_areApart 101 = .ok (.ifCond .eq 24, 3) := by decide +kernel
theorem dX11_areApart_104 : decode cX11_areApart 104 = .ok (.aload_n 0, 1) := by decide +kernel
theorem dX11_areApart_105 : decode cX11_areApart 105 = .ok (.aload_n 0, 1) := by decide +kernel
theorem dX11_areApart_106 : decode cX11_areApart 106 = .ok (.getfield 54, 3) := by decide +kernel
theorem dX11_areApart_109 : decode cX11_areApart 109 = .ok (.iload_n 2, 1) := by decide +kernel
theorem dX11_areApart_110 : decode cX11_areApart 110 = .ok (.iaload, 1) := by decide +kernel
theorem dX11_areApart_111 : decode cX11_areApart 111 = .ok (.aload_n 0, 1) := by decide +kernel
theorem dX11_areApart_112 : decode cX11_areApart 112 = .ok (.getfield 54, 3) := by decide +kernel
theorem dX11_areApart_115 : decode cX11_areApart 115 = .ok (.iload_n 3, 1) := by decide +kernel
theorem dX11_areApart_116 : decode cX11_areApart 116 = .ok (.iaload, 1) := by decide +kernel
theorem dX11_areApart_117 : decode cX11_areApart 117 = .ok (.invokevirtual 250, 3) := by decide +kernel
theorem dX11_areApart_120 : decode cX11_areApart 120 = .ok (.ifCond .eq 5, 3) := by decide +kernel
theorem dX11_areApart_123 : decode cX11_areApart 123 = .ok (.iconst 0, 1) := by decide +kernel
theorem dX11_areApart_124 : decode cX11_areApart 124 = .ok (.ireturn, 1) := by decide +kernel
theorem dX11_areApart_125 : decode cX11_areApart 125 = .ok (.iinc 3 1, 3) := by decide +kernel
theorem dX11_areApart_128 : decode cX11_areApart 128 = .ok (.goto (-119), 3) := by decide +kernel
theorem dX11_areApart_131 : decode cX11_areApart 131 = .ok (.iinc 2 1, 3) := by decide +kernel
theorem dX11_areApart_134 : decode cX11_areApart 134 = .ok (.goto (-132), 3) := by decide +kernel
theorem dX11_areApart_137 : decode cX11_areApart 137 = .ok (.iconst 1, 1) := by decide +kernel
theorem dX11_areApart_138 : decode cX11_areApart 138 = .ok (.ireturn, 1) := by decide +kernel
theorem dX11_clash_0 : decode cX11_clash 0 = .ok (.iload_n 1, 1) := by decide +kernel
theorem dX11_clash_1 : decode cX11_clash 1 = .ok (.i2l, 1) := by decide +kernel
theorem dX11_clash_2 : decode cX11_clash 2 = .ok (.lconst 0, 1) := by decide +kernel
theorem dX11_clash_3 : decode cX11_clash 3 = .ok (.iconst 1, 1) := by decide +kernel
theorem dX11_clash_4 : decode cX11_clash 4 = .ok (.aload_n 0, 1) := by decide +kernel
theorem dX11_clash_5 : decode cX11_clash 5 = .ok (.getfield 7, 3) := by decide +kernel
theorem dX11_clash_8 : decode cX11_clash 8 = .ok (.iconst 4, 1) := by decide +kernel
theorem dX11_clash_9 : decode cX11_clash 9 = .ok (.iaload, 1) := by decide +kernel
theorem dX11_clash_10 : decode cX11_clash 10 = .ok (.ishl, 1) := by decide +kernel
theorem dX11_clash_11 : decode cX11_clash 11 = .ok (.iconst 1, 1) := by decide +kernel
theorem dX11_clash_12 : decode cX11_clash 12 = .ok (.isub, 1) := by decide +kernel
theorem dX11_clash_13 : decode cX11_clash 13 = .ok (.i2l, 1) := by decide +kernel
theorem dX11_clash_14 : decode cX11_clash 14 = .ok (.invokestatic 67, 3) := by decide +kernel
theorem dX11_clash_17 : decode cX11_clash 17 = .ok (.ifCond .eq 34, 3) := by decide +kernel
theorem dX11_clash_20 : decode cX11_clash 20 = .ok (.iload_n 1, 1) := by decide +kernel
theorem dX11_clash_21 : decode cX11_clash 21 = .ok (.invokestatic 222, 3) := by decide +kernel
theorem dX11_clash_24 : decode cX11_clash 24 = .ok (.bipush 6, 2) := by decide +kernel
theorem dX11_clash_26 : decode cX11_clash 26 = .ok (.if_icmp .gt 25, 3) := by decide +kernel
theorem dX11_clash_29 : decode cX11_clash 29 = .ok (.iload_n 2, 1) := by decide +kernel
theorem dX11_clash_30 : decode cX11_clash 30 = .ok (.iconst (-1), 1) := by decide +kernel
theorem dX11_clash_31 : decode cX11_clash 31 = .ok (.if_icmp .eq 23, 3) := by decide +kernel
theorem dX11_clash_34 : decode cX11_clash 34 = .ok (.aload_n 0, 1) := by decide +kernel
theorem dX11_clash_35 : decode cX11_clash 35 = .ok (.iconst 4, 1) := by decide +kernel
theorem dX11_clash_36 : decode cX11_clash 36 = .ok (.iload_n 2, 1) := by decide +kernel
theorem dX11_clash_37 : decode cX11_clash 37 = .ok (.invokevirtual 87, 3) := by decide +kernel
theorem dX11_clash_40 : decode cX11_clash 40 = .ok (.ifCond .eq 11, 3) := by decide +kernel
theorem dX11_clash_43 : decode cX11_clash 43 = .ok (.iload_n 1, 1) := by decide +kernel
theorem dX11_clash_44 : decode cX11_clash 44 = .ok (.iload_n 2, 1) := by decide +kernel
theorem dX11_clash_45 : decode cX11_clash 45 = .ok (.ishr, 1) := by decide +kernel
theorem dX11_clash_46 : decode cX11_clash 46 = .ok (.iconst 1, 1) := by decide +kernel
theorem dX11_clash_47 : decode cX11_clash 47 = .ok (.iand, 1) := by decide +kernel
theorem dX11_clash_48 : decode cX11_clash 48 = .ok (.ifCond .ne 6, 3) := by decide +kernel
theorem dX11_clash_51 : decode cX11_clash 51 = .ok (.bipush (-10), 2) := by decide +kernel
theorem dX11_clash_53 : decode cX11_clash 53 = .ok (.ireturn, 1) := by decide +kernel
theorem dX11_clash_54 : decode cX11_clash 54 = .ok (.iconst 0, 1) := by decide +kernel
theorem dX11_clash_55 : decode cX11_clash 55 = .ok (.istore_n 3, 1) := by decide +kernel
theorem dX11_clash_56 : decode cX11_clash 56 = .ok (.iconst 1, 1) := by decide +kernel
theorem dX11_clash_57 : decode cX11_clash 57 = .ok (.istore 4, 2) := by decide +kernel
theorem dX11_clash_59 : decode cX11_clash 59 = .ok (.iconst 0, 1) := by decide +kernel
theorem dX11_clash_60 : decode cX11_clash 60 = .ok (.istore 5, 2) := by decide +kernel
theorem dX11_clash_62 : decode cX11_clash 62 = .ok (.iload 5, 2) := by decide +kernel
theorem dX11_clash_64 : decode cX11_clash 64 = .ok (.aload_n 0, 1) := by decide +kernel
theorem dX11_clash_65 : decode cX11_clash 65 = .ok (.getfield 7, 3) := by decide +kernel
theorem dX11_clash_68 : decode cX11_clash 68 = .ok (.iconst 4, 1) := by decide +kernel
theorem dX11_clash_69 : decode cX11_clash 69 = .ok (.iaload, 1) := by decide +kernel
theorem dX11_clash_70 : decode cX11_clash 70 = .ok (.if_icmp .ge 37, 3) := by decide +kernel
theorem dX11_clash_73 : decode cX11_clash 73 = .ok (.iload_n 1, 1) := by decide +kernel
theorem dX11_clash_74 : decode cX11_clash 74 = .ok (.iload 5, 2) := by decide +kernel
theorem dX11_clash_76 : decode cX11_clash 76 = .ok (.ishr, 1) := by decide +kernel
theorem dX11_clash_77 : decode cX11_clash 77 = .ok (.iconst 1, 1) := by decide +kernel
theorem dX11_clash_78 : decode cX11_clash 78 = .ok (.iand, 1) := by decide +kernel
theorem dX11_clash_79 : decode cX11_clash 79 = .ok (.iconst 1, 1) := by decide +kernel
theorem dX11_clash_80 : decode cX11_clash 80 = .ok (.if_icmp .ne 21, 3) := by decide +kernel
theorem dX11_clash_83 : decode cX11_clash 83 = .ok (.aload_n 0, 1) := by decide +kernel
theorem dX11_clash_84 : decode cX11_clash 84 = .ok (.getfield 54, 3) := by decide +kernel
theorem dX11_clash_87 : decode cX11_clash 87 = .ok (.iload_n 3, 1) := by decide +kernel
theorem dX11_clash_88 : decode cX11_clash 88 = .ok (.iload 5, 2) := by decide +kernel
theorem dX11_clash_90 : decode cX11_clash 90 = .ok (.iastore, 1) := by decide +kernel
theorem dX11_clash_91 : decode cX11_clash 91 = .ok (.iinc 3 1, 3) := by decide +kernel
theorem dX11_clash_94 : decode cX11_clash 94 = .ok (.iload 4, 2) := by decide +kernel
theorem dX11_clash_96 : decode cX11_clash 96 = .ok (.bipush 6, 2) := by decide +kernel
theorem dX11_clash_98 : decode cX11_clash 98 = .ok (.imul, 1) := by decide +kernel
theorem dX11_clash_99 : decode cX11_clash 99 = .ok (.istore 4, 2) := by decide +kernel
theorem dX11_clash_101 : decode cX11_clash 101 = .ok (.iinc 5 1, 3) := by decide +kernel
theorem dX11_clash_104 : decode cX11_clash 104 = .ok (.goto (-42), 3) := by decide +kernel
theorem dX11_clash_107 : decode cX11_clash 107 = .ok (.iconst (-1), 1) := by decide +kernel
theorem dX11_clash_108 : decode cX11_clash 108 = .ok (.istore 5, 2) := by decide +kernel
theorem dX11_clash_110 : decode cX11_clash 110 = .ok (.iconst 0, 1) := by decide +kernel
theorem dX11_clash_111 : decode cX11_clash 111 = .ok (.istore 6, 2) := by decide +kernel
theorem dX11_clash_113 : decode cX11_clash 113 = .ok (.iload 6, 2) := by decide +kernel
theorem dX11_clash_115 : decode cX11_clash 115 = .ok (.iload 4, 2) := by decide +kernel
theorem dX11_clash_117 : decode cX11_clash 117 = .ok (.if_icmp .ge 117, 3) := by decide +kernel
theorem dX11_clash_120 : decode cX11_clash 120 = .ok (.iload 6, 2) := by decide +kernel
theorem dX11_clash_122 : decode cX11_clash 122 = .ok (.istore 7, 2) := by decide +kernel
theorem dX11_clash_124 : decode cX11_clash 124 = .ok (.iconst 0, 1) := by decide +kernel
theorem dX11_clash_125 : decode cX11_clash 125 = .ok (.istore 8, 2) := by decide +kernel
theorem dX11_clash_127 : decode cX11_clash 127 = .ok (.iload_n 3, 1) := by decide +kernel
theorem dX11_clash_128 : decode cX11_clash 128 = .ok (.iconst 1, 1) := by decide +kernel
theorem dX11_clash_129 : decode cX11_clash 129 = .ok (.isub, 1) := by decide +kernel
theorem dX11_clash_130 : decode cX11_clash 130 = .ok (.istore 9, 2) := by decide +kernel
theorem dX11_clash_132 : decode cX11_clash 132 = .ok (.iload 9, 2) := by decide +kernel
theorem dX11_clash_134 : decode cX11_clash 134 = .ok (.ifCond .lt 40, 3) := by decide +kernel
theorem dX11_clash_137 : decode cX11_clash 137 = .ok (.aload_n 0, 1) := by decide +kernel
theorem dX11_clash_138 : decode cX11_clash 138 = .ok (.getfield 57, 3) := by decide +kernel
theorem dX11_clash_141 : decode cX11_clash 141 = .ok (.iload 9, 2) := by decide +kernel
theorem dX11_clash_143 : decode cX11_clash 143 = .ok (.iload 7, 2) := by decide +kernel
theorem dX11_clash_145 : decode cX11_clash 145 = .ok (.bipush 6, 2) := by decide +kernel
theorem dX11_clash_147 : decode cX11_clash 147 = .ok (.irem, 1) := by decide +kernel
theorem dX11_clash_148 : decode cX11_clash 148 = .ok (.iastore, 1) := by decide +kernel
theorem dX11_clash_149 : decode cX11_clash 149 = .ok (.iload 7, 2) := by decide +kernel
theorem dX11_clash_151 : decode cX11_clash 151 = .ok (.bipush 6, 2) := by decide +kernel
theorem dX11_clash_153 : decode cX11_clash 153 = .ok (.idiv, 1) := by decide +kernel
theorem dX11_clash_154 : decode cX11_clash 154 = .ok (.istore 7, 2) := by decide +kernel
theorem dX11_clash_156 : decode cX11_clash 156 = .ok (.iload 8, 2) := by decide +kernel
theorem dX11_clash_158 : decode cX11_clash 158 = .ok (.aload_n 0, 1) := by decide +kernel
theorem dX11_clash_159 : decode cX11_clash 159 = .ok (.getfield 57, 3) := by decide +kernel
theorem dX11_clash_162 : decode cX11_clash 162 = .ok (.iload 9, 2) := by decide +kernel
theorem dX11_clash_164 : decode cX11_clash 164 = .ok (.iaload, 1) := by decide +kernel
theorem dX11_clash_165 : decode cX11_clash 165 = .ok (.iadd, 1) := by decide +kernel
theorem dX11_clash_166 : decode cX11_clash 166 = .ok (.istore 8, 2) := by decide +kernel
theorem dX11_clash_168 : decode cX11_clash 168 = .ok (.iinc 9 (-1), 3) := by decide +kernel
theorem dX11_clash_171 : decode cX11_clash 171 = .ok (.goto (-39), 3) := by decide +kernel
theorem dX11_clash_174 : decode cX11_clash 174 = .ok (.iload 5, 2) := by decide +kernel
theorem dX11_clash_176 : decode cX11_clash 176 = .ok (.iconst (-1), 1) := by decide +kernel
theorem dX11_clash_177 : decode cX11_clash 177 = .ok (.if_icmp .eq 10, 3) := by decide +kernel
theorem dX11_clash_180 : decode cX11_clash 180 = .ok (.iload 8, 2) := by decide +kernel
theorem dX11_clash_182 : decode cX11_clash 182 = .ok (.iload 5, 2) := by decide +kernel
theorem dX11_clash_184 : decode cX11_clash 184 = .ok (.if_icmp .ge 44, 3) := by decide +kernel
theorem dX11_clash_187 : decode cX11_clash 187 = .ok (.aload_n 0, 1) := by decide +kernel
theorem dX11_clash_188 : decode cX11_clash 188 = .ok (.iload_n 3, 1) := by decide +kernel
theorem dX11_clash_189 : decode cX11_clash 189 = .ok (.invokevirtual 253, 3) := by decide +kernel
theorem dX11_clash_192 : decode cX11_clash 192 = .ok (.ifCond .eq 36, 3) := by decide +kernel
theorem dX11_clash_195 : decode cX11_clash 195 = .ok (.iload 8, 2) := by decide +kernel
theorem dX11_clash_197 : decode cX11_clash 197 = .ok (.istore 5, 2) := by decide +kernel
theorem dX11_clash_199 : decode cX11_clash 199 = .ok (.iconst 0, 1) := by decide +kernel
theorem dX11_clash_200 : decode cX11_clash 200 = .ok (.istore 9, 2) := by decide +kernel
theorem dX11_clash_202 : decode cX11_clash 202 = .ok (.iload 9, 2) := by decide +kernel
theorem dX11_clash_204 : decode cX11_clash 204 = .ok (.iload_n 3, 1) := by decide +kernel
theorem dX11_clash_205 : decode cX11_clash 205 = .ok (.if_icmp .ge 23, 3) := by decide +kernel
theorem dX11_clash_208 : decode cX11_clash 208 = .ok (.aload_n 0, 1) := by decide +kernel
theorem dX11_clash_209 : decode cX11_clash 209 = .ok (.getfield 60, 3) := by decide +kernel
theorem dX11_clash_212 : decode cX11_clash 212 = .ok (.iload 9, 2) := by decide +kernel
theorem dX11_clash_214 : decode cX11_clash 214 = .ok (.aload_n 0, 1) := by decide +kernel
theorem dX11_clash_215 : decode cX11_clash 215 = .ok (.getfield 57, 3) := by decide +kernel
theorem dX11_clash_218 : decode cX11_clash 218 = .ok (.iload 9, 2) := by decide +kernel
theorem dX11_clash_220 : decode cX11_clash 220 = .ok (.iaload, 1) := by decide +kernel
theorem dX11_clash_221 : decode cX11_clash 221 = .ok (.iastore, 1) := by decide +kernel
theorem dX11_clash_222 : decode cX11_clash 222 = .ok (.iinc 9 1, 3) := by decide +kernel
theorem dX11_clash_225 : decode cX11_clash 225 = .ok (.goto (-23), 3) := by decide +kernel
theorem dX11_clash_228 : decode cX11_clash 228 = .ok (.iinc 6 1, 3) := by decide +kernel
theorem dX11_clash_231 : decode cX11_clash 231 = .ok (.goto (-118), 3) := by decide +kernel
theorem dX11_clash_234 : decode cX11_clash 234 = .ok (.iconst 0, 1) := by decide +kernel
theorem dX11_clash_235 : decode cX11_clash 235 = .ok (.istore 6, 2) := by decide +kernel
theorem dX11_clash_237 : decode cX11_clash 237 = .ok (.iload_n 2, 1) := by decide +kernel
theorem dX11_clash_238 : decode cX11_clash 238 = .ok (.iconst (-1), 1) := by decide +kernel
theorem dX11_clash_239 : decode cX11_clash 239 = .ok (.if_icmp .eq 20, 3) := by decide +kernel
theorem dX11_clash_242 : decode cX11_clash 242 = .ok (.aload_n 0, 1) := by decide +kernel
theorem dX11_clash_243 : decode cX11_clash 243 = .ok (.getfield 54, 3) := by decide +kernel
theorem dX11_clash_246 : decode cX11_clash 246 = .ok (.iload 6, 2) := by decide +kernel
theorem dX11_clash_248 : decode cX11_clash 248 = .ok (.iaload, 1) := by decide +kernel
theorem dX11_clash_249 : decode cX11_clash 249 = .ok (.iload_n 2, 1) := by decide +kernel
theorem dX11_clash_250 : decode cX11_clash 250 = .ok (.if_icmp .eq 9, 3) := by decide +kernel
theorem dX11_clash_253 : decode cX11_clash 253 = .ok (.iinc 6 1, 3) := by decide +kernel
theorem dX11_clash_256 : decode cX11_clash 256 = .ok (.goto (-19), 3) := by decide +kernel
theorem dX11_clash_259 : decode cX11_clash 259 = .ok (.iload 5, 2) := by decide +kernel
theorem dX11_clash_261 : decode cX11_clash 261 = .ok (.iconst (-1), 1) := by decide +kernel
theorem dX11_clash_262 : decode cX11_clash 262 = .ok (.if_icmp .ne 8, 3) := by decide +kernel
theorem dX11_clash_265 : decode cX11_clash 265 = .ok (.bipush (-5), 2) := by decide +kernel
theorem dX11_clash_267 : decode cX11_clash 267 = .ok (.goto 20, 3) := by decide +kernel
theorem dX11_clash_270 : decode cX11_clash 270 = .ok (.iload_n 2, 1) := by decide +kernel
theorem dX11_clash_271 : decode cX11_clash 271 = .ok (.iconst (-1), 1) := by decide +kernel
theorem dX11_clash_272 : decode cX11_clash 272 = .ok (.if_icmp .ne 8, 3) := by decide +kernel
theorem dX11_clash_275 : decode cX11_clash 275 = .ok (.iload 5, 2) := by decide +kernel
theorem dX11_clash_277 : decode cX11_clash 277 = .ok (.goto 10, 3) := by decide +kernel
theorem dX11_clash_280 : decode cX11_clash 280 = .ok (.aload_n 0, 1) := by decide +kernel
theorem dX11_clash_281 : decode cX11_clash 281 = .ok (.getfield 60, 3) := by decide +kernel
theorem dX11_clash_284 : decode cX11_clash 284 = .ok (.iload 6, 2) := by decide +kernel
theorem dX11_clash_286 : decode cX11_clash 286 = .ok (.iaload, 1) := by decide +kernel
theorem dX11_clash_287 : decode cX11_clash 287 = .ok (.ireturn, 1) := by decide +kernel

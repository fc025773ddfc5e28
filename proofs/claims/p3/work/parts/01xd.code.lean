set_option maxRecDepth 20000 in
theorem dg_X11_digest_2 : (((((decode cX11_digest 101 = .ok (.imul, 1)) ∧ (decode cX11_digest 102 = .ok (.iadd, 1))) ∧ ((decode cX11_digest 103 = .ok (.iconst 4, 1)) ∧ (decode cX11_digest 104 = .ok (.aload_n 0, 1)))) ∧ (((decode cX11_digest 105 = .ok (.getfield 7, 3)) ∧ (decode cX11_digest 108 = .ok (.sipush 466, 3))) ∧ ((decode cX11_digest 111 = .ok (.bipush 54, 2)) ∧ (decode cX11_digest 113 = .ok (.iload_n 3, 1))))) ∧ ((((decode cX11_digest 114 = .ok (.imul, 1)) ∧ (decode cX11_digest 115 = .ok (.iadd, 1))) ∧ ((decode cX11_digest 116 = .ok (.iconst 3, 1)) ∧ (decode cX11_digest 117 = .ok (.iadd, 1)))) ∧ (((decode cX11_digest 118 = .ok (.iaload, 1)) ∧ (decode cX11_digest 119 = .ok (.iadd, 1))) ∧ ((decode cX11_digest 120 = .ok (.invokevirtual 265, 3)) ∧ (decode cX11_digest 123 = .ok (.lstore_n 1, 1)))))) ∧ (((((decode cX11_digest 124 = .ok (.iinc 3 1, 3)) ∧ (decode cX11_digest 127 = .ok (.goto (-44), 3))) ∧ ((decode cX11_digest 130 = .ok (.iconst 0, 1)) ∧ (decode cX11_digest 131 = .ok (.istore_n 3, 1)))) ∧ (((decode cX11_digest 132 = .ok (.iload_n 3, 1)) ∧ (decode cX11_digest 133 = .ok (.aload_n 0, 1))) ∧ ((decode cX11_digest 134 = .ok (.getfield 7, 3)) ∧ (decode cX11_digest 137 = .ok (.iconst 4, 1))))) ∧ ((((decode cX11_digest 138 = .ok (.iaload, 1)) ∧ (decode cX11_digest 139 = .ok (.if_icmp .ge 69, 3))) ∧ ((decode cX11_digest 142 = .ok (.ldc2_w 261, 3)) ∧ (decode cX11_digest 145 = .ok (.ldc2_w 261, 3)))) ∧ (((decode cX11_digest 148 = .ok (.lload_n 1, 1)) ∧ (decode cX11_digest 149 = .ok (.lmul, 1))) ∧ ((decode cX11_digest 150 = .ok (.aload_n 0, 1)) ∧ (decode cX11_digest 151 = .ok (.getfield 33, 3)))))) := by decide +kernel
theorem dX11_digest_101 : decode cX11_digest 101 = .ok (.imul, 1) := dg_X11_digest_2.1.1.1.1.1
theorem dX11_digest_102 : decode cX11_digest 102 = .ok (.iadd, 1) := dg_X11_digest_2.1.1.1.1.2
theorem dX11_digest_103 : decode cX11_digest 103 = .ok (.iconst 4, 1) := dg_X11_digest_2.1.1.1.2.1
theorem dX11_digest_104 : decode cX11_digest 104 = .ok (.aload_n 0, 1) := dg_X11_digest_2.1.1.1.2.2
theorem dX11_digest_105 : decode cX11_digest 105 = .ok (.getfield 7, 3) := dg_X11_digest_2.1.1.2.1.1
theorem dX11_digest_108 : decode cX11_digest 108 = .ok (.sipush 466, 3) := dg_X11_digest_2.1.1.2.1.2
theorem dX11_digest_111 : decode cX11_digest 111 = .ok (.bipush 54, 2) := dg_X11_digest_2.1.1.2.2.1
theorem dX11_digest_113 : decode cX11_digest 113 = .ok (.iload_n 3, 1) := dg_X11_digest_2.1.1.2.2.2
theorem dX11_digest_114 : decode cX11_digest 114 = .ok (.imul, 1) := dg_X11_digest_2.1.2.1.1.1
theorem dX11_digest_115 : decode cX11_digest 115 = .ok (.iadd, 1) := dg_X11_digest_2.1.2.1.1.2
theorem dX11_digest_116 : decode cX11_digest 116 = .ok (.iconst 3, 1) := dg_X11_digest_2.1.2.1.2.1
theorem dX11_digest_117 : decode cX11_digest 117 = .ok (.iadd, 1) := dg_X11_digest_2.1.2.1.2.2
theorem dX11_digest_118 : decode cX11_digest 118 = .ok (.iaload, 1) := dg_X11_digest_2.1.2.2.1.1
theorem dX11_digest_119 : decode cX11_digest 119 = .ok (.iadd, 1) := dg_X11_digest_2.1.2.2.1.2
theorem dX11_digest_120 : decode cX11_digest 120 = .ok (.invokevirtual 265, 3) := dg_X11_digest_2.1.2.2.2.1
theorem dX11_digest_123 : decode cX11_digest 123 = .ok (.lstore_n 1, 1) := dg_X11_digest_2.1.2.2.2.2
theorem dX11_digest_124 : decode cX11_digest 124 = .ok (.iinc 3 1, 3) := dg_X11_digest_2.2.1.1.1.1
theorem dX11_digest_127 : decode cX11_digest 127 = .ok (.goto (-44), 3) := dg_X11_digest_2.2.1.1.1.2
theorem dX11_digest_130 : decode cX11_digest 130 = .ok (.iconst 0, 1) := dg_X11_digest_2.2.1.1.2.1
theorem dX11_digest_131 : decode cX11_digest 131 = .ok (.istore_n 3, 1) := dg_X11_digest_2.2.1.1.2.2
theorem dX11_digest_132 : decode cX11_digest 132 = .ok (.iload_n 3, 1) := dg_X11_digest_2.2.1.2.1.1
theorem dX11_digest_133 : decode cX11_digest 133 = .ok (.aload_n 0, 1) := dg_X11_digest_2.2.1.2.1.2
theorem dX11_digest_134 : decode cX11_digest 134 = .ok (.getfield 7, 3) := dg_X11_digest_2.2.1.2.2.1
theorem dX11_digest_137 : decode cX11_digest 137 = .ok (.iconst 4, 1) := dg_X11_digest_2.2.1.2.2.2
theorem dX11_digest_138 : decode cX11_digest 138 = .ok (.iaload, 1) := dg_X11_digest_2.2.2.1.1.1
theorem dX11_digest_139 : decode cX11_digest 139 = .ok (.if_icmp .ge 69, 3) := dg_X11_digest_2.2.2.1.1.2
theorem dX11_digest_142 : decode cX11_digest 142 = .ok (.ldc2_w 261, 3) := dg_X11_digest_2.2.2.1.2.1
theorem dX11_digest_145 : decode cX11_digest 145 = .ok (.ldc2_w 261, 3) := dg_X11_digest_2.2.2.1.2.2
theorem dX11_digest_148 : decode cX11_digest 148 = .ok (.lload_n 1, 1) := dg_X11_digest_2.2.2.2.1.1
theorem dX11_digest_149 : decode cX11_digest 149 = .ok (.lmul, 1) := dg_X11_digest_2.2.2.2.1.2
theorem dX11_digest_150 : decode cX11_digest 150 = .ok (.aload_n 0, 1) := dg_X11_digest_2.2.2.2.2.1
theorem dX11_digest_151 : decode cX11_digest 151 = .ok (.getfield 33, 3) := dg_X11_digest_2.2.2.2.2.2
set_option maxRecDepth 20000 in
theorem dg_X11_digest_3 : (((((decode cX11_digest 154 = .ok (.iload_n 3, 1)) ∧ (decode cX11_digest 155 = .ok (.iaload, 1))) ∧ ((decode cX11_digest 156 = .ok (.i2l, 1)) ∧ (decode cX11_digest 157 = .ok (.ladd, 1)))) ∧ (((decode cX11_digest 158 = .ok (.lmul, 1)) ∧ (decode cX11_digest 159 = .ok (.aload_n 0, 1))) ∧ ((decode cX11_digest 160 = .ok (.getfield 36, 3)) ∧ (decode cX11_digest 163 = .ok (.iload_n 3, 1))))) ∧ ((((decode cX11_digest 164 = .ok (.iaload, 1)) ∧ (decode cX11_digest 165 = .ok (.i2l, 1))) ∧ ((decode cX11_digest 166 = .ok (.ladd, 1)) ∧ (decode cX11_digest 167 = .ok (.lstore_n 1, 1)))) ∧ (((decode cX11_digest 168 = .ok (.iconst 0, 1)) ∧ (decode cX11_digest 169 = .ok (.istore 4, 2))) ∧ ((decode cX11_digest 171 = .ok (.iload 4, 2)) ∧ (decode cX11_digest 173 = .ok (.iconst 4, 1)))))) ∧ (((((decode cX11_digest 174 = .ok (.if_icmp .ge 28, 3)) ∧ (decode cX11_digest 177 = .ok (.ldc2_w 261, 3))) ∧ ((decode cX11_digest 180 = .ok (.lload_n 1, 1)) ∧ (decode cX11_digest 181 = .ok (.lmul, 1)))) ∧ (((decode cX11_digest 182 = .ok (.aload_n 0, 1)) ∧ (decode cX11_digest 183 = .ok (.getfield 48, 3))) ∧ ((decode cX11_digest 186 = .ok (.iconst 4, 1)) ∧ (decode cX11_digest 187 = .ok (.iload_n 3, 1))))) ∧ ((((decode cX11_digest 188 = .ok (.imul, 1)) ∧ (decode cX11_digest 189 = .ok (.iload 4, 2))) ∧ ((decode cX11_digest 191 = .ok (.iadd, 1)) ∧ (decode cX11_digest 192 = .ok (.iaload, 1)))) ∧ (((decode cX11_digest 193 = .ok (.i2l, 1)) ∧ (decode cX11_digest 194 = .ok (.ladd, 1))) ∧ ((decode cX11_digest 195 = .ok (.lstore_n 1, 1)) ∧ (decode cX11_digest 196 = .ok (.iinc 4 1, 3)))))) := by decide +kernel
theorem dX11_digest_154 : decode cX11_digest 154 = .ok (.iload_n 3, 1) := dg_X11_digest_3.1.1.1.1.1
theorem dX11_digest_155 : decode cX11_digest 155 = .ok (.iaload, 1) := dg_X11_digest_3.1.1.1.1.2
theorem dX11_digest_156 : decode cX11_digest 156 = .ok (.i2l, 1) := dg_X11_digest_3.1.1.1.2.1
theorem dX11_digest_157 : decode cX11_digest 157 = .ok (.ladd, 1) := dg_X11_digest_3.1.1.1.2.2
theorem dX11_digest_158 : decode cX11_digest 158 = .ok (.lmul, 1) := dg_X11_digest_3.1.1.2.1.1
theorem dX11_digest_159 : decode cX11_digest 159 = .ok (.aload_n 0, 1) := dg_X11_digest_3.1.1.2.1.2
theorem dX11_digest_160 : decode cX11_digest 160 = .ok (.getfield 36, 3) := dg_X11_digest_3.1.1.2.2.1
theorem dX11_digest_163 : decode cX11_digest 163 = .ok (.iload_n 3, 1) := dg_X11_digest_3.1.1.2.2.2
theorem dX11_digest_164 : decode cX11_digest 164 = .ok (.iaload, 1) := dg_X11_digest_3.1.2.1.1.1
theorem dX11_digest_165 : decode cX11_digest 165 = .ok (.i2l, 1) := dg_X11_digest_3.1.2.1.1.2
theorem dX11_digest_166 : decode cX11_digest 166 = .ok (.ladd, 1) := dg_X11_digest_3.1.2.1.2.1
theorem dX11_digest_167 : decode cX11_digest 167 = .ok (.lstore_n 1, 1) := dg_X11_digest_3.1.2.1.2.2
theorem dX11_digest_168 : decode cX11_digest 168 = .ok (.iconst 0, 1) := dg_X11_digest_3.1.2.2.1.1
theorem dX11_digest_169 : decode cX11_digest 169 = .ok (.istore 4, 2) := dg_X11_digest_3.1.2.2.1.2
theorem dX11_digest_171 : decode cX11_digest 171 = .ok (.iload 4, 2) := dg_X11_digest_3.1.2.2.2.1
theorem dX11_digest_173 : decode cX11_digest 173 = .ok (.iconst 4, 1) := dg_X11_digest_3.1.2.2.2.2
theorem dX11_digest_174 : decode cX11_digest 174 = .ok (.if_icmp .ge 28, 3) := dg_X11_digest_3.2.1.1.1.1
theorem dX11_digest_177 : decode cX11_digest 177 = .ok (.ldc2_w 261, 3) := dg_X11_digest_3.2.1.1.1.2
theorem dX11_digest_180 : decode cX11_digest 180 = .ok (.lload_n 1, 1) := dg_X11_digest_3.2.1.1.2.1
theorem dX11_digest_181 : decode cX11_digest 181 = .ok (.lmul, 1) := dg_X11_digest_3.2.1.1.2.2
theorem dX11_digest_182 : decode cX11_digest 182 = .ok (.aload_n 0, 1) := dg_X11_digest_3.2.1.2.1.1
theorem dX11_digest_183 : decode cX11_digest 183 = .ok (.getfield 48, 3) := dg_X11_digest_3.2.1.2.1.2
theorem dX11_digest_186 : decode cX11_digest 186 = .ok (.iconst 4, 1) := dg_X11_digest_3.2.1.2.2.1
theorem dX11_digest_187 : decode cX11_digest 187 = .ok (.iload_n 3, 1) := dg_X11_digest_3.2.1.2.2.2
theorem dX11_digest_188 : decode cX11_digest 188 = .ok (.imul, 1) := dg_X11_digest_3.2.2.1.1.1
theorem dX11_digest_189 : decode cX11_digest 189 = .ok (.iload 4, 2) := dg_X11_digest_3.2.2.1.1.2
theorem dX11_digest_191 : decode cX11_digest 191 = .ok (.iadd, 1) := dg_X11_digest_3.2.2.1.2.1
theorem dX11_digest_192 : decode cX11_digest 192 = .ok (.iaload, 1) := dg_X11_digest_3.2.2.1.2.2
theorem dX11_digest_193 : decode cX11_digest 193 = .ok (.i2l, 1) := dg_X11_digest_3.2.2.2.1.1
theorem dX11_digest_194 : decode cX11_digest 194 = .ok (.ladd, 1) := dg_X11_digest_3.2.2.2.1.2
theorem dX11_digest_195 : decode cX11_digest 195 = .ok (.lstore_n 1, 1) := dg_X11_digest_3.2.2.2.2.1
theorem dX11_digest_196 : decode cX11_digest 196 = .ok (.iinc 4 1, 3) := dg_X11_digest_3.2.2.2.2.2
set_option maxRecDepth 20000 in
theorem dg_X11_digest_4 : (((((decode cX11_digest 199 = .ok (.goto (-28), 3)) ∧ (decode cX11_digest 202 = .ok (.iinc 3 1, 3))) ∧ ((decode cX11_digest 205 = .ok (.goto (-73), 3)) ∧ (decode cX11_digest 208 = .ok (.iconst 0, 1)))) ∧ (((decode cX11_digest 209 = .ok (.istore_n 3, 1)) ∧ (decode cX11_digest 210 = .ok (.iload_n 3, 1))) ∧ ((decode cX11_digest 211 = .ok (.iconst 4, 1)) ∧ (decode cX11_digest 212 = .ok (.if_icmp .ge 38, 3))))) ∧ ((((decode cX11_digest 215 = .ok (.aload_n 0, 1)) ∧ (decode cX11_digest 216 = .ok (.lload_n 1, 1))) ∧ ((decode cX11_digest 217 = .ok (.sipush 262, 3)) ∧ (decode cX11_digest 220 = .ok (.bipush 51, 2)))) ∧ (((decode cX11_digest 222 = .ok (.iload_n 3, 1)) ∧ (decode cX11_digest 223 = .ok (.imul, 1))) ∧ ((decode cX11_digest 224 = .ok (.iadd, 1)) ∧ (decode cX11_digest 225 = .ok (.iconst 1, 1)))))) ∧ (((((decode cX11_digest 226 = .ok (.aload_n 0, 1)) ∧ (decode cX11_digest 227 = .ok (.getfield 7, 3))) ∧ ((decode cX11_digest 230 = .ok (.sipush 262, 3)) ∧ (decode cX11_digest 233 = .ok (.bipush 51, 2)))) ∧ (((decode cX11_digest 235 = .ok (.iload_n 3, 1)) ∧ (decode cX11_digest 236 = .ok (.imul, 1))) ∧ ((decode cX11_digest 237 = .ok (.iadd, 1)) ∧ (decode cX11_digest 238 = .ok (.iaload, 1))))) ∧ ((((decode cX11_digest 239 = .ok (.iadd, 1)) ∧ (decode cX11_digest 240 = .ok (.invokevirtual 265, 3))) ∧ ((decode cX11_digest 243 = .ok (.lstore_n 1, 1)) ∧ (decode cX11_digest 244 = .ok (.iinc 3 1, 3)))) ∧ (((decode cX11_digest 247 = .ok (.goto (-37), 3)) ∧ (decode cX11_digest 250 = .ok (.aload_n 0, 1))) ∧ ((decode cX11_digest 251 = .ok (.lload_n 1, 1)) ∧ (decode cX11_digest 252 = .ok (.iconst 5, 1)))))) := by decide +kernel
theorem dX11_digest_199 : decode cX11_digest 199 = .ok (.goto (-28), 3) := dg_X11_digest_4.1.1.1.1.1
theorem dX11_digest_202 : decode cX11_digest 202 = .ok (.iinc 3 1, 3) := dg_X11_digest_4.1.1.1.1.2
theorem dX11_digest_205 : decode cX11_digest 205 = .ok (.goto (-73), 3) := dg_X11_digest_4.1.1.1.2.1
theorem dX11_digest_208 : decode cX11_digest 208 = .ok (.iconst 0, 1) := dg_X11_digest_4.1.1.1.2.2
theorem dX11_digest_209 : decode cX11_digest 209 = .ok (.istore_n 3, 1) := dg_X11_digest_4.1.1.2.1.1
theorem dX11_digest_210 : decode cX11_digest 210 = .ok (.iload_n 3, 1) := dg_X11_digest_4.1.1.2.1.2
theorem dX11_digest_211 : decode cX11_digest 211 = .ok (.iconst 4, 1) := dg_X11_digest_4.1.1.2.2.1
theorem dX11_digest_212 : decode cX11_digest 212 = .ok (.if_icmp .ge 38, 3) := dg_X11_digest_4.1.1.2.2.2
theorem dX11_digest_215 : decode cX11_digest 215 = .ok (.aload_n 0, 1) := dg_X11_digest_4.1.2.1.1.1
theorem dX11_digest_216 : decode cX11_digest 216 = .ok (.lload_n 1, 1) := dg_X11_digest_4.1.2.1.1.2
theorem dX11_digest_217 : decode cX11_digest 217 = .ok (.sipush 262, 3) := dg_X11_digest_4.1.2.1.2.1
theorem dX11_digest_220 : decode cX11_digest 220 = .ok (.bipush 51, 2) := dg_X11_digest_4.1.2.1.2.2
theorem dX11_digest_222 : decode cX11_digest 222 = .ok (.iload_n 3, 1) := dg_X11_digest_4.1.2.2.1.1
theorem dX11_digest_223 : decode cX11_digest 223 = .ok (.imul, 1) := dg_X11_digest_4.1.2.2.1.2
theorem dX11_digest_224 : decode cX11_digest 224 = .ok (.iadd, 1) := dg_X11_digest_4.1.2.2.2.1
theorem dX11_digest_225 : decode cX11_digest 225 = .ok (.iconst 1, 1) := dg_X11_digest_4.1.2.2.2.2
theorem dX11_digest_226 : decode cX11_digest 226 = .ok (.aload_n 0, 1) := dg_X11_digest_4.2.1.1.1.1
theorem dX11_digest_227 : decode cX11_digest 227 = .ok (.getfield 7, 3) := dg_X11_digest_4.2.1.1.1.2
theorem dX11_digest_230 : decode cX11_digest 230 = .ok (.sipush 262, 3) := dg_X11_digest_4.2.1.1.2.1
theorem dX11_digest_233 : decode cX11_digest 233 = .ok (.bipush 51, 2) := dg_X11_digest_4.2.1.1.2.2
theorem dX11_digest_235 : decode cX11_digest 235 = .ok (.iload_n 3, 1) := dg_X11_digest_4.2.1.2.1.1
theorem dX11_digest_236 : decode cX11_digest 236 = .ok (.imul, 1) := dg_X11_digest_4.2.1.2.1.2
theorem dX11_digest_237 : decode cX11_digest 237 = .ok (.iadd, 1) := dg_X11_digest_4.2.1.2.2.1
theorem dX11_digest_238 : decode cX11_digest 238 = .ok (.iaload, 1) := dg_X11_digest_4.2.1.2.2.2
theorem dX11_digest_239 : decode cX11_digest 239 = .ok (.iadd, 1) := dg_X11_digest_4.2.2.1.1.1
theorem dX11_digest_240 : decode cX11_digest 240 = .ok (.invokevirtual 265, 3) := dg_X11_digest_4.2.2.1.1.2
theorem dX11_digest_243 : decode cX11_digest 243 = .ok (.lstore_n 1, 1) := dg_X11_digest_4.2.2.1.2.1
theorem dX11_digest_244 : decode cX11_digest 244 = .ok (.iinc 3 1, 3) := dg_X11_digest_4.2.2.1.2.2
theorem dX11_digest_247 : decode cX11_digest 247 = .ok (.goto (-37), 3) := dg_X11_digest_4.2.2.2.1.1
theorem dX11_digest_250 : decode cX11_digest 250 = .ok (.aload_n 0, 1) := dg_X11_digest_4.2.2.2.1.2
theorem dX11_digest_251 : decode cX11_digest 251 = .ok (.lload_n 1, 1) := dg_X11_digest_4.2.2.2.2.1
theorem dX11_digest_252 : decode cX11_digest 252 = .ok (.iconst 5, 1) := dg_X11_digest_4.2.2.2.2.2
set_option maxRecDepth 20000 in
theorem dg_X11_digest_5 : ((((decode cX11_digest 253 = .ok (.iconst 2, 1)) ∧ (decode cX11_digest 254 = .ok (.invokevirtual 265, 3))) ∧ ((decode cX11_digest 257 = .ok (.lstore_n 1, 1)) ∧ (decode cX11_digest 258 = .ok (.ldc2_w 261, 3)))) ∧ (((decode cX11_digest 261 = .ok (.ldc2_w 261, 3)) ∧ (decode cX11_digest 264 = .ok (.lload_n 1, 1))) ∧ ((decode cX11_digest 265 = .ok (.lmul, 1)) ∧ (decode cX11_digest 266 = .ok (.aload_n 0, 1))))) ∧ ((((decode cX11_digest 267 = .ok (.getfield 238, 3)) ∧ (decode cX11_digest 270 = .ok (.ladd, 1))) ∧ ((decode cX11_digest 271 = .ok (.lmul, 1)) ∧ (decode cX11_digest 272 = .ok (.aload_n 0, 1)))) ∧ (((decode cX11_digest 273 = .ok (.getfield 63, 3)) ∧ (decode cX11_digest 276 = .ok (.ladd, 1))) ∧ (decode cX11_digest 277 = .ok (.lreturn, 1)))) := by decide +kernel
theorem dX11_digest_253 : decode cX11_digest 253 = .ok (.iconst 2, 1) := dg_X11_digest_5.1.1.1.1
theorem dX11_digest_254 : decode cX11_digest 254 = .ok (.invokevirtual 265, 3) := dg_X11_digest_5.1.1.1.2
theorem dX11_digest_257 : decode cX11_digest 257 = .ok (.lstore_n 1, 1) := dg_X11_digest_5.1.1.2.1
theorem dX11_digest_258 : decode cX11_digest 258 = .ok (.ldc2_w 261, 3) := dg_X11_digest_5.1.1.2.2
theorem dX11_digest_261 : decode cX11_digest 261 = .ok (.ldc2_w 261, 3) := dg_X11_digest_5.1.2.1.1
theorem dX11_digest_264 : decode cX11_digest 264 = .ok (.lload_n 1, 1) := dg_X11_digest_5.1.2.1.2
theorem dX11_digest_265 : decode cX11_digest 265 = .ok (.lmul, 1) := dg_X11_digest_5.1.2.2.1
theorem dX11_digest_266 : decode cX11_digest 266 = .ok (.aload_n 0, 1) := dg_X11_digest_5.1.2.2.2
theorem dX11_digest_267 : decode cX11_digest 267 = .ok (.getfield 238, 3) := dg_X11_digest_5.2.1.1.1
theorem dX11_digest_270 : decode cX11_digest 270 = .ok (.ladd, 1) := dg_X11_digest_5.2.1.1.2
theorem dX11_digest_271 : decode cX11_digest 271 = .ok (.lmul, 1) := dg_X11_digest_5.2.1.2.1
theorem dX11_digest_272 : decode cX11_digest 272 = .ok (.aload_n 0, 1) := dg_X11_digest_5.2.1.2.2
theorem dX11_digest_273 : decode cX11_digest 273 = .ok (.getfield 63, 3) := dg_X11_digest_5.2.2.1.1
theorem dX11_digest_276 : decode cX11_digest 276 = .ok (.ladd, 1) := dg_X11_digest_5.2.2.1.2
theorem dX11_digest_277 : decode cX11_digest 277 = .ok (.lreturn, 1) := dg_X11_digest_5.2.2.2
set_option maxRecDepth 20000 in
theorem dg_J6_compare_7cf53_0 : ((((decode cJ6_compare_7cf53 0 = .ok (.iload_n 0, 1)) ∧ (decode cJ6_compare_7cf53 1 = .ok (.iload_n 1, 1))) ∧ (decode cJ6_compare_7cf53 2 = .ok (.if_icmp .ge 7, 3))) ∧ (((decode cJ6_compare_7cf53 5 = .ok (.iconst (-1), 1)) ∧ (decode cJ6_compare_7cf53 6 = .ok (.goto 13, 3))) ∧ (decode cJ6_compare_7cf53 9 = .ok (.iload_n 0, 1)))) ∧ ((((decode cJ6_compare_7cf53 10 = .ok (.iload_n 1, 1)) ∧ (decode cJ6_compare_7cf53 11 = .ok (.if_icmp .ne 7, 3))) ∧ (decode cJ6_compare_7cf53 14 = .ok (.iconst 0, 1))) ∧ (((decode cJ6_compare_7cf53 15 = .ok (.goto 4, 3)) ∧ (decode cJ6_compare_7cf53 18 = .ok (.iconst 1, 1))) ∧ (decode cJ6_compare_7cf53 19 = .ok (.ireturn, 1)))) := by decide +kernel
theorem dJ6_compare_7cf53_0 : decode cJ6_compare_7cf53 0 = .ok (.iload_n 0, 1) := dg_J6_compare_7cf53_0.1.1.1.1
theorem dJ6_compare_7cf53_1 : decode cJ6_compare_7cf53 1 = .ok (.iload_n 1, 1) := dg_J6_compare_7cf53_0.1.1.1.2
theorem dJ6_compare_7cf53_2 : decode cJ6_compare_7cf53 2 = .ok (.if_icmp .ge 7, 3) := dg_J6_compare_7cf53_0.1.1.2
theorem dJ6_compare_7cf53_5 : decode cJ6_compare_7cf53 5 = .ok (.iconst (-1), 1) := dg_J6_compare_7cf53_0.1.2.1.1
theorem dJ6_compare_7cf53_6 : decode cJ6_compare_7cf53 6 = .ok (.goto 13, 3) := dg_J6_compare_7cf53_0.1.2.1.2
theorem dJ6_compare_7cf53_9 : decode cJ6_compare_7cf53 9 = .ok (.iload_n 0, 1) := dg_J6_compare_7cf53_0.1.2.2
theorem dJ6_compare_7cf53_10 : decode cJ6_compare_7cf53 10 = .ok (.iload_n 1, 1) := dg_J6_compare_7cf53_0.2.1.1.1
theorem dJ6_compare_7cf53_11 : decode cJ6_compare_7cf53 11 = .ok (.if_icmp .ne 7, 3) := dg_J6_compare_7cf53_0.2.1.1.2
theorem dJ6_compare_7cf53_14 : decode cJ6_compare_7cf53 14 = .ok (.iconst 0, 1) := dg_J6_compare_7cf53_0.2.1.2
theorem dJ6_compare_7cf53_15 : decode cJ6_compare_7cf53 15 = .ok (.goto 4, 3) := dg_J6_compare_7cf53_0.2.2.1.1
theorem dJ6_compare_7cf53_18 : decode cJ6_compare_7cf53 18 = .ok (.iconst 1, 1) := dg_J6_compare_7cf53_0.2.2.1.2
theorem dJ6_compare_7cf53_19 : decode cJ6_compare_7cf53 19 = .ok (.ireturn, 1) := dg_J6_compare_7cf53_0.2.2.2
set_option maxRecDepth 20000 in
theorem dg_J6_bitCount_0f7a4_0 : (((((decode cJ6_bitCount_0f7a4 0 = .ok (.iload_n 0, 1)) ∧ (decode cJ6_bitCount_0f7a4 1 = .ok (.iload_n 0, 1))) ∧ ((decode cJ6_bitCount_0f7a4 2 = .ok (.iconst 1, 1)) ∧ (decode cJ6_bitCount_0f7a4 3 = .ok (.iushr, 1)))) ∧ (((decode cJ6_bitCount_0f7a4 4 = .ok (.ldc_w 265, 3)) ∧ (decode cJ6_bitCount_0f7a4 7 = .ok (.iand, 1))) ∧ ((decode cJ6_bitCount_0f7a4 8 = .ok (.isub, 1)) ∧ (decode cJ6_bitCount_0f7a4 9 = .ok (.istore_n 0, 1))))) ∧ ((((decode cJ6_bitCount_0f7a4 10 = .ok (.iload_n 0, 1)) ∧ (decode cJ6_bitCount_0f7a4 11 = .ok (.ldc_w 266, 3))) ∧ ((decode cJ6_bitCount_0f7a4 14 = .ok (.iand, 1)) ∧ (decode cJ6_bitCount_0f7a4 15 = .ok (.iload_n 0, 1)))) ∧ (((decode cJ6_bitCount_0f7a4 16 = .ok (.iconst 2, 1)) ∧ (decode cJ6_bitCount_0f7a4 17 = .ok (.iushr, 1))) ∧ ((decode cJ6_bitCount_0f7a4 18 = .ok (.ldc_w 266, 3)) ∧ (decode cJ6_bitCount_0f7a4 21 = .ok (.iand, 1)))))) ∧ (((((decode cJ6_bitCount_0f7a4 22 = .ok (.iadd, 1)) ∧ (decode cJ6_bitCount_0f7a4 23 = .ok (.istore_n 0, 1))) ∧ ((decode cJ6_bitCount_0f7a4 24 = .ok (.iload_n 0, 1)) ∧ (decode cJ6_bitCount_0f7a4 25 = .ok (.iload_n 0, 1)))) ∧ (((decode cJ6_bitCount_0f7a4 26 = .ok (.iconst 4, 1)) ∧ (decode cJ6_bitCount_0f7a4 27 = .ok (.iushr, 1))) ∧ ((decode cJ6_bitCount_0f7a4 28 = .ok (.iadd, 1)) ∧ (decode cJ6_bitCount_0f7a4 29 = .ok (.ldc_w 267, 3))))) ∧ ((((decode cJ6_bitCount_0f7a4 32 = .ok (.iand, 1)) ∧ (decode cJ6_bitCount_0f7a4 33 = .ok (.istore_n 0, 1))) ∧ ((decode cJ6_bitCount_0f7a4 34 = .ok (.iload_n 0, 1)) ∧ (decode cJ6_bitCount_0f7a4 35 = .ok (.iload_n 0, 1)))) ∧ (((decode cJ6_bitCount_0f7a4 36 = .ok (.bipush 8, 2)) ∧ (decode cJ6_bitCount_0f7a4 38 = .ok (.iushr, 1))) ∧ ((decode cJ6_bitCount_0f7a4 39 = .ok (.iadd, 1)) ∧ (decode cJ6_bitCount_0f7a4 40 = .ok (.istore_n 0, 1)))))) := by decide +kernel
theorem dJ6_bitCount_0f7a4_0 : decode cJ6_bitCount_0f7a4 0 = .ok (.iload_n 0, 1) := dg_J6_bitCount_0f7a4_0.1.1.1.1.1
theorem dJ6_bitCount_0f7a4_1 : decode cJ6_bitCount_0f7a4 1 = .ok (.iload_n 0, 1) := dg_J6_bitCount_0f7a4_0.1.1.1.1.2
theorem dJ6_bitCount_0f7a4_2 : decode cJ6_bitCount_0f7a4 2 = .ok (.iconst 1, 1) := dg_J6_bitCount_0f7a4_0.1.1.1.2.1
theorem dJ6_bitCount_0f7a4_3 : decode cJ6_bitCount_0f7a4 3 = .ok (.iushr, 1) := dg_J6_bitCount_0f7a4_0.1.1.1.2.2
theorem dJ6_bitCount_0f7a4_4 : decode cJ6_bitCount_0f7a4 4 = .ok (.ldc_w 265, 3) := dg_J6_bitCount_0f7a4_0.1.1.2.1.1
theorem dJ6_bitCount_0f7a4_7 : decode cJ6_bitCount_0f7a4 7 = .ok (.iand, 1) := dg_J6_bitCount_0f7a4_0.1.1.2.1.2
theorem dJ6_bitCount_0f7a4_8 : decode cJ6_bitCount_0f7a4 8 = .ok (.isub, 1) := dg_J6_bitCount_0f7a4_0.1.1.2.2.1
theorem dJ6_bitCount_0f7a4_9 : decode cJ6_bitCount_0f7a4 9 = .ok (.istore_n 0, 1) := dg_J6_bitCount_0f7a4_0.1.1.2.2.2
theorem dJ6_bitCount_0f7a4_10 : decode cJ6_bitCount_0f7a4 10 = .ok (.iload_n 0, 1) := dg_J6_bitCount_0f7a4_0.1.2.1.1.1
theorem dJ6_bitCount_0f7a4_11 : decode cJ6_bitCount_0f7a4 11 = .ok (.ldc_w 266, 3) := dg_J6_bitCount_0f7a4_0.1.2.1.1.2
theorem dJ6_bitCount_0f7a4_14 : decode cJ6_bitCount_0f7a4 14 = .ok (.iand, 1) := dg_J6_bitCount_0f7a4_0.1.2.1.2.1
theorem dJ6_bitCount_0f7a4_15 : decode cJ6_bitCount_0f7a4 15 = .ok (.iload_n 0, 1) := dg_J6_bitCount_0f7a4_0.1.2.1.2.2
theorem dJ6_bitCount_0f7a4_16 : decode cJ6_bitCount_0f7a4 16 = .ok (.iconst 2, 1) := dg_J6_bitCount_0f7a4_0.1.2.2.1.1
theorem dJ6_bitCount_0f7a4_17 : decode cJ6_bitCount_0f7a4 17 = .ok (.iushr, 1) := dg_J6_bitCount_0f7a4_0.1.2.2.1.2
theorem dJ6_bitCount_0f7a4_18 : decode cJ6_bitCount_0f7a4 18 = .ok (.ldc_w 266, 3) := dg_J6_bitCount_0f7a4_0.1.2.2.2.1
theorem dJ6_bitCount_0f7a4_21 : decode cJ6_bitCount_0f7a4 21 = .ok (.iand, 1) := dg_J6_bitCount_0f7a4_0.1.2.2.2.2
theorem dJ6_bitCount_0f7a4_22 : decode cJ6_bitCount_0f7a4 22 = .ok (.iadd, 1) := dg_J6_bitCount_0f7a4_0.2.1.1.1.1
theorem dJ6_bitCount_0f7a4_23 : decode cJ6_bitCount_0f7a4 23 = .ok (.istore_n 0, 1) := dg_J6_bitCount_0f7a4_0.2.1.1.1.2
theorem dJ6_bitCount_0f7a4_24 : decode cJ6_bitCount_0f7a4 24 = .ok (.iload_n 0, 1) := dg_J6_bitCount_0f7a4_0.2.1.1.2.1
theorem dJ6_bitCount_0f7a4_25 : decode cJ6_bitCount_0f7a4 25 = .ok (.iload_n 0, 1) := dg_J6_bitCount_0f7a4_0.2.1.1.2.2
theorem dJ6_bitCount_0f7a4_26 : decode cJ6_bitCount_0f7a4 26 = .ok (.iconst 4, 1) := dg_J6_bitCount_0f7a4_0.2.1.2.1.1
theorem dJ6_bitCount_0f7a4_27 : decode cJ6_bitCount_0f7a4 27 = .ok (.iushr, 1) := dg_J6_bitCount_0f7a4_0.2.1.2.1.2
theorem dJ6_bitCount_0f7a4_28 : decode cJ6_bitCount_0f7a4 28 = .ok (.iadd, 1) := dg_J6_bitCount_0f7a4_0.2.1.2.2.1
theorem dJ6_bitCount_0f7a4_29 : decode cJ6_bitCount_0f7a4 29 = .ok (.ldc_w 267, 3) := dg_J6_bitCount_0f7a4_0.2.1.2.2.2
theorem dJ6_bitCount_0f7a4_32 : decode cJ6_bitCount_0f7a4 32 = .ok (.iand, 1) := dg_J6_bitCount_0f7a4_0.2.2.1.1.1
theorem dJ6_bitCount_0f7a4_33 : decode cJ6_bitCount_0f7a4 33 = .ok (.istore_n 0, 1) := dg_J6_bitCount_0f7a4_0.2.2.1.1.2
theorem dJ6_bitCount_0f7a4_34 : decode cJ6_bitCount_0f7a4 34 = .ok (.iload_n 0, 1) := dg_J6_bitCount_0f7a4_0.2.2.1.2.1
theorem dJ6_bitCount_0f7a4_35 : decode cJ6_bitCount_0f7a4 35 = .ok (.iload_n 0, 1) := dg_J6_bitCount_0f7a4_0.2.2.1.2.2
theorem dJ6_bitCount_0f7a4_36 : decode cJ6_bitCount_0f7a4 36 = .ok (.bipush 8, 2) := dg_J6_bitCount_0f7a4_0.2.2.2.1.1
theorem dJ6_bitCount_0f7a4_38 : decode cJ6_bitCount_0f7a4 38 = .ok (.iushr, 1) := dg_J6_bitCount_0f7a4_0.2.2.2.1.2
theorem dJ6_bitCount_0f7a4_39 : decode cJ6_bitCount_0f7a4 39 = .ok (.iadd, 1) := dg_J6_bitCount_0f7a4_0.2.2.2.2.1
theorem dJ6_bitCount_0f7a4_40 : decode cJ6_bitCount_0f7a4 40 = .ok (.istore_n 0, 1) := dg_J6_bitCount_0f7a4_0.2.2.2.2.2
set_option maxRecDepth 20000 in
theorem dg_J6_bitCount_0f7a4_1 : ((((decode cJ6_bitCount_0f7a4 41 = .ok (.iload_n 0, 1)) ∧ (decode cJ6_bitCount_0f7a4 42 = .ok (.iload_n 0, 1))) ∧ (decode cJ6_bitCount_0f7a4 43 = .ok (.bipush 16, 2))) ∧ ((decode cJ6_bitCount_0f7a4 45 = .ok (.iushr, 1)) ∧ (decode cJ6_bitCount_0f7a4 46 = .ok (.iadd, 1)))) ∧ ((((decode cJ6_bitCount_0f7a4 47 = .ok (.istore_n 0, 1)) ∧ (decode cJ6_bitCount_0f7a4 48 = .ok (.iload_n 0, 1))) ∧ (decode cJ6_bitCount_0f7a4 49 = .ok (.bipush 63, 2))) ∧ ((decode cJ6_bitCount_0f7a4 51 = .ok (.iand, 1)) ∧ (decode cJ6_bitCount_0f7a4 52 = .ok (.ireturn, 1)))) := by decide +kernel
theorem dJ6_bitCount_0f7a4_41 : decode cJ6_bitCount_0f7a4 41 = .ok (.iload_n 0, 1) := dg_J6_bitCount_0f7a4_1.1.1.1.1
theorem dJ6_bitCount_0f7a4_42 : decode cJ6_bitCount_0f7a4 42 = .ok (.iload_n 0, 1) := dg_J6_bitCount_0f7a4_1.1.1.1.2
theorem dJ6_bitCount_0f7a4_43 : decode cJ6_bitCount_0f7a4 43 = .ok (.bipush 16, 2) := dg_J6_bitCount_0f7a4_1.1.1.2
theorem dJ6_bitCount_0f7a4_45 : decode cJ6_bitCount_0f7a4 45 = .ok (.iushr, 1) := dg_J6_bitCount_0f7a4_1.1.2.1
theorem dJ6_bitCount_0f7a4_46 : decode cJ6_bitCount_0f7a4 46 = .ok (.iadd, 1) := dg_J6_bitCount_0f7a4_1.1.2.2
theorem dJ6_bitCount_0f7a4_47 : decode cJ6_bitCount_0f7a4 47 = .ok (.istore_n 0, 1) := dg_J6_bitCount_0f7a4_1.2.1.1.1
theorem dJ6_bitCount_0f7a4_48 : decode cJ6_bitCount_0f7a4 48 = .ok (.iload_n 0, 1) := dg_J6_bitCount_0f7a4_1.2.1.1.2
theorem dJ6_bitCount_0f7a4_49 : decode cJ6_bitCount_0f7a4 49 = .ok (.bipush 63, 2) := dg_J6_bitCount_0f7a4_1.2.1.2
theorem dJ6_bitCount_0f7a4_51 : decode cJ6_bitCount_0f7a4 51 = .ok (.iand, 1) := dg_J6_bitCount_0f7a4_1.2.2.1
theorem dJ6_bitCount_0f7a4_52 : decode cJ6_bitCount_0f7a4 52 = .ok (.ireturn, 1) := dg_J6_bitCount_0f7a4_1.2.2.2
set_option maxRecDepth 20000 in
theorem dg_J9_max_7cf53_0 : (((decode cJ9_max_7cf53 0 = .ok (.iload_n 0, 1)) ∧ (decode cJ9_max_7cf53 1 = .ok (.iload_n 1, 1))) ∧ ((decode cJ9_max_7cf53 2 = .ok (.if_icmp .lt 7, 3)) ∧ (decode cJ9_max_7cf53 5 = .ok (.iload_n 0, 1)))) ∧ (((decode cJ9_max_7cf53 6 = .ok (.goto 4, 3)) ∧ (decode cJ9_max_7cf53 9 = .ok (.iload_n 1, 1))) ∧ (decode cJ9_max_7cf53 10 = .ok (.ireturn, 1))) := by decide +kernel
theorem dJ9_max_7cf53_0 : decode cJ9_max_7cf53 0 = .ok (.iload_n 0, 1) := dg_J9_max_7cf53_0.1.1.1
theorem dJ9_max_7cf53_1 : decode cJ9_max_7cf53 1 = .ok (.iload_n 1, 1) := dg_J9_max_7cf53_0.1.1.2
theorem dJ9_max_7cf53_2 : decode cJ9_max_7cf53 2 = .ok (.if_icmp .lt 7, 3) := dg_J9_max_7cf53_0.1.2.1
theorem dJ9_max_7cf53_5 : decode cJ9_max_7cf53 5 = .ok (.iload_n 0, 1) := dg_J9_max_7cf53_0.1.2.2
theorem dJ9_max_7cf53_6 : decode cJ9_max_7cf53 6 = .ok (.goto 4, 3) := dg_J9_max_7cf53_0.2.1.1
theorem dJ9_max_7cf53_9 : decode cJ9_max_7cf53 9 = .ok (.iload_n 1, 1) := dg_J9_max_7cf53_0.2.1.2
theorem dJ9_max_7cf53_10 : decode cJ9_max_7cf53 10 = .ok (.ireturn, 1) := dg_J9_max_7cf53_0.2.2
set_option maxRecDepth 20000 in
theorem dg_J9_min_7cf53_0 : (((decode cJ9_min_7cf53 0 = .ok (.iload_n 0, 1)) ∧ (decode cJ9_min_7cf53 1 = .ok (.iload_n 1, 1))) ∧ ((decode cJ9_min_7cf53 2 = .ok (.if_icmp .gt 7, 3)) ∧ (decode cJ9_min_7cf53 5 = .ok (.iload_n 0, 1)))) ∧ (((decode cJ9_min_7cf53 6 = .ok (.goto 4, 3)) ∧ (decode cJ9_min_7cf53 9 = .ok (.iload_n 1, 1))) ∧ (decode cJ9_min_7cf53 10 = .ok (.ireturn, 1))) := by decide +kernel
theorem dJ9_min_7cf53_0 : decode cJ9_min_7cf53 0 = .ok (.iload_n 0, 1) := dg_J9_min_7cf53_0.1.1.1
theorem dJ9_min_7cf53_1 : decode cJ9_min_7cf53 1 = .ok (.iload_n 1, 1) := dg_J9_min_7cf53_0.1.1.2
theorem dJ9_min_7cf53_2 : decode cJ9_min_7cf53 2 = .ok (.if_icmp .gt 7, 3) := dg_J9_min_7cf53_0.1.2.1
theorem dJ9_min_7cf53_5 : decode cJ9_min_7cf53 5 = .ok (.iload_n 0, 1) := dg_J9_min_7cf53_0.1.2.2
theorem dJ9_min_7cf53_6 : decode cJ9_min_7cf53 6 = .ok (.goto 4, 3) := dg_J9_min_7cf53_0.2.1.1
theorem dJ9_min_7cf53_9 : decode cJ9_min_7cf53 9 = .ok (.iload_n 1, 1) := dg_J9_min_7cf53_0.2.1.2
theorem dJ9_min_7cf53_10 : decode cJ9_min_7cf53 10 = .ok (.ireturn, 1) := dg_J9_min_7cf53_0.2.2
set_option maxRecDepth 20000 in
theorem dg_L_law_0 : (((((decode cL_law 0 = .ok (.new 7, 3)) ∧ (decode cL_law 3 = .ok (.dup, 1))) ∧ ((decode cL_law 4 = .ok (.invokespecial 9, 3)) ∧ (decode cL_law 7 = .ok (.astore_n 1, 1)))) ∧ (((decode cL_law 8 = .ok (.new 10, 3)) ∧ (decode cL_law 11 = .ok (.dup, 1))) ∧ ((decode cL_law 12 = .ok (.invokespecial 12, 3)) ∧ (decode cL_law 15 = .ok (.astore_n 2, 1))))) ∧ ((((decode cL_law 16 = .ok (.iconst 0, 1)) ∧ (decode cL_law 17 = .ok (.istore_n 3, 1))) ∧ ((decode cL_law 18 = .ok (.iload_n 3, 1)) ∧ (decode cL_law 19 = .ok (.aload_n 0, 1)))) ∧ (((decode cL_law 20 = .ok (.arraylength, 1)) ∧ (decode cL_law 21 = .ok (.bipush 10, 2))) ∧ ((decode cL_law 23 = .ok (.isub, 1)) ∧ (decode cL_law 24 = .ok (.if_icmp .gt 1355, 3)))))) ∧ (((((decode cL_law 27 = .ok (.aload_n 0, 1)) ∧ (decode cL_law 28 = .ok (.iload_n 3, 1))) ∧ ((decode cL_law 29 = .ok (.iaload, 1)) ∧ (decode cL_law 30 = .ok (.bipush 63, 2)))) ∧ (((decode cL_law 32 = .ok (.iand, 1)) ∧ (decode cL_law 33 = .ok (.tableswitch 1340 0 32 #[147, 200, 243, 286, 309, 342, 365, 388, 431, 474, 507, 540, 583, 694, 753, 806, 829, 862, 895, 918, 951, 974, 1007, 1040, 1093, 1126, 1149, 1192, 1225, 1258, 1281, 1304, 1327], 147))) ∧ ((decode cL_law 180 = .ok (.aload_n 1, 1)) ∧ (decode cL_law 181 = .ok (.aload_n 0, 1))))) ∧ ((((decode cL_law 182 = .ok (.iload_n 3, 1)) ∧ (decode cL_law 183 = .ok (.iconst 1, 1))) ∧ ((decode cL_law 184 = .ok (.iadd, 1)) ∧ (decode cL_law 185 = .ok (.iaload, 1)))) ∧ (((decode cL_law 186 = .ok (.aload_n 0, 1)) ∧ (decode cL_law 187 = .ok (.iload_n 3, 1))) ∧ ((decode cL_law 188 = .ok (.iconst 2, 1)) ∧ (decode cL_law 189 = .ok (.iadd, 1)))))) := by decide +kernel
theorem dL_law_0 : decode cL_law 0 = .ok (.new 7, 3) := dg_L_law_0.1.1.1.1.1
theorem dL_law_3 : decode cL_law 3 = .ok (.dup, 1) := dg_L_law_0.1.1.1.1.2
theorem dL_law_4 : decode cL_law 4 = .ok (.invokespecial 9, 3) := dg_L_law_0.1.1.1.2.1
theorem dL_law_7 : decode cL_law 7 = .ok (.astore_n 1, 1) := dg_L_law_0.1.1.1.2.2
theorem dL_law_8 : decode cL_law 8 = .ok (.new 10, 3) := dg_L_law_0.1.1.2.1.1
theorem dL_law_11 : decode cL_law 11 = .ok (.dup, 1) := dg_L_law_0.1.1.2.1.2
theorem dL_law_12 : decode cL_law 12 = .ok (.invokespecial 12, 3) := dg_L_law_0.1.1.2.2.1
theorem dL_law_15 : decode cL_law 15 = .ok (.astore_n 2, 1) := dg_L_law_0.1.1.2.2.2
theorem dL_law_16 : decode cL_law 16 = .ok (.iconst 0, 1) := dg_L_law_0.1.2.1.1.1
theorem dL_law_17 : decode cL_law 17 = .ok (.istore_n 3, 1) := dg_L_law_0.1.2.1.1.2
theorem dL_law_18 : decode cL_law 18 = .ok (.iload_n 3, 1) := dg_L_law_0.1.2.1.2.1
theorem dL_law_19 : decode cL_law 19 = .ok (.aload_n 0, 1) := dg_L_law_0.1.2.1.2.2
theorem dL_law_20 : decode cL_law 20 = .ok (.arraylength, 1) := dg_L_law_0.1.2.2.1.1
theorem dL_law_21 : decode cL_law 21 = .ok (.bipush 10, 2) := dg_L_law_0.1.2.2.1.2
theorem dL_law_23 : decode cL_law 23 = .ok (.isub, 1) := dg_L_law_0.1.2.2.2.1
theorem dL_law_24 : decode cL_law 24 = .ok (.if_icmp .gt 1355, 3) := dg_L_law_0.1.2.2.2.2
theorem dL_law_27 : decode cL_law 27 = .ok (.aload_n 0, 1) := dg_L_law_0.2.1.1.1.1
theorem dL_law_28 : decode cL_law 28 = .ok (.iload_n 3, 1) := dg_L_law_0.2.1.1.1.2
theorem dL_law_29 : decode cL_law 29 = .ok (.iaload, 1) := dg_L_law_0.2.1.1.2.1
theorem dL_law_30 : decode cL_law 30 = .ok (.bipush 63, 2) := dg_L_law_0.2.1.1.2.2
theorem dL_law_32 : decode cL_law 32 = .ok (.iand, 1) := dg_L_law_0.2.1.2.1.1
theorem dL_law_33 : decode cL_law 33 = .ok (.tableswitch 1340 0 32 #[147, 200, 243, 286, 309, 342, 365, 388, 431, 474, 507, 540, 583, 694, 753, 806, 829, 862, 895, 918, 951, 974, 1007, 1040, 1093, 1126, 1149, 1192, 1225, 1258, 1281, 1304, 1327], 147) := dg_L_law_0.2.1.2.1.2
theorem dL_law_180 : decode cL_law 180 = .ok (.aload_n 1, 1) := dg_L_law_0.2.1.2.2.1
theorem dL_law_181 : decode cL_law 181 = .ok (.aload_n 0, 1) := dg_L_law_0.2.1.2.2.2
theorem dL_law_182 : decode cL_law 182 = .ok (.iload_n 3, 1) := dg_L_law_0.2.2.1.1.1
theorem dL_law_183 : decode cL_law 183 = .ok (.iconst 1, 1) := dg_L_law_0.2.2.1.1.2
theorem dL_law_184 : decode cL_law 184 = .ok (.iadd, 1) := dg_L_law_0.2.2.1.2.1
theorem dL_law_185 : decode cL_law 185 = .ok (.iaload, 1) := dg_L_law_0.2.2.1.2.2
theorem dL_law_186 : decode cL_law 186 = .ok (.aload_n 0, 1) := dg_L_law_0.2.2.2.1.1
theorem dL_law_187 : decode cL_law 187 = .ok (.iload_n 3, 1) := dg_L_law_0.2.2.2.1.2
theorem dL_law_188 : decode cL_law 188 = .ok (.iconst 2, 1) := dg_L_law_0.2.2.2.2.1
theorem dL_law_189 : decode cL_law 189 = .ok (.iadd, 1) := dg_L_law_0.2.2.2.2.2
set_option maxRecDepth 20000 in
theorem dg_L_law_1 : (((((decode cL_law 190 = .ok (.iaload, 1)) ∧ (decode cL_law 191 = .ok (.aload_n 0, 1))) ∧ ((decode cL_law 192 = .ok (.iload_n 3, 1)) ∧ (decode cL_law 193 = .ok (.iconst 3, 1)))) ∧ (((decode cL_law 194 = .ok (.iadd, 1)) ∧ (decode cL_law 195 = .ok (.iaload, 1))) ∧ ((decode cL_law 196 = .ok (.aload_n 0, 1)) ∧ (decode cL_law 197 = .ok (.iload_n 3, 1))))) ∧ ((((decode cL_law 198 = .ok (.iconst 4, 1)) ∧ (decode cL_law 199 = .ok (.iadd, 1))) ∧ ((decode cL_law 200 = .ok (.iaload, 1)) ∧ (decode cL_law 201 = .ok (.invokevirtual 13, 3)))) ∧ (((decode cL_law 204 = .ok (.pop, 1)) ∧ (decode cL_law 205 = .ok (.aload_n 2, 1))) ∧ ((decode cL_law 206 = .ok (.aload_n 0, 1)) ∧ (decode cL_law 207 = .ok (.iload_n 3, 1)))))) ∧ (((((decode cL_law 208 = .ok (.iconst 1, 1)) ∧ (decode cL_law 209 = .ok (.iadd, 1))) ∧ ((decode cL_law 210 = .ok (.iaload, 1)) ∧ (decode cL_law 211 = .ok (.aload_n 0, 1)))) ∧ (((decode cL_law 212 = .ok (.iload_n 3, 1)) ∧ (decode cL_law 213 = .ok (.iconst 2, 1))) ∧ ((decode cL_law 214 = .ok (.iadd, 1)) ∧ (decode cL_law 215 = .ok (.iaload, 1))))) ∧ ((((decode cL_law 216 = .ok (.aload_n 0, 1)) ∧ (decode cL_law 217 = .ok (.iload_n 3, 1))) ∧ ((decode cL_law 218 = .ok (.iconst 3, 1)) ∧ (decode cL_law 219 = .ok (.iadd, 1)))) ∧ (((decode cL_law 220 = .ok (.iaload, 1)) ∧ (decode cL_law 221 = .ok (.aload_n 0, 1))) ∧ ((decode cL_law 222 = .ok (.iload_n 3, 1)) ∧ (decode cL_law 223 = .ok (.iconst 4, 1)))))) := by decide +kernel
theorem dL_law_190 : decode cL_law 190 = .ok (.iaload, 1) := dg_L_law_1.1.1.1.1.1
theorem dL_law_191 : decode cL_law 191 = .ok (.aload_n 0, 1) := dg_L_law_1.1.1.1.1.2
theorem dL_law_192 : decode cL_law 192 = .ok (.iload_n 3, 1) := dg_L_law_1.1.1.1.2.1
theorem dL_law_193 : decode cL_law 193 = .ok (.iconst 3, 1) := dg_L_law_1.1.1.1.2.2
theorem dL_law_194 : decode cL_law 194 = .ok (.iadd, 1) := dg_L_law_1.1.1.2.1.1
theorem dL_law_195 : decode cL_law 195 = .ok (.iaload, 1) := dg_L_law_1.1.1.2.1.2
theorem dL_law_196 : decode cL_law 196 = .ok (.aload_n 0, 1) := dg_L_law_1.1.1.2.2.1
theorem dL_law_197 : decode cL_law 197 = .ok (.iload_n 3, 1) := dg_L_law_1.1.1.2.2.2
theorem dL_law_198 : decode cL_law 198 = .ok (.iconst 4, 1) := dg_L_law_1.1.2.1.1.1
theorem dL_law_199 : decode cL_law 199 = .ok (.iadd, 1) := dg_L_law_1.1.2.1.1.2
theorem dL_law_200 : decode cL_law 200 = .ok (.iaload, 1) := dg_L_law_1.1.2.1.2.1
theorem dL_law_201 : decode cL_law 201 = .ok (.invokevirtual 13, 3) := dg_L_law_1.1.2.1.2.2
theorem dL_law_204 : decode cL_law 204 = .ok (.pop, 1) := dg_L_law_1.1.2.2.1.1
theorem dL_law_205 : decode cL_law 205 = .ok (.aload_n 2, 1) := dg_L_law_1.1.2.2.1.2
theorem dL_law_206 : decode cL_law 206 = .ok (.aload_n 0, 1) := dg_L_law_1.1.2.2.2.1
theorem dL_law_207 : decode cL_law 207 = .ok (.iload_n 3, 1) := dg_L_law_1.1.2.2.2.2
theorem dL_law_208 : decode cL_law 208 = .ok (.iconst 1, 1) := dg_L_law_1.2.1.1.1.1
theorem dL_law_209 : decode cL_law 209 = .ok (.iadd, 1) := dg_L_law_1.2.1.1.1.2
theorem dL_law_210 : decode cL_law 210 = .ok (.iaload, 1) := dg_L_law_1.2.1.1.2.1
theorem dL_law_211 : decode cL_law 211 = .ok (.aload_n 0, 1) := dg_L_law_1.2.1.1.2.2
theorem dL_law_212 : decode cL_law 212 = .ok (.iload_n 3, 1) := dg_L_law_1.2.1.2.1.1
theorem dL_law_213 : decode cL_law 213 = .ok (.iconst 2, 1) := dg_L_law_1.2.1.2.1.2
theorem dL_law_214 : decode cL_law 214 = .ok (.iadd, 1) := dg_L_law_1.2.1.2.2.1
theorem dL_law_215 : decode cL_law 215 = .ok (.iaload, 1) := dg_L_law_1.2.1.2.2.2
theorem dL_law_216 : decode cL_law 216 = .ok (.aload_n 0, 1) := dg_L_law_1.2.2.1.1.1
theorem dL_law_217 : decode cL_law 217 = .ok (.iload_n 3, 1) := dg_L_law_1.2.2.1.1.2
theorem dL_law_218 : decode cL_law 218 = .ok (.iconst 3, 1) := dg_L_law_1.2.2.1.2.1
theorem dL_law_219 : decode cL_law 219 = .ok (.iadd, 1) := dg_L_law_1.2.2.1.2.2
theorem dL_law_220 : decode cL_law 220 = .ok (.iaload, 1) := dg_L_law_1.2.2.2.1.1
theorem dL_law_221 : decode cL_law 221 = .ok (.aload_n 0, 1) := dg_L_law_1.2.2.2.1.2
theorem dL_law_222 : decode cL_law 222 = .ok (.iload_n 3, 1) := dg_L_law_1.2.2.2.2.1
theorem dL_law_223 : decode cL_law 223 = .ok (.iconst 4, 1) := dg_L_law_1.2.2.2.2.2
set_option maxRecDepth 20000 in
theorem dg_L_law_2 : (((((decode cL_law 224 = .ok (.iadd, 1)) ∧ (decode cL_law 225 = .ok (.iaload, 1))) ∧ ((decode cL_law 226 = .ok (.invokevirtual 17, 3)) ∧ (decode cL_law 229 = .ok (.pop, 1)))) ∧ (((decode cL_law 230 = .ok (.goto 1143, 3)) ∧ (decode cL_law 233 = .ok (.aload_n 1, 1))) ∧ ((decode cL_law 234 = .ok (.aload_n 0, 1)) ∧ (decode cL_law 235 = .ok (.iload_n 3, 1))))) ∧ ((((decode cL_law 236 = .ok (.iconst 1, 1)) ∧ (decode cL_law 237 = .ok (.iadd, 1))) ∧ ((decode cL_law 238 = .ok (.iaload, 1)) ∧ (decode cL_law 239 = .ok (.aload_n 0, 1)))) ∧ (((decode cL_law 240 = .ok (.iload_n 3, 1)) ∧ (decode cL_law 241 = .ok (.iconst 2, 1))) ∧ ((decode cL_law 242 = .ok (.iadd, 1)) ∧ (decode cL_law 243 = .ok (.iaload, 1)))))) ∧ (((((decode cL_law 244 = .ok (.aload_n 0, 1)) ∧ (decode cL_law 245 = .ok (.iload_n 3, 1))) ∧ ((decode cL_law 246 = .ok (.iconst 3, 1)) ∧ (decode cL_law 247 = .ok (.iadd, 1)))) ∧ (((decode cL_law 248 = .ok (.iaload, 1)) ∧ (decode cL_law 249 = .ok (.invokevirtual 18, 3))) ∧ ((decode cL_law 252 = .ok (.aload_n 2, 1)) ∧ (decode cL_law 253 = .ok (.aload_n 0, 1))))) ∧ ((((decode cL_law 254 = .ok (.iload_n 3, 1)) ∧ (decode cL_law 255 = .ok (.iconst 1, 1))) ∧ ((decode cL_law 256 = .ok (.iadd, 1)) ∧ (decode cL_law 257 = .ok (.iaload, 1)))) ∧ (((decode cL_law 258 = .ok (.aload_n 0, 1)) ∧ (decode cL_law 259 = .ok (.iload_n 3, 1))) ∧ ((decode cL_law 260 = .ok (.iconst 2, 1)) ∧ (decode cL_law 261 = .ok (.iadd, 1)))))) := by decide +kernel
theorem dL_law_224 : decode cL_law 224 = .ok (.iadd, 1) := dg_L_law_2.1.1.1.1.1
theorem dL_law_225 : decode cL_law 225 = .ok (.iaload, 1) := dg_L_law_2.1.1.1.1.2
theorem dL_law_226 : decode cL_law 226 = .ok (.invokevirtual 17, 3) := dg_L_law_2.1.1.1.2.1
theorem dL_law_229 : decode cL_law 229 = .ok (.pop, 1) := dg_L_law_2.1.1.1.2.2
theorem dL_law_230 : decode cL_law 230 = .ok (.goto 1143, 3) := dg_L_law_2.1.1.2.1.1
theorem dL_law_233 : decode cL_law 233 = .ok (.aload_n 1, 1) := dg_L_law_2.1.1.2.1.2
theorem dL_law_234 : decode cL_law 234 = .ok (.aload_n 0, 1) := dg_L_law_2.1.1.2.2.1
theorem dL_law_235 : decode cL_law 235 = .ok (.iload_n 3, 1) := dg_L_law_2.1.1.2.2.2
theorem dL_law_236 : decode cL_law 236 = .ok (.iconst 1, 1) := dg_L_law_2.1.2.1.1.1
theorem dL_law_237 : decode cL_law 237 = .ok (.iadd, 1) := dg_L_law_2.1.2.1.1.2
theorem dL_law_238 : decode cL_law 238 = .ok (.iaload, 1) := dg_L_law_2.1.2.1.2.1
theorem dL_law_239 : decode cL_law 239 = .ok (.aload_n 0, 1) := dg_L_law_2.1.2.1.2.2
theorem dL_law_240 : decode cL_law 240 = .ok (.iload_n 3, 1) := dg_L_law_2.1.2.2.1.1
theorem dL_law_241 : decode cL_law 241 = .ok (.iconst 2, 1) := dg_L_law_2.1.2.2.1.2
theorem dL_law_242 : decode cL_law 242 = .ok (.iadd, 1) := dg_L_law_2.1.2.2.2.1
theorem dL_law_243 : decode cL_law 243 = .ok (.iaload, 1) := dg_L_law_2.1.2.2.2.2
theorem dL_law_244 : decode cL_law 244 = .ok (.aload_n 0, 1) := dg_L_law_2.2.1.1.1.1
theorem dL_law_245 : decode cL_law 245 = .ok (.iload_n 3, 1) := dg_L_law_2.2.1.1.1.2
theorem dL_law_246 : decode cL_law 246 = .ok (.iconst 3, 1) := dg_L_law_2.2.1.1.2.1
theorem dL_law_247 : decode cL_law 247 = .ok (.iadd, 1) := dg_L_law_2.2.1.1.2.2
theorem dL_law_248 : decode cL_law 248 = .ok (.iaload, 1) := dg_L_law_2.2.1.2.1.1
theorem dL_law_249 : decode cL_law 249 = .ok (.invokevirtual 18, 3) := dg_L_law_2.2.1.2.1.2
theorem dL_law_252 : decode cL_law 252 = .ok (.aload_n 2, 1) := dg_L_law_2.2.1.2.2.1
theorem dL_law_253 : decode cL_law 253 = .ok (.aload_n 0, 1) := dg_L_law_2.2.1.2.2.2
theorem dL_law_254 : decode cL_law 254 = .ok (.iload_n 3, 1) := dg_L_law_2.2.2.1.1.1
theorem dL_law_255 : decode cL_law 255 = .ok (.iconst 1, 1) := dg_L_law_2.2.2.1.1.2
theorem dL_law_256 : decode cL_law 256 = .ok (.iadd, 1) := dg_L_law_2.2.2.1.2.1
theorem dL_law_257 : decode cL_law 257 = .ok (.iaload, 1) := dg_L_law_2.2.2.1.2.2
theorem dL_law_258 : decode cL_law 258 = .ok (.aload_n 0, 1) := dg_L_law_2.2.2.2.1.1
theorem dL_law_259 : decode cL_law 259 = .ok (.iload_n 3, 1) := dg_L_law_2.2.2.2.1.2
theorem dL_law_260 : decode cL_law 260 = .ok (.iconst 2, 1) := dg_L_law_2.2.2.2.2.1
theorem dL_law_261 : decode cL_law 261 = .ok (.iadd, 1) := dg_L_law_2.2.2.2.2.2
set_option maxRecDepth 20000 in
theorem dg_L_law_3 : (((((decode cL_law 262 = .ok (.iaload, 1)) ∧ (decode cL_law 263 = .ok (.aload_n 0, 1))) ∧ ((decode cL_law 264 = .ok (.iload_n 3, 1)) ∧ (decode cL_law 265 = .ok (.iconst 3, 1)))) ∧ (((decode cL_law 266 = .ok (.iadd, 1)) ∧ (decode cL_law 267 = .ok (.iaload, 1))) ∧ ((decode cL_law 268 = .ok (.invokevirtual 22, 3)) ∧ (decode cL_law 271 = .ok (.if_icmp .eq 1102, 3))))) ∧ ((((decode cL_law 274 = .ok (.iconst 0, 1)) ∧ (decode cL_law 275 = .ok (.ireturn, 1))) ∧ ((decode cL_law 276 = .ok (.aload_n 1, 1)) ∧ (decode cL_law 277 = .ok (.aload_n 0, 1)))) ∧ (((decode cL_law 278 = .ok (.iload_n 3, 1)) ∧ (decode cL_law 279 = .ok (.iconst 1, 1))) ∧ ((decode cL_law 280 = .ok (.iadd, 1)) ∧ (decode cL_law 281 = .ok (.iaload, 1)))))) ∧ (((((decode cL_law 282 = .ok (.aload_n 0, 1)) ∧ (decode cL_law 283 = .ok (.iload_n 3, 1))) ∧ ((decode cL_law 284 = .ok (.iconst 2, 1)) ∧ (decode cL_law 285 = .ok (.iadd, 1)))) ∧ (((decode cL_law 286 = .ok (.iaload, 1)) ∧ (decode cL_law 287 = .ok (.aload_n 0, 1))) ∧ ((decode cL_law 288 = .ok (.iload_n 3, 1)) ∧ (decode cL_law 289 = .ok (.iconst 3, 1))))) ∧ ((((decode cL_law 290 = .ok (.iadd, 1)) ∧ (decode cL_law 291 = .ok (.iaload, 1))) ∧ ((decode cL_law 292 = .ok (.invokevirtual 23, 3)) ∧ (decode cL_law 295 = .ok (.pop, 1)))) ∧ (((decode cL_law 296 = .ok (.aload_n 2, 1)) ∧ (decode cL_law 297 = .ok (.aload_n 0, 1))) ∧ ((decode cL_law 298 = .ok (.iload_n 3, 1)) ∧ (decode cL_law 299 = .ok (.iconst 1, 1)))))) := by decide +kernel
theorem dL_law_262 : decode cL_law 262 = .ok (.iaload, 1) := dg_L_law_3.1.1.1.1.1
theorem dL_law_263 : decode cL_law 263 = .ok (.aload_n 0, 1) := dg_L_law_3.1.1.1.1.2
theorem dL_law_264 : decode cL_law 264 = .ok (.iload_n 3, 1) := dg_L_law_3.1.1.1.2.1
theorem dL_law_265 : decode cL_law 265 = .ok (.iconst 3, 1) := dg_L_law_3.1.1.1.2.2
theorem dL_law_266 : decode cL_law 266 = .ok (.iadd, 1) := dg_L_law_3.1.1.2.1.1
theorem dL_law_267 : decode cL_law 267 = .ok (.iaload, 1) := dg_L_law_3.1.1.2.1.2
theorem dL_law_268 : decode cL_law 268 = .ok (.invokevirtual 22, 3) := dg_L_law_3.1.1.2.2.1
theorem dL_law_271 : decode cL_law 271 = .ok (.if_icmp .eq 1102, 3) := dg_L_law_3.1.1.2.2.2
theorem dL_law_274 : decode cL_law 274 = .ok (.iconst 0, 1) := dg_L_law_3.1.2.1.1.1
theorem dL_law_275 : decode cL_law 275 = .ok (.ireturn, 1) := dg_L_law_3.1.2.1.1.2
theorem dL_law_276 : decode cL_law 276 = .ok (.aload_n 1, 1) := dg_L_law_3.1.2.1.2.1
theorem dL_law_277 : decode cL_law 277 = .ok (.aload_n 0, 1) := dg_L_law_3.1.2.1.2.2
theorem dL_law_278 : decode cL_law 278 = .ok (.iload_n 3, 1) := dg_L_law_3.1.2.2.1.1
theorem dL_law_279 : decode cL_law 279 = .ok (.iconst 1, 1) := dg_L_law_3.1.2.2.1.2
theorem dL_law_280 : decode cL_law 280 = .ok (.iadd, 1) := dg_L_law_3.1.2.2.2.1
theorem dL_law_281 : decode cL_law 281 = .ok (.iaload, 1) := dg_L_law_3.1.2.2.2.2
theorem dL_law_282 : decode cL_law 282 = .ok (.aload_n 0, 1) := dg_L_law_3.2.1.1.1.1
theorem dL_law_283 : decode cL_law 283 = .ok (.iload_n 3, 1) := dg_L_law_3.2.1.1.1.2
theorem dL_law_284 : decode cL_law 284 = .ok (.iconst 2, 1) := dg_L_law_3.2.1.1.2.1
theorem dL_law_285 : decode cL_law 285 = .ok (.iadd, 1) := dg_L_law_3.2.1.1.2.2
theorem dL_law_286 : decode cL_law 286 = .ok (.iaload, 1) := dg_L_law_3.2.1.2.1.1
theorem dL_law_287 : decode cL_law 287 = .ok (.aload_n 0, 1) := dg_L_law_3.2.1.2.1.2
theorem dL_law_288 : decode cL_law 288 = .ok (.iload_n 3, 1) := dg_L_law_3.2.1.2.2.1
theorem dL_law_289 : decode cL_law 289 = .ok (.iconst 3, 1) := dg_L_law_3.2.1.2.2.2
theorem dL_law_290 : decode cL_law 290 = .ok (.iadd, 1) := dg_L_law_3.2.2.1.1.1
theorem dL_law_291 : decode cL_law 291 = .ok (.iaload, 1) := dg_L_law_3.2.2.1.1.2
theorem dL_law_292 : decode cL_law 292 = .ok (.invokevirtual 23, 3) := dg_L_law_3.2.2.1.2.1
theorem dL_law_295 : decode cL_law 295 = .ok (.pop, 1) := dg_L_law_3.2.2.1.2.2
theorem dL_law_296 : decode cL_law 296 = .ok (.aload_n 2, 1) := dg_L_law_3.2.2.2.1.1
theorem dL_law_297 : decode cL_law 297 = .ok (.aload_n 0, 1) := dg_L_law_3.2.2.2.1.2
theorem dL_law_298 : decode cL_law 298 = .ok (.iload_n 3, 1) := dg_L_law_3.2.2.2.2.1
theorem dL_law_299 : decode cL_law 299 = .ok (.iconst 1, 1) := dg_L_law_3.2.2.2.2.2
set_option maxRecDepth 20000 in
theorem dg_L_law_4 : (((((decode cL_law 300 = .ok (.iadd, 1)) ∧ (decode cL_law 301 = .ok (.iaload, 1))) ∧ ((decode cL_law 302 = .ok (.aload_n 0, 1)) ∧ (decode cL_law 303 = .ok (.iload_n 3, 1)))) ∧ (((decode cL_law 304 = .ok (.iconst 2, 1)) ∧ (decode cL_law 305 = .ok (.iadd, 1))) ∧ ((decode cL_law 306 = .ok (.iaload, 1)) ∧ (decode cL_law 307 = .ok (.aload_n 0, 1))))) ∧ ((((decode cL_law 308 = .ok (.iload_n 3, 1)) ∧ (decode cL_law 309 = .ok (.iconst 3, 1))) ∧ ((decode cL_law 310 = .ok (.iadd, 1)) ∧ (decode cL_law 311 = .ok (.iaload, 1)))) ∧ (((decode cL_law 312 = .ok (.invokevirtual 26, 3)) ∧ (decode cL_law 315 = .ok (.pop, 1))) ∧ ((decode cL_law 316 = .ok (.goto 1057, 3)) ∧ (decode cL_law 319 = .ok (.aload_n 1, 1)))))) ∧ (((((decode cL_law 320 = .ok (.aload_n 0, 1)) ∧ (decode cL_law 321 = .ok (.iload_n 3, 1))) ∧ ((decode cL_law 322 = .ok (.iconst 1, 1)) ∧ (decode cL_law 323 = .ok (.iadd, 1)))) ∧ (((decode cL_law 324 = .ok (.iaload, 1)) ∧ (decode cL_law 325 = .ok (.invokevirtual 27, 3))) ∧ ((decode cL_law 328 = .ok (.pop, 1)) ∧ (decode cL_law 329 = .ok (.aload_n 2, 1))))) ∧ ((((decode cL_law 330 = .ok (.aload_n 0, 1)) ∧ (decode cL_law 331 = .ok (.iload_n 3, 1))) ∧ ((decode cL_law 332 = .ok (.iconst 1, 1)) ∧ (decode cL_law 333 = .ok (.iadd, 1)))) ∧ (((decode cL_law 334 = .ok (.iaload, 1)) ∧ (decode cL_law 335 = .ok (.invokevirtual 31, 3))) ∧ ((decode cL_law 338 = .ok (.pop, 1)) ∧ (decode cL_law 339 = .ok (.goto 1034, 3)))))) := by decide +kernel
theorem dL_law_300 : decode cL_law 300 = .ok (.iadd, 1) := dg_L_law_4.1.1.1.1.1
theorem dL_law_301 : decode cL_law 301 = .ok (.iaload, 1) := dg_L_law_4.1.1.1.1.2
theorem dL_law_302 : decode cL_law 302 = .ok (.aload_n 0, 1) := dg_L_law_4.1.1.1.2.1
theorem dL_law_303 : decode cL_law 303 = .ok (.iload_n 3, 1) := dg_L_law_4.1.1.1.2.2
theorem dL_law_304 : decode cL_law 304 = .ok (.iconst 2, 1) := dg_L_law_4.1.1.2.1.1
theorem dL_law_305 : decode cL_law 305 = .ok (.iadd, 1) := dg_L_law_4.1.1.2.1.2
theorem dL_law_306 : decode cL_law 306 = .ok (.iaload, 1) := dg_L_law_4.1.1.2.2.1
theorem dL_law_307 : decode cL_law 307 = .ok (.aload_n 0, 1) := dg_L_law_4.1.1.2.2.2
theorem dL_law_308 : decode cL_law 308 = .ok (.iload_n 3, 1) := dg_L_law_4.1.2.1.1.1
theorem dL_law_309 : decode cL_law 309 = .ok (.iconst 3, 1) := dg_L_law_4.1.2.1.1.2
theorem dL_law_310 : decode cL_law 310 = .ok (.iadd, 1) := dg_L_law_4.1.2.1.2.1
theorem dL_law_311 : decode cL_law 311 = .ok (.iaload, 1) := dg_L_law_4.1.2.1.2.2
theorem dL_law_312 : decode cL_law 312 = .ok (.invokevirtual 26, 3) := dg_L_law_4.1.2.2.1.1
theorem dL_law_315 : decode cL_law 315 = .ok (.pop, 1) := dg_L_law_4.1.2.2.1.2
theorem dL_law_316 : decode cL_law 316 = .ok (.goto 1057, 3) := dg_L_law_4.1.2.2.2.1
theorem dL_law_319 : decode cL_law 319 = .ok (.aload_n 1, 1) := dg_L_law_4.1.2.2.2.2
theorem dL_law_320 : decode cL_law 320 = .ok (.aload_n 0, 1) := dg_L_law_4.2.1.1.1.1
theorem dL_law_321 : decode cL_law 321 = .ok (.iload_n 3, 1) := dg_L_law_4.2.1.1.1.2
theorem dL_law_322 : decode cL_law 322 = .ok (.iconst 1, 1) := dg_L_law_4.2.1.1.2.1
theorem dL_law_323 : decode cL_law 323 = .ok (.iadd, 1) := dg_L_law_4.2.1.1.2.2
theorem dL_law_324 : decode cL_law 324 = .ok (.iaload, 1) := dg_L_law_4.2.1.2.1.1
theorem dL_law_325 : decode cL_law 325 = .ok (.invokevirtual 27, 3) := dg_L_law_4.2.1.2.1.2
theorem dL_law_328 : decode cL_law 328 = .ok (.pop, 1) := dg_L_law_4.2.1.2.2.1
theorem dL_law_329 : decode cL_law 329 = .ok (.aload_n 2, 1) := dg_L_law_4.2.1.2.2.2
theorem dL_law_330 : decode cL_law 330 = .ok (.aload_n 0, 1) := dg_L_law_4.2.2.1.1.1
theorem dL_law_331 : decode cL_law 331 = .ok (.iload_n 3, 1) := dg_L_law_4.2.2.1.1.2
theorem dL_law_332 : decode cL_law 332 = .ok (.iconst 1, 1) := dg_L_law_4.2.2.1.2.1
theorem dL_law_333 : decode cL_law 333 = .ok (.iadd, 1) := dg_L_law_4.2.2.1.2.2
theorem dL_law_334 : decode cL_law 334 = .ok (.iaload, 1) := dg_L_law_4.2.2.2.1.1
theorem dL_law_335 : decode cL_law 335 = .ok (.invokevirtual 31, 3) := dg_L_law_4.2.2.2.1.2
theorem dL_law_338 : decode cL_law 338 = .ok (.pop, 1) := dg_L_law_4.2.2.2.2.1
theorem dL_law_339 : decode cL_law 339 = .ok (.goto 1034, 3) := dg_L_law_4.2.2.2.2.2
set_option maxRecDepth 20000 in
theorem dg_L_law_5 : (((((decode cL_law 342 = .ok (.aload_n 1, 1)) ∧ (decode cL_law 343 = .ok (.aload_n 0, 1))) ∧ ((decode cL_law 344 = .ok (.iload_n 3, 1)) ∧ (decode cL_law 345 = .ok (.iconst 1, 1)))) ∧ (((decode cL_law 346 = .ok (.iadd, 1)) ∧ (decode cL_law 347 = .ok (.iaload, 1))) ∧ ((decode cL_law 348 = .ok (.aload_n 0, 1)) ∧ (decode cL_law 349 = .ok (.iload_n 3, 1))))) ∧ ((((decode cL_law 350 = .ok (.iconst 2, 1)) ∧ (decode cL_law 351 = .ok (.iadd, 1))) ∧ ((decode cL_law 352 = .ok (.iaload, 1)) ∧ (decode cL_law 353 = .ok (.invokevirtual 32, 3)))) ∧ (((decode cL_law 356 = .ok (.pop, 1)) ∧ (decode cL_law 357 = .ok (.aload_n 2, 1))) ∧ ((decode cL_law 358 = .ok (.aload_n 0, 1)) ∧ (decode cL_law 359 = .ok (.iload_n 3, 1)))))) ∧ (((((decode cL_law 360 = .ok (.iconst 1, 1)) ∧ (decode cL_law 361 = .ok (.iadd, 1))) ∧ ((decode cL_law 362 = .ok (.iaload, 1)) ∧ (decode cL_law 363 = .ok (.aload_n 0, 1)))) ∧ (((decode cL_law 364 = .ok (.iload_n 3, 1)) ∧ (decode cL_law 365 = .ok (.iconst 2, 1))) ∧ ((decode cL_law 366 = .ok (.iadd, 1)) ∧ (decode cL_law 367 = .ok (.iaload, 1))))) ∧ ((((decode cL_law 368 = .ok (.invokevirtual 36, 3)) ∧ (decode cL_law 371 = .ok (.pop, 1))) ∧ ((decode cL_law 372 = .ok (.goto 1001, 3)) ∧ (decode cL_law 375 = .ok (.aload_n 1, 1)))) ∧ (((decode cL_law 376 = .ok (.aload_n 0, 1)) ∧ (decode cL_law 377 = .ok (.iload_n 3, 1))) ∧ ((decode cL_law 378 = .ok (.iconst 1, 1)) ∧ (decode cL_law 379 = .ok (.iadd, 1)))))) := by decide +kernel
theorem dL_law_342 : decode cL_law 342 = .ok (.aload_n 1, 1) := dg_L_law_5.1.1.1.1.1
theorem dL_law_343 : decode cL_law 343 = .ok (.aload_n 0, 1) := dg_L_law_5.1.1.1.1.2
theorem dL_law_344 : decode cL_law 344 = .ok (.iload_n 3, 1) := dg_L_law_5.1.1.1.2.1
theorem dL_law_345 : decode cL_law 345 = .ok (.iconst 1, 1) := dg_L_law_5.1.1.1.2.2
theorem dL_law_346 : decode cL_law 346 = .ok (.iadd, 1) := dg_L_law_5.1.1.2.1.1
theorem dL_law_347 : decode cL_law 347 = .ok (.iaload, 1) := dg_L_law_5.1.1.2.1.2
theorem dL_law_348 : decode cL_law 348 = .ok (.aload_n 0, 1) := dg_L_law_5.1.1.2.2.1
theorem dL_law_349 : decode cL_law 349 = .ok (.iload_n 3, 1) := dg_L_law_5.1.1.2.2.2
theorem dL_law_350 : decode cL_law 350 = .ok (.iconst 2, 1) := dg_L_law_5.1.2.1.1.1
theorem dL_law_351 : decode cL_law 351 = .ok (.iadd, 1) := dg_L_law_5.1.2.1.1.2
theorem dL_law_352 : decode cL_law 352 = .ok (.iaload, 1) := dg_L_law_5.1.2.1.2.1
theorem dL_law_353 : decode cL_law 353 = .ok (.invokevirtual 32, 3) := dg_L_law_5.1.2.1.2.2
theorem dL_law_356 : decode cL_law 356 = .ok (.pop, 1) := dg_L_law_5.1.2.2.1.1
theorem dL_law_357 : decode cL_law 357 = .ok (.aload_n 2, 1) := dg_L_law_5.1.2.2.1.2
theorem dL_law_358 : decode cL_law 358 = .ok (.aload_n 0, 1) := dg_L_law_5.1.2.2.2.1
theorem dL_law_359 : decode cL_law 359 = .ok (.iload_n 3, 1) := dg_L_law_5.1.2.2.2.2
theorem dL_law_360 : decode cL_law 360 = .ok (.iconst 1, 1) := dg_L_law_5.2.1.1.1.1
theorem dL_law_361 : decode cL_law 361 = .ok (.iadd, 1) := dg_L_law_5.2.1.1.1.2
theorem dL_law_362 : decode cL_law 362 = .ok (.iaload, 1) := dg_L_law_5.2.1.1.2.1
theorem dL_law_363 : decode cL_law 363 = .ok (.aload_n 0, 1) := dg_L_law_5.2.1.1.2.2
theorem dL_law_364 : decode cL_law 364 = .ok (.iload_n 3, 1) := dg_L_law_5.2.1.2.1.1
theorem dL_law_365 : decode cL_law 365 = .ok (.iconst 2, 1) := dg_L_law_5.2.1.2.1.2
theorem dL_law_366 : decode cL_law 366 = .ok (.iadd, 1) := dg_L_law_5.2.1.2.2.1
theorem dL_law_367 : decode cL_law 367 = .ok (.iaload, 1) := dg_L_law_5.2.1.2.2.2
theorem dL_law_368 : decode cL_law 368 = .ok (.invokevirtual 36, 3) := dg_L_law_5.2.2.1.1.1
theorem dL_law_371 : decode cL_law 371 = .ok (.pop, 1) := dg_L_law_5.2.2.1.1.2
theorem dL_law_372 : decode cL_law 372 = .ok (.goto 1001, 3) := dg_L_law_5.2.2.1.2.1
theorem dL_law_375 : decode cL_law 375 = .ok (.aload_n 1, 1) := dg_L_law_5.2.2.1.2.2
theorem dL_law_376 : decode cL_law 376 = .ok (.aload_n 0, 1) := dg_L_law_5.2.2.2.1.1
theorem dL_law_377 : decode cL_law 377 = .ok (.iload_n 3, 1) := dg_L_law_5.2.2.2.1.2
theorem dL_law_378 : decode cL_law 378 = .ok (.iconst 1, 1) := dg_L_law_5.2.2.2.2.1
theorem dL_law_379 : decode cL_law 379 = .ok (.iadd, 1) := dg_L_law_5.2.2.2.2.2
set_option maxRecDepth 20000 in
theorem dg_L_law_6 : (((((decode cL_law 380 = .ok (.iaload, 1)) ∧ (decode cL_law 381 = .ok (.invokevirtual 37, 3))) ∧ ((decode cL_law 384 = .ok (.pop, 1)) ∧ (decode cL_law 385 = .ok (.aload_n 2, 1)))) ∧ (((decode cL_law 386 = .ok (.aload_n 0, 1)) ∧ (decode cL_law 387 = .ok (.iload_n 3, 1))) ∧ ((decode cL_law 388 = .ok (.iconst 1, 1)) ∧ (decode cL_law 389 = .ok (.iadd, 1))))) ∧ ((((decode cL_law 390 = .ok (.iaload, 1)) ∧ (decode cL_law 391 = .ok (.invokevirtual 40, 3))) ∧ ((decode cL_law 394 = .ok (.pop, 1)) ∧ (decode cL_law 395 = .ok (.goto 978, 3)))) ∧ (((decode cL_law 398 = .ok (.aload_n 1, 1)) ∧ (decode cL_law 399 = .ok (.aload_n 0, 1))) ∧ ((decode cL_law 400 = .ok (.iload_n 3, 1)) ∧ (decode cL_law 401 = .ok (.iconst 1, 1)))))) ∧ (((((decode cL_law 402 = .ok (.iadd, 1)) ∧ (decode cL_law 403 = .ok (.iaload, 1))) ∧ ((decode cL_law 404 = .ok (.invokevirtual 41, 3)) ∧ (decode cL_law 407 = .ok (.pop, 1)))) ∧ (((decode cL_law 408 = .ok (.aload_n 2, 1)) ∧ (decode cL_law 409 = .ok (.aload_n 0, 1))) ∧ ((decode cL_law 410 = .ok (.iload_n 3, 1)) ∧ (decode cL_law 411 = .ok (.iconst 1, 1))))) ∧ ((((decode cL_law 412 = .ok (.iadd, 1)) ∧ (decode cL_law 413 = .ok (.iaload, 1))) ∧ ((decode cL_law 414 = .ok (.invokevirtual 44, 3)) ∧ (decode cL_law 417 = .ok (.pop, 1)))) ∧ (((decode cL_law 418 = .ok (.goto 955, 3)) ∧ (decode cL_law 421 = .ok (.aload_n 1, 1))) ∧ ((decode cL_law 422 = .ok (.aload_n 0, 1)) ∧ (decode cL_law 423 = .ok (.iload_n 3, 1)))))) := by decide +kernel
theorem dL_law_380 : decode cL_law 380 = .ok (.iaload, 1) := dg_L_law_6.1.1.1.1.1
theorem dL_law_381 : decode cL_law 381 = .ok (.invokevirtual 37, 3) := dg_L_law_6.1.1.1.1.2
theorem dL_law_384 : decode cL_law 384 = .ok (.pop, 1) := dg_L_law_6.1.1.1.2.1
theorem dL_law_385 : decode cL_law 385 = .ok (.aload_n 2, 1) := dg_L_law_6.1.1.1.2.2
theorem dL_law_386 : decode cL_law 386 = .ok (.aload_n 0, 1) := dg_L_law_6.1.1.2.1.1
theorem dL_law_387 : decode cL_law 387 = .ok (.iload_n 3, 1) := dg_L_law_6.1.1.2.1.2
theorem dL_law_388 : decode cL_law 388 = .ok (.iconst 1, 1) := dg_L_law_6.1.1.2.2.1
theorem dL_law_389 : decode cL_law 389 = .ok (.iadd, 1) := dg_L_law_6.1.1.2.2.2
theorem dL_law_390 : decode cL_law 390 = .ok (.iaload, 1) := dg_L_law_6.1.2.1.1.1
theorem dL_law_391 : decode cL_law 391 = .ok (.invokevirtual 40, 3) := dg_L_law_6.1.2.1.1.2
theorem dL_law_394 : decode cL_law 394 = .ok (.pop, 1) := dg_L_law_6.1.2.1.2.1
theorem dL_law_395 : decode cL_law 395 = .ok (.goto 978, 3) := dg_L_law_6.1.2.1.2.2
theorem dL_law_398 : decode cL_law 398 = .ok (.aload_n 1, 1) := dg_L_law_6.1.2.2.1.1
theorem dL_law_399 : decode cL_law 399 = .ok (.aload_n 0, 1) := dg_L_law_6.1.2.2.1.2
theorem dL_law_400 : decode cL_law 400 = .ok (.iload_n 3, 1) := dg_L_law_6.1.2.2.2.1
theorem dL_law_401 : decode cL_law 401 = .ok (.iconst 1, 1) := dg_L_law_6.1.2.2.2.2
theorem dL_law_402 : decode cL_law 402 = .ok (.iadd, 1) := dg_L_law_6.2.1.1.1.1
theorem dL_law_403 : decode cL_law 403 = .ok (.iaload, 1) := dg_L_law_6.2.1.1.1.2
theorem dL_law_404 : decode cL_law 404 = .ok (.invokevirtual 41, 3) := dg_L_law_6.2.1.1.2.1
theorem dL_law_407 : decode cL_law 407 = .ok (.pop, 1) := dg_L_law_6.2.1.1.2.2
theorem dL_law_408 : decode cL_law 408 = .ok (.aload_n 2, 1) := dg_L_law_6.2.1.2.1.1
theorem dL_law_409 : decode cL_law 409 = .ok (.aload_n 0, 1) := dg_L_law_6.2.1.2.1.2
theorem dL_law_410 : decode cL_law 410 = .ok (.iload_n 3, 1) := dg_L_law_6.2.1.2.2.1
theorem dL_law_411 : decode cL_law 411 = .ok (.iconst 1, 1) := dg_L_law_6.2.1.2.2.2
theorem dL_law_412 : decode cL_law 412 = .ok (.iadd, 1) := dg_L_law_6.2.2.1.1.1
theorem dL_law_413 : decode cL_law 413 = .ok (.iaload, 1) := dg_L_law_6.2.2.1.1.2
theorem dL_law_414 : decode cL_law 414 = .ok (.invokevirtual 44, 3) := dg_L_law_6.2.2.1.2.1
theorem dL_law_417 : decode cL_law 417 = .ok (.pop, 1) := dg_L_law_6.2.2.1.2.2
theorem dL_law_418 : decode cL_law 418 = .ok (.goto 955, 3) := dg_L_law_6.2.2.2.1.1
theorem dL_law_421 : decode cL_law 421 = .ok (.aload_n 1, 1) := dg_L_law_6.2.2.2.1.2
theorem dL_law_422 : decode cL_law 422 = .ok (.aload_n 0, 1) := dg_L_law_6.2.2.2.2.1
theorem dL_law_423 : decode cL_law 423 = .ok (.iload_n 3, 1) := dg_L_law_6.2.2.2.2.2
set_option maxRecDepth 20000 in
theorem dg_L_law_7 : (((((decode cL_law 424 = .ok (.iconst 1, 1)) ∧ (decode cL_law 425 = .ok (.iadd, 1))) ∧ ((decode cL_law 426 = .ok (.iaload, 1)) ∧ (decode cL_law 427 = .ok (.aload_n 0, 1)))) ∧ (((decode cL_law 428 = .ok (.iload_n 3, 1)) ∧ (decode cL_law 429 = .ok (.iconst 2, 1))) ∧ ((decode cL_law 430 = .ok (.iadd, 1)) ∧ (decode cL_law 431 = .ok (.iaload, 1))))) ∧ ((((decode cL_law 432 = .ok (.aload_n 0, 1)) ∧ (decode cL_law 433 = .ok (.iload_n 3, 1))) ∧ ((decode cL_law 434 = .ok (.iconst 3, 1)) ∧ (decode cL_law 435 = .ok (.iadd, 1)))) ∧ (((decode cL_law 436 = .ok (.iaload, 1)) ∧ (decode cL_law 437 = .ok (.invokevirtual 45, 3))) ∧ ((decode cL_law 440 = .ok (.pop2, 1)) ∧ (decode cL_law 441 = .ok (.aload_n 2, 1)))))) ∧ (((((decode cL_law 442 = .ok (.aload_n 0, 1)) ∧ (decode cL_law 443 = .ok (.iload_n 3, 1))) ∧ ((decode cL_law 444 = .ok (.iconst 1, 1)) ∧ (decode cL_law 445 = .ok (.iadd, 1)))) ∧ (((decode cL_law 446 = .ok (.iaload, 1)) ∧ (decode cL_law 447 = .ok (.aload_n 0, 1))) ∧ ((decode cL_law 448 = .ok (.iload_n 3, 1)) ∧ (decode cL_law 449 = .ok (.iconst 2, 1))))) ∧ ((((decode cL_law 450 = .ok (.iadd, 1)) ∧ (decode cL_law 451 = .ok (.iaload, 1))) ∧ ((decode cL_law 452 = .ok (.aload_n 0, 1)) ∧ (decode cL_law 453 = .ok (.iload_n 3, 1)))) ∧ (((decode cL_law 454 = .ok (.iconst 3, 1)) ∧ (decode cL_law 455 = .ok (.iadd, 1))) ∧ ((decode cL_law 456 = .ok (.iaload, 1)) ∧ (decode cL_law 457 = .ok (.invokevirtual 49, 3)))))) := by decide +kernel
theorem dL_law_424 : decode cL_law 424 = .ok (.iconst 1, 1) := dg_L_law_7.1.1.1.1.1
theorem dL_law_425 : decode cL_law 425 = .ok (.iadd, 1) := dg_L_law_7.1.1.1.1.2
theorem dL_law_426 : decode cL_law 426 = .ok (.iaload, 1) := dg_L_law_7.1.1.1.2.1
theorem dL_law_427 : decode cL_law 427 = .ok (.aload_n 0, 1) := dg_L_law_7.1.1.1.2.2
theorem dL_law_428 : decode cL_law 428 = .ok (.iload_n 3, 1) := dg_L_law_7.1.1.2.1.1
theorem dL_law_429 : decode cL_law 429 = .ok (.iconst 2, 1) := dg_L_law_7.1.1.2.1.2
theorem dL_law_430 : decode cL_law 430 = .ok (.iadd, 1) := dg_L_law_7.1.1.2.2.1
theorem dL_law_431 : decode cL_law 431 = .ok (.iaload, 1) := dg_L_law_7.1.1.2.2.2
theorem dL_law_432 : decode cL_law 432 = .ok (.aload_n 0, 1) := dg_L_law_7.1.2.1.1.1
theorem dL_law_433 : decode cL_law 433 = .ok (.iload_n 3, 1) := dg_L_law_7.1.2.1.1.2
theorem dL_law_434 : decode cL_law 434 = .ok (.iconst 3, 1) := dg_L_law_7.1.2.1.2.1
theorem dL_law_435 : decode cL_law 435 = .ok (.iadd, 1) := dg_L_law_7.1.2.1.2.2
theorem dL_law_436 : decode cL_law 436 = .ok (.iaload, 1) := dg_L_law_7.1.2.2.1.1
theorem dL_law_437 : decode cL_law 437 = .ok (.invokevirtual 45, 3) := dg_L_law_7.1.2.2.1.2
theorem dL_law_440 : decode cL_law 440 = .ok (.pop2, 1) := dg_L_law_7.1.2.2.2.1
theorem dL_law_441 : decode cL_law 441 = .ok (.aload_n 2, 1) := dg_L_law_7.1.2.2.2.2
theorem dL_law_442 : decode cL_law 442 = .ok (.aload_n 0, 1) := dg_L_law_7.2.1.1.1.1
theorem dL_law_443 : decode cL_law 443 = .ok (.iload_n 3, 1) := dg_L_law_7.2.1.1.1.2
theorem dL_law_444 : decode cL_law 444 = .ok (.iconst 1, 1) := dg_L_law_7.2.1.1.2.1
theorem dL_law_445 : decode cL_law 445 = .ok (.iadd, 1) := dg_L_law_7.2.1.1.2.2
theorem dL_law_446 : decode cL_law 446 = .ok (.iaload, 1) := dg_L_law_7.2.1.2.1.1
theorem dL_law_447 : decode cL_law 447 = .ok (.aload_n 0, 1) := dg_L_law_7.2.1.2.1.2
theorem dL_law_448 : decode cL_law 448 = .ok (.iload_n 3, 1) := dg_L_law_7.2.1.2.2.1
theorem dL_law_449 : decode cL_law 449 = .ok (.iconst 2, 1) := dg_L_law_7.2.1.2.2.2
theorem dL_law_450 : decode cL_law 450 = .ok (.iadd, 1) := dg_L_law_7.2.2.1.1.1
theorem dL_law_451 : decode cL_law 451 = .ok (.iaload, 1) := dg_L_law_7.2.2.1.1.2
theorem dL_law_452 : decode cL_law 452 = .ok (.aload_n 0, 1) := dg_L_law_7.2.2.1.2.1
theorem dL_law_453 : decode cL_law 453 = .ok (.iload_n 3, 1) := dg_L_law_7.2.2.1.2.2
theorem dL_law_454 : decode cL_law 454 = .ok (.iconst 3, 1) := dg_L_law_7.2.2.2.1.1
theorem dL_law_455 : decode cL_law 455 = .ok (.iadd, 1) := dg_L_law_7.2.2.2.1.2
theorem dL_law_456 : decode cL_law 456 = .ok (.iaload, 1) := dg_L_law_7.2.2.2.2.1
theorem dL_law_457 : decode cL_law 457 = .ok (.invokevirtual 49, 3) := dg_L_law_7.2.2.2.2.2
set_option maxRecDepth 20000 in
theorem dg_L_law_8 : (((((decode cL_law 460 = .ok (.pop2, 1)) ∧ (decode cL_law 461 = .ok (.goto 912, 3))) ∧ ((decode cL_law 464 = .ok (.aload_n 1, 1)) ∧ (decode cL_law 465 = .ok (.aload_n 0, 1)))) ∧ (((decode cL_law 466 = .ok (.iload_n 3, 1)) ∧ (decode cL_law 467 = .ok (.iconst 1, 1))) ∧ ((decode cL_law 468 = .ok (.iadd, 1)) ∧ (decode cL_law 469 = .ok (.iaload, 1))))) ∧ ((((decode cL_law 470 = .ok (.aload_n 0, 1)) ∧ (decode cL_law 471 = .ok (.iload_n 3, 1))) ∧ ((decode cL_law 472 = .ok (.iconst 2, 1)) ∧ (decode cL_law 473 = .ok (.iadd, 1)))) ∧ (((decode cL_law 474 = .ok (.iaload, 1)) ∧ (decode cL_law 475 = .ok (.aload_n 0, 1))) ∧ ((decode cL_law 476 = .ok (.iload_n 3, 1)) ∧ (decode cL_law 477 = .ok (.iconst 3, 1)))))) ∧ (((((decode cL_law 478 = .ok (.iadd, 1)) ∧ (decode cL_law 479 = .ok (.iaload, 1))) ∧ ((decode cL_law 480 = .ok (.invokevirtual 50, 3)) ∧ (decode cL_law 483 = .ok (.pop, 1)))) ∧ (((decode cL_law 484 = .ok (.aload_n 2, 1)) ∧ (decode cL_law 485 = .ok (.aload_n 0, 1))) ∧ ((decode cL_law 486 = .ok (.iload_n 3, 1)) ∧ (decode cL_law 487 = .ok (.iconst 1, 1))))) ∧ ((((decode cL_law 488 = .ok (.iadd, 1)) ∧ (decode cL_law 489 = .ok (.iaload, 1))) ∧ ((decode cL_law 490 = .ok (.aload_n 0, 1)) ∧ (decode cL_law 491 = .ok (.iload_n 3, 1)))) ∧ (((decode cL_law 492 = .ok (.iconst 2, 1)) ∧ (decode cL_law 493 = .ok (.iadd, 1))) ∧ ((decode cL_law 494 = .ok (.iaload, 1)) ∧ (decode cL_law 495 = .ok (.aload_n 0, 1)))))) := by decide +kernel
theorem dL_law_460 : decode cL_law 460 = .ok (.pop2, 1) := dg_L_law_8.1.1.1.1.1
theorem dL_law_461 : decode cL_law 461 = .ok (.goto 912, 3) := dg_L_law_8.1.1.1.1.2
theorem dL_law_464 : decode cL_law 464 = .ok (.aload_n 1, 1) := dg_L_law_8.1.1.1.2.1
theorem dL_law_465 : decode cL_law 465 = .ok (.aload_n 0, 1) := dg_L_law_8.1.1.1.2.2
theorem dL_law_466 : decode cL_law 466 = .ok (.iload_n 3, 1) := dg_L_law_8.1.1.2.1.1
theorem dL_law_467 : decode cL_law 467 = .ok (.iconst 1, 1) := dg_L_law_8.1.1.2.1.2
theorem dL_law_468 : decode cL_law 468 = .ok (.iadd, 1) := dg_L_law_8.1.1.2.2.1
theorem dL_law_469 : decode cL_law 469 = .ok (.iaload, 1) := dg_L_law_8.1.1.2.2.2
theorem dL_law_470 : decode cL_law 470 = .ok (.aload_n 0, 1) := dg_L_law_8.1.2.1.1.1
theorem dL_law_471 : decode cL_law 471 = .ok (.iload_n 3, 1) := dg_L_law_8.1.2.1.1.2
theorem dL_law_472 : decode cL_law 472 = .ok (.iconst 2, 1) := dg_L_law_8.1.2.1.2.1
theorem dL_law_473 : decode cL_law 473 = .ok (.iadd, 1) := dg_L_law_8.1.2.1.2.2
theorem dL_law_474 : decode cL_law 474 = .ok (.iaload, 1) := dg_L_law_8.1.2.2.1.1
theorem dL_law_475 : decode cL_law 475 = .ok (.aload_n 0, 1) := dg_L_law_8.1.2.2.1.2
theorem dL_law_476 : decode cL_law 476 = .ok (.iload_n 3, 1) := dg_L_law_8.1.2.2.2.1
theorem dL_law_477 : decode cL_law 477 = .ok (.iconst 3, 1) := dg_L_law_8.1.2.2.2.2
theorem dL_law_478 : decode cL_law 478 = .ok (.iadd, 1) := dg_L_law_8.2.1.1.1.1
theorem dL_law_479 : decode cL_law 479 = .ok (.iaload, 1) := dg_L_law_8.2.1.1.1.2
theorem dL_law_480 : decode cL_law 480 = .ok (.invokevirtual 50, 3) := dg_L_law_8.2.1.1.2.1
theorem dL_law_483 : decode cL_law 483 = .ok (.pop, 1) := dg_L_law_8.2.1.1.2.2
theorem dL_law_484 : decode cL_law 484 = .ok (.aload_n 2, 1) := dg_L_law_8.2.1.2.1.1
theorem dL_law_485 : decode cL_law 485 = .ok (.aload_n 0, 1) := dg_L_law_8.2.1.2.1.2
theorem dL_law_486 : decode cL_law 486 = .ok (.iload_n 3, 1) := dg_L_law_8.2.1.2.2.1
theorem dL_law_487 : decode cL_law 487 = .ok (.iconst 1, 1) := dg_L_law_8.2.1.2.2.2
theorem dL_law_488 : decode cL_law 488 = .ok (.iadd, 1) := dg_L_law_8.2.2.1.1.1
theorem dL_law_489 : decode cL_law 489 = .ok (.iaload, 1) := dg_L_law_8.2.2.1.1.2
theorem dL_law_490 : decode cL_law 490 = .ok (.aload_n 0, 1) := dg_L_law_8.2.2.1.2.1
theorem dL_law_491 : decode cL_law 491 = .ok (.iload_n 3, 1) := dg_L_law_8.2.2.1.2.2
theorem dL_law_492 : decode cL_law 492 = .ok (.iconst 2, 1) := dg_L_law_8.2.2.2.1.1
theorem dL_law_493 : decode cL_law 493 = .ok (.iadd, 1) := dg_L_law_8.2.2.2.1.2
theorem dL_law_494 : decode cL_law 494 = .ok (.iaload, 1) := dg_L_law_8.2.2.2.2.1
theorem dL_law_495 : decode cL_law 495 = .ok (.aload_n 0, 1) := dg_L_law_8.2.2.2.2.2
set_option maxRecDepth 20000 in
theorem dg_L_law_9 : (((((decode cL_law 496 = .ok (.iload_n 3, 1)) ∧ (decode cL_law 497 = .ok (.iconst 3, 1))) ∧ ((decode cL_law 498 = .ok (.iadd, 1)) ∧ (decode cL_law 499 = .ok (.iaload, 1)))) ∧ (((decode cL_law 500 = .ok (.invokevirtual 53, 3)) ∧ (decode cL_law 503 = .ok (.pop, 1))) ∧ ((decode cL_law 504 = .ok (.goto 869, 3)) ∧ (decode cL_law 507 = .ok (.aload_n 1, 1))))) ∧ ((((decode cL_law 508 = .ok (.aload_n 0, 1)) ∧ (decode cL_law 509 = .ok (.iload_n 3, 1))) ∧ ((decode cL_law 510 = .ok (.iconst 1, 1)) ∧ (decode cL_law 511 = .ok (.iadd, 1)))) ∧ (((decode cL_law 512 = .ok (.iaload, 1)) ∧ (decode cL_law 513 = .ok (.aload_n 0, 1))) ∧ ((decode cL_law 514 = .ok (.iload_n 3, 1)) ∧ (decode cL_law 515 = .ok (.iconst 2, 1)))))) ∧ (((((decode cL_law 516 = .ok (.iadd, 1)) ∧ (decode cL_law 517 = .ok (.iaload, 1))) ∧ ((decode cL_law 518 = .ok (.invokevirtual 54, 3)) ∧ (decode cL_law 521 = .ok (.pop, 1)))) ∧ (((decode cL_law 522 = .ok (.aload_n 2, 1)) ∧ (decode cL_law 523 = .ok (.aload_n 0, 1))) ∧ ((decode cL_law 524 = .ok (.iload_n 3, 1)) ∧ (decode cL_law 525 = .ok (.iconst 1, 1))))) ∧ ((((decode cL_law 526 = .ok (.iadd, 1)) ∧ (decode cL_law 527 = .ok (.iaload, 1))) ∧ ((decode cL_law 528 = .ok (.aload_n 0, 1)) ∧ (decode cL_law 529 = .ok (.iload_n 3, 1)))) ∧ (((decode cL_law 530 = .ok (.iconst 2, 1)) ∧ (decode cL_law 531 = .ok (.iadd, 1))) ∧ ((decode cL_law 532 = .ok (.iaload, 1)) ∧ (decode cL_law 533 = .ok (.invokevirtual 57, 3)))))) := by decide +kernel
theorem dL_law_496 : decode cL_law 496 = .ok (.iload_n 3, 1) := dg_L_law_9.1.1.1.1.1
theorem dL_law_497 : decode cL_law 497 = .ok (.iconst 3, 1) := dg_L_law_9.1.1.1.1.2
theorem dL_law_498 : decode cL_law 498 = .ok (.iadd, 1) := dg_L_law_9.1.1.1.2.1
theorem dL_law_499 : decode cL_law 499 = .ok (.iaload, 1) := dg_L_law_9.1.1.1.2.2
theorem dL_law_500 : decode cL_law 500 = .ok (.invokevirtual 53, 3) := dg_L_law_9.1.1.2.1.1
theorem dL_law_503 : decode cL_law 503 = .ok (.pop, 1) := dg_L_law_9.1.1.2.1.2
theorem dL_law_504 : decode cL_law 504 = .ok (.goto 869, 3) := dg_L_law_9.1.1.2.2.1
theorem dL_law_507 : decode cL_law 507 = .ok (.aload_n 1, 1) := dg_L_law_9.1.1.2.2.2
theorem dL_law_508 : decode cL_law 508 = .ok (.aload_n 0, 1) := dg_L_law_9.1.2.1.1.1
theorem dL_law_509 : decode cL_law 509 = .ok (.iload_n 3, 1) := dg_L_law_9.1.2.1.1.2
theorem dL_law_510 : decode cL_law 510 = .ok (.iconst 1, 1) := dg_L_law_9.1.2.1.2.1
theorem dL_law_511 : decode cL_law 511 = .ok (.iadd, 1) := dg_L_law_9.1.2.1.2.2
theorem dL_law_512 : decode cL_law 512 = .ok (.iaload, 1) := dg_L_law_9.1.2.2.1.1
theorem dL_law_513 : decode cL_law 513 = .ok (.aload_n 0, 1) := dg_L_law_9.1.2.2.1.2
theorem dL_law_514 : decode cL_law 514 = .ok (.iload_n 3, 1) := dg_L_law_9.1.2.2.2.1
theorem dL_law_515 : decode cL_law 515 = .ok (.iconst 2, 1) := dg_L_law_9.1.2.2.2.2
theorem dL_law_516 : decode cL_law 516 = .ok (.iadd, 1) := dg_L_law_9.2.1.1.1.1
theorem dL_law_517 : decode cL_law 517 = .ok (.iaload, 1) := dg_L_law_9.2.1.1.1.2
theorem dL_law_518 : decode cL_law 518 = .ok (.invokevirtual 54, 3) := dg_L_law_9.2.1.1.2.1
theorem dL_law_521 : decode cL_law 521 = .ok (.pop, 1) := dg_L_law_9.2.1.1.2.2
theorem dL_law_522 : decode cL_law 522 = .ok (.aload_n 2, 1) := dg_L_law_9.2.1.2.1.1
theorem dL_law_523 : decode cL_law 523 = .ok (.aload_n 0, 1) := dg_L_law_9.2.1.2.1.2
theorem dL_law_524 : decode cL_law 524 = .ok (.iload_n 3, 1) := dg_L_law_9.2.1.2.2.1
theorem dL_law_525 : decode cL_law 525 = .ok (.iconst 1, 1) := dg_L_law_9.2.1.2.2.2
theorem dL_law_526 : decode cL_law 526 = .ok (.iadd, 1) := dg_L_law_9.2.2.1.1.1
theorem dL_law_527 : decode cL_law 527 = .ok (.iaload, 1) := dg_L_law_9.2.2.1.1.2
theorem dL_law_528 : decode cL_law 528 = .ok (.aload_n 0, 1) := dg_L_law_9.2.2.1.2.1
theorem dL_law_529 : decode cL_law 529 = .ok (.iload_n 3, 1) := dg_L_law_9.2.2.1.2.2
theorem dL_law_530 : decode cL_law 530 = .ok (.iconst 2, 1) := dg_L_law_9.2.2.2.1.1
theorem dL_law_531 : decode cL_law 531 = .ok (.iadd, 1) := dg_L_law_9.2.2.2.1.2
theorem dL_law_532 : decode cL_law 532 = .ok (.iaload, 1) := dg_L_law_9.2.2.2.2.1
theorem dL_law_533 : decode cL_law 533 = .ok (.invokevirtual 57, 3) := dg_L_law_9.2.2.2.2.2
set_option maxRecDepth 20000 in
theorem dg_L_law_10 : (((((decode cL_law 536 = .ok (.pop, 1)) ∧ (decode cL_law 537 = .ok (.goto 836, 3))) ∧ ((decode cL_law 540 = .ok (.aload_n 1, 1)) ∧ (decode cL_law 541 = .ok (.aload_n 0, 1)))) ∧ (((decode cL_law 542 = .ok (.iload_n 3, 1)) ∧ (decode cL_law 543 = .ok (.iconst 1, 1))) ∧ ((decode cL_law 544 = .ok (.iadd, 1)) ∧ (decode cL_law 545 = .ok (.iaload, 1))))) ∧ ((((decode cL_law 546 = .ok (.aload_n 0, 1)) ∧ (decode cL_law 547 = .ok (.iload_n 3, 1))) ∧ ((decode cL_law 548 = .ok (.iconst 2, 1)) ∧ (decode cL_law 549 = .ok (.iadd, 1)))) ∧ (((decode cL_law 550 = .ok (.iaload, 1)) ∧ (decode cL_law 551 = .ok (.invokevirtual 58, 3))) ∧ ((decode cL_law 554 = .ok (.pop, 1)) ∧ (decode cL_law 555 = .ok (.aload_n 2, 1)))))) ∧ (((((decode cL_law 556 = .ok (.aload_n 0, 1)) ∧ (decode cL_law 557 = .ok (.iload_n 3, 1))) ∧ ((decode cL_law 558 = .ok (.iconst 1, 1)) ∧ (decode cL_law 559 = .ok (.iadd, 1)))) ∧ (((decode cL_law 560 = .ok (.iaload, 1)) ∧ (decode cL_law 561 = .ok (.aload_n 0, 1))) ∧ ((decode cL_law 562 = .ok (.iload_n 3, 1)) ∧ (decode cL_law 563 = .ok (.iconst 2, 1))))) ∧ ((((decode cL_law 564 = .ok (.iadd, 1)) ∧ (decode cL_law 565 = .ok (.iaload, 1))) ∧ ((decode cL_law 566 = .ok (.invokevirtual 61, 3)) ∧ (decode cL_law 569 = .ok (.pop, 1)))) ∧ (((decode cL_law 570 = .ok (.goto 803, 3)) ∧ (decode cL_law 573 = .ok (.aload_n 1, 1))) ∧ ((decode cL_law 574 = .ok (.aload_n 0, 1)) ∧ (decode cL_law 575 = .ok (.iload_n 3, 1)))))) := by decide +kernel
theorem dL_law_536 : decode cL_law 536 = .ok (.pop, 1) := dg_L_law_10.1.1.1.1.1
theorem dL_law_537 : decode cL_law 537 = .ok (.goto 836, 3) := dg_L_law_10.1.1.1.1.2
theorem dL_law_540 : decode cL_law 540 = .ok (.aload_n 1, 1) := dg_L_law_10.1.1.1.2.1
theorem dL_law_541 : decode cL_law 541 = .ok (.aload_n 0, 1) := dg_L_law_10.1.1.1.2.2
theorem dL_law_542 : decode cL_law 542 = .ok (.iload_n 3, 1) := dg_L_law_10.1.1.2.1.1
theorem dL_law_543 : decode cL_law 543 = .ok (.iconst 1, 1) := dg_L_law_10.1.1.2.1.2
theorem dL_law_544 : decode cL_law 544 = .ok (.iadd, 1) := dg_L_law_10.1.1.2.2.1
theorem dL_law_545 : decode cL_law 545 = .ok (.iaload, 1) := dg_L_law_10.1.1.2.2.2
theorem dL_law_546 : decode cL_law 546 = .ok (.aload_n 0, 1) := dg_L_law_10.1.2.1.1.1
theorem dL_law_547 : decode cL_law 547 = .ok (.iload_n 3, 1) := dg_L_law_10.1.2.1.1.2
theorem dL_law_548 : decode cL_law 548 = .ok (.iconst 2, 1) := dg_L_law_10.1.2.1.2.1
theorem dL_law_549 : decode cL_law 549 = .ok (.iadd, 1) := dg_L_law_10.1.2.1.2.2
theorem dL_law_550 : decode cL_law 550 = .ok (.iaload, 1) := dg_L_law_10.1.2.2.1.1
theorem dL_law_551 : decode cL_law 551 = .ok (.invokevirtual 58, 3) := dg_L_law_10.1.2.2.1.2
theorem dL_law_554 : decode cL_law 554 = .ok (.pop, 1) := dg_L_law_10.1.2.2.2.1
theorem dL_law_555 : decode cL_law 555 = .ok (.aload_n 2, 1) := dg_L_law_10.1.2.2.2.2
theorem dL_law_556 : decode cL_law 556 = .ok (.aload_n 0, 1) := dg_L_law_10.2.1.1.1.1
theorem dL_law_557 : decode cL_law 557 = .ok (.iload_n 3, 1) := dg_L_law_10.2.1.1.1.2
theorem dL_law_558 : decode cL_law 558 = .ok (.iconst 1, 1) := dg_L_law_10.2.1.1.2.1
theorem dL_law_559 : decode cL_law 559 = .ok (.iadd, 1) := dg_L_law_10.2.1.1.2.2
theorem dL_law_560 : decode cL_law 560 = .ok (.iaload, 1) := dg_L_law_10.2.1.2.1.1
theorem dL_law_561 : decode cL_law 561 = .ok (.aload_n 0, 1) := dg_L_law_10.2.1.2.1.2
theorem dL_law_562 : decode cL_law 562 = .ok (.iload_n 3, 1) := dg_L_law_10.2.1.2.2.1
theorem dL_law_563 : decode cL_law 563 = .ok (.iconst 2, 1) := dg_L_law_10.2.1.2.2.2
theorem dL_law_564 : decode cL_law 564 = .ok (.iadd, 1) := dg_L_law_10.2.2.1.1.1
theorem dL_law_565 : decode cL_law 565 = .ok (.iaload, 1) := dg_L_law_10.2.2.1.1.2
theorem dL_law_566 : decode cL_law 566 = .ok (.invokevirtual 61, 3) := dg_L_law_10.2.2.1.2.1
theorem dL_law_569 : decode cL_law 569 = .ok (.pop, 1) := dg_L_law_10.2.2.1.2.2
theorem dL_law_570 : decode cL_law 570 = .ok (.goto 803, 3) := dg_L_law_10.2.2.2.1.1
theorem dL_law_573 : decode cL_law 573 = .ok (.aload_n 1, 1) := dg_L_law_10.2.2.2.1.2
theorem dL_law_574 : decode cL_law 574 = .ok (.aload_n 0, 1) := dg_L_law_10.2.2.2.2.1
theorem dL_law_575 : decode cL_law 575 = .ok (.iload_n 3, 1) := dg_L_law_10.2.2.2.2.2
set_option maxRecDepth 20000 in
theorem dg_L_law_11 : (((((decode cL_law 576 = .ok (.iconst 1, 1)) ∧ (decode cL_law 577 = .ok (.iadd, 1))) ∧ ((decode cL_law 578 = .ok (.iaload, 1)) ∧ (decode cL_law 579 = .ok (.aload_n 0, 1)))) ∧ (((decode cL_law 580 = .ok (.iload_n 3, 1)) ∧ (decode cL_law 581 = .ok (.iconst 2, 1))) ∧ ((decode cL_law 582 = .ok (.iadd, 1)) ∧ (decode cL_law 583 = .ok (.iaload, 1))))) ∧ ((((decode cL_law 584 = .ok (.aload_n 0, 1)) ∧ (decode cL_law 585 = .ok (.iload_n 3, 1))) ∧ ((decode cL_law 586 = .ok (.iconst 3, 1)) ∧ (decode cL_law 587 = .ok (.iadd, 1)))) ∧ (((decode cL_law 588 = .ok (.iaload, 1)) ∧ (decode cL_law 589 = .ok (.invokevirtual 62, 3))) ∧ ((decode cL_law 592 = .ok (.pop, 1)) ∧ (decode cL_law 593 = .ok (.aload_n 2, 1)))))) ∧ (((((decode cL_law 594 = .ok (.aload_n 0, 1)) ∧ (decode cL_law 595 = .ok (.iload_n 3, 1))) ∧ ((decode cL_law 596 = .ok (.iconst 1, 1)) ∧ (decode cL_law 597 = .ok (.iadd, 1)))) ∧ (((decode cL_law 598 = .ok (.iaload, 1)) ∧ (decode cL_law 599 = .ok (.aload_n 0, 1))) ∧ ((decode cL_law 600 = .ok (.iload_n 3, 1)) ∧ (decode cL_law 601 = .ok (.iconst 2, 1))))) ∧ ((((decode cL_law 602 = .ok (.iadd, 1)) ∧ (decode cL_law 603 = .ok (.iaload, 1))) ∧ ((decode cL_law 604 = .ok (.aload_n 0, 1)) ∧ (decode cL_law 605 = .ok (.iload_n 3, 1)))) ∧ (((decode cL_law 606 = .ok (.iconst 3, 1)) ∧ (decode cL_law 607 = .ok (.iadd, 1))) ∧ ((decode cL_law 608 = .ok (.iaload, 1)) ∧ (decode cL_law 609 = .ok (.invokevirtual 65, 3)))))) := by decide +kernel
theorem dL_law_576 : decode cL_law 576 = .ok (.iconst 1, 1) := dg_L_law_11.1.1.1.1.1
theorem dL_law_577 : decode cL_law 577 = .ok (.iadd, 1) := dg_L_law_11.1.1.1.1.2
theorem dL_law_578 : decode cL_law 578 = .ok (.iaload, 1) := dg_L_law_11.1.1.1.2.1
theorem dL_law_579 : decode cL_law 579 = .ok (.aload_n 0, 1) := dg_L_law_11.1.1.1.2.2
theorem dL_law_580 : decode cL_law 580 = .ok (.iload_n 3, 1) := dg_L_law_11.1.1.2.1.1
theorem dL_law_581 : decode cL_law 581 = .ok (.iconst 2, 1) := dg_L_law_11.1.1.2.1.2
theorem dL_law_582 : decode cL_law 582 = .ok (.iadd, 1) := dg_L_law_11.1.1.2.2.1
theorem dL_law_583 : decode cL_law 583 = .ok (.iaload, 1) := dg_L_law_11.1.1.2.2.2
theorem dL_law_584 : decode cL_law 584 = .ok (.aload_n 0, 1) := dg_L_law_11.1.2.1.1.1
theorem dL_law_585 : decode cL_law 585 = .ok (.iload_n 3, 1) := dg_L_law_11.1.2.1.1.2
theorem dL_law_586 : decode cL_law 586 = .ok (.iconst 3, 1) := dg_L_law_11.1.2.1.2.1
theorem dL_law_587 : decode cL_law 587 = .ok (.iadd, 1) := dg_L_law_11.1.2.1.2.2
theorem dL_law_588 : decode cL_law 588 = .ok (.iaload, 1) := dg_L_law_11.1.2.2.1.1
theorem dL_law_589 : decode cL_law 589 = .ok (.invokevirtual 62, 3) := dg_L_law_11.1.2.2.1.2
theorem dL_law_592 : decode cL_law 592 = .ok (.pop, 1) := dg_L_law_11.1.2.2.2.1
theorem dL_law_593 : decode cL_law 593 = .ok (.aload_n 2, 1) := dg_L_law_11.1.2.2.2.2
theorem dL_law_594 : decode cL_law 594 = .ok (.aload_n 0, 1) := dg_L_law_11.2.1.1.1.1
theorem dL_law_595 : decode cL_law 595 = .ok (.iload_n 3, 1) := dg_L_law_11.2.1.1.1.2
theorem dL_law_596 : decode cL_law 596 = .ok (.iconst 1, 1) := dg_L_law_11.2.1.1.2.1
theorem dL_law_597 : decode cL_law 597 = .ok (.iadd, 1) := dg_L_law_11.2.1.1.2.2
theorem dL_law_598 : decode cL_law 598 = .ok (.iaload, 1) := dg_L_law_11.2.1.2.1.1
theorem dL_law_599 : decode cL_law 599 = .ok (.aload_n 0, 1) := dg_L_law_11.2.1.2.1.2
theorem dL_law_600 : decode cL_law 600 = .ok (.iload_n 3, 1) := dg_L_law_11.2.1.2.2.1
theorem dL_law_601 : decode cL_law 601 = .ok (.iconst 2, 1) := dg_L_law_11.2.1.2.2.2
theorem dL_law_602 : decode cL_law 602 = .ok (.iadd, 1) := dg_L_law_11.2.2.1.1.1
theorem dL_law_603 : decode cL_law 603 = .ok (.iaload, 1) := dg_L_law_11.2.2.1.1.2
theorem dL_law_604 : decode cL_law 604 = .ok (.aload_n 0, 1) := dg_L_law_11.2.2.1.2.1
theorem dL_law_605 : decode cL_law 605 = .ok (.iload_n 3, 1) := dg_L_law_11.2.2.1.2.2
theorem dL_law_606 : decode cL_law 606 = .ok (.iconst 3, 1) := dg_L_law_11.2.2.2.1.1
theorem dL_law_607 : decode cL_law 607 = .ok (.iadd, 1) := dg_L_law_11.2.2.2.1.2
theorem dL_law_608 : decode cL_law 608 = .ok (.iaload, 1) := dg_L_law_11.2.2.2.2.1
theorem dL_law_609 : decode cL_law 609 = .ok (.invokevirtual 65, 3) := dg_L_law_11.2.2.2.2.2
set_option maxRecDepth 20000 in
theorem dg_L_law_12 : (((((decode cL_law 612 = .ok (.pop, 1)) ∧ (decode cL_law 613 = .ok (.goto 760, 3))) ∧ ((decode cL_law 616 = .ok (.aload_n 1, 1)) ∧ (decode cL_law 617 = .ok (.aload_n 0, 1)))) ∧ (((decode cL_law 618 = .ok (.iload_n 3, 1)) ∧ (decode cL_law 619 = .ok (.iconst 1, 1))) ∧ ((decode cL_law 620 = .ok (.iadd, 1)) ∧ (decode cL_law 621 = .ok (.iaload, 1))))) ∧ ((((decode cL_law 622 = .ok (.aload_n 0, 1)) ∧ (decode cL_law 623 = .ok (.iload_n 3, 1))) ∧ ((decode cL_law 624 = .ok (.iconst 2, 1)) ∧ (decode cL_law 625 = .ok (.iadd, 1)))) ∧ (((decode cL_law 626 = .ok (.iaload, 1)) ∧ (decode cL_law 627 = .ok (.aload_n 0, 1))) ∧ ((decode cL_law 628 = .ok (.iload_n 3, 1)) ∧ (decode cL_law 629 = .ok (.iconst 3, 1)))))) ∧ (((((decode cL_law 630 = .ok (.iadd, 1)) ∧ (decode cL_law 631 = .ok (.iaload, 1))) ∧ ((decode cL_law 632 = .ok (.aload_n 0, 1)) ∧ (decode cL_law 633 = .ok (.iload_n 3, 1)))) ∧ (((decode cL_law 634 = .ok (.iconst 4, 1)) ∧ (decode cL_law 635 = .ok (.iadd, 1))) ∧ ((decode cL_law 636 = .ok (.iaload, 1)) ∧ (decode cL_law 637 = .ok (.aload_n 0, 1))))) ∧ ((((decode cL_law 638 = .ok (.iload_n 3, 1)) ∧ (decode cL_law 639 = .ok (.iconst 5, 1))) ∧ ((decode cL_law 640 = .ok (.iadd, 1)) ∧ (decode cL_law 641 = .ok (.iaload, 1)))) ∧ (((decode cL_law 642 = .ok (.aload_n 0, 1)) ∧ (decode cL_law 643 = .ok (.iload_n 3, 1))) ∧ ((decode cL_law 644 = .ok (.bipush 6, 2)) ∧ (decode cL_law 646 = .ok (.iadd, 1)))))) := by decide +kernel
theorem dL_law_612 : decode cL_law 612 = .ok (.pop, 1) := dg_L_law_12.1.1.1.1.1
theorem dL_law_613 : decode cL_law 613 = .ok (.goto 760, 3) := dg_L_law_12.1.1.1.1.2
theorem dL_law_616 : decode cL_law 616 = .ok (.aload_n 1, 1) := dg_L_law_12.1.1.1.2.1
theorem dL_law_617 : decode cL_law 617 = .ok (.aload_n 0, 1) := dg_L_law_12.1.1.1.2.2
theorem dL_law_618 : decode cL_law 618 = .ok (.iload_n 3, 1) := dg_L_law_12.1.1.2.1.1
theorem dL_law_619 : decode cL_law 619 = .ok (.iconst 1, 1) := dg_L_law_12.1.1.2.1.2
theorem dL_law_620 : decode cL_law 620 = .ok (.iadd, 1) := dg_L_law_12.1.1.2.2.1
theorem dL_law_621 : decode cL_law 621 = .ok (.iaload, 1) := dg_L_law_12.1.1.2.2.2
theorem dL_law_622 : decode cL_law 622 = .ok (.aload_n 0, 1) := dg_L_law_12.1.2.1.1.1
theorem dL_law_623 : decode cL_law 623 = .ok (.iload_n 3, 1) := dg_L_law_12.1.2.1.1.2
theorem dL_law_624 : decode cL_law 624 = .ok (.iconst 2, 1) := dg_L_law_12.1.2.1.2.1
theorem dL_law_625 : decode cL_law 625 = .ok (.iadd, 1) := dg_L_law_12.1.2.1.2.2
theorem dL_law_626 : decode cL_law 626 = .ok (.iaload, 1) := dg_L_law_12.1.2.2.1.1
theorem dL_law_627 : decode cL_law 627 = .ok (.aload_n 0, 1) := dg_L_law_12.1.2.2.1.2
theorem dL_law_628 : decode cL_law 628 = .ok (.iload_n 3, 1) := dg_L_law_12.1.2.2.2.1
theorem dL_law_629 : decode cL_law 629 = .ok (.iconst 3, 1) := dg_L_law_12.1.2.2.2.2
theorem dL_law_630 : decode cL_law 630 = .ok (.iadd, 1) := dg_L_law_12.2.1.1.1.1
theorem dL_law_631 : decode cL_law 631 = .ok (.iaload, 1) := dg_L_law_12.2.1.1.1.2
theorem dL_law_632 : decode cL_law 632 = .ok (.aload_n 0, 1) := dg_L_law_12.2.1.1.2.1
theorem dL_law_633 : decode cL_law 633 = .ok (.iload_n 3, 1) := dg_L_law_12.2.1.1.2.2
theorem dL_law_634 : decode cL_law 634 = .ok (.iconst 4, 1) := dg_L_law_12.2.1.2.1.1
theorem dL_law_635 : decode cL_law 635 = .ok (.iadd, 1) := dg_L_law_12.2.1.2.1.2
theorem dL_law_636 : decode cL_law 636 = .ok (.iaload, 1) := dg_L_law_12.2.1.2.2.1
theorem dL_law_637 : decode cL_law 637 = .ok (.aload_n 0, 1) := dg_L_law_12.2.1.2.2.2
theorem dL_law_638 : decode cL_law 638 = .ok (.iload_n 3, 1) := dg_L_law_12.2.2.1.1.1
theorem dL_law_639 : decode cL_law 639 = .ok (.iconst 5, 1) := dg_L_law_12.2.2.1.1.2
theorem dL_law_640 : decode cL_law 640 = .ok (.iadd, 1) := dg_L_law_12.2.2.1.2.1
theorem dL_law_641 : decode cL_law 641 = .ok (.iaload, 1) := dg_L_law_12.2.2.1.2.2
theorem dL_law_642 : decode cL_law 642 = .ok (.aload_n 0, 1) := dg_L_law_12.2.2.2.1.1
theorem dL_law_643 : decode cL_law 643 = .ok (.iload_n 3, 1) := dg_L_law_12.2.2.2.1.2
theorem dL_law_644 : decode cL_law 644 = .ok (.bipush 6, 2) := dg_L_law_12.2.2.2.2.1
theorem dL_law_646 : decode cL_law 646 = .ok (.iadd, 1) := dg_L_law_12.2.2.2.2.2
set_option maxRecDepth 20000 in
theorem dg_L_law_13 : (((((decode cL_law 647 = .ok (.iaload, 1)) ∧ (decode cL_law 648 = .ok (.aload_n 0, 1))) ∧ ((decode cL_law 649 = .ok (.iload_n 3, 1)) ∧ (decode cL_law 650 = .ok (.bipush 7, 2)))) ∧ (((decode cL_law 652 = .ok (.iadd, 1)) ∧ (decode cL_law 653 = .ok (.iaload, 1))) ∧ ((decode cL_law 654 = .ok (.aload_n 0, 1)) ∧ (decode cL_law 655 = .ok (.iload_n 3, 1))))) ∧ ((((decode cL_law 656 = .ok (.bipush 8, 2)) ∧ (decode cL_law 658 = .ok (.iadd, 1))) ∧ ((decode cL_law 659 = .ok (.iaload, 1)) ∧ (decode cL_law 660 = .ok (.aload_n 0, 1)))) ∧ (((decode cL_law 661 = .ok (.iload_n 3, 1)) ∧ (decode cL_law 662 = .ok (.bipush 9, 2))) ∧ ((decode cL_law 664 = .ok (.iadd, 1)) ∧ (decode cL_law 665 = .ok (.iaload, 1)))))) ∧ (((((decode cL_law 666 = .ok (.invokevirtual 66, 3)) ∧ (decode cL_law 669 = .ok (.pop, 1))) ∧ ((decode cL_law 670 = .ok (.aload_n 2, 1)) ∧ (decode cL_law 671 = .ok (.aload_n 0, 1)))) ∧ (((decode cL_law 672 = .ok (.iload_n 3, 1)) ∧ (decode cL_law 673 = .ok (.iconst 1, 1))) ∧ ((decode cL_law 674 = .ok (.iadd, 1)) ∧ (decode cL_law 675 = .ok (.iaload, 1))))) ∧ ((((decode cL_law 676 = .ok (.aload_n 0, 1)) ∧ (decode cL_law 677 = .ok (.iload_n 3, 1))) ∧ ((decode cL_law 678 = .ok (.iconst 2, 1)) ∧ (decode cL_law 679 = .ok (.iadd, 1)))) ∧ (((decode cL_law 680 = .ok (.iaload, 1)) ∧ (decode cL_law 681 = .ok (.aload_n 0, 1))) ∧ ((decode cL_law 682 = .ok (.iload_n 3, 1)) ∧ (decode cL_law 683 = .ok (.iconst 3, 1)))))) := by decide +kernel
theorem dL_law_647 : decode cL_law 647 = .ok (.iaload, 1) := dg_L_law_13.1.1.1.1.1
theorem dL_law_648 : decode cL_law 648 = .ok (.aload_n 0, 1) := dg_L_law_13.1.1.1.1.2
theorem dL_law_649 : decode cL_law 649 = .ok (.iload_n 3, 1) := dg_L_law_13.1.1.1.2.1
theorem dL_law_650 : decode cL_law 650 = .ok (.bipush 7, 2) := dg_L_law_13.1.1.1.2.2
theorem dL_law_652 : decode cL_law 652 = .ok (.iadd, 1) := dg_L_law_13.1.1.2.1.1
theorem dL_law_653 : decode cL_law 653 = .ok (.iaload, 1) := dg_L_law_13.1.1.2.1.2
theorem dL_law_654 : decode cL_law 654 = .ok (.aload_n 0, 1) := dg_L_law_13.1.1.2.2.1
theorem dL_law_655 : decode cL_law 655 = .ok (.iload_n 3, 1) := dg_L_law_13.1.1.2.2.2
theorem dL_law_656 : decode cL_law 656 = .ok (.bipush 8, 2) := dg_L_law_13.1.2.1.1.1
theorem dL_law_658 : decode cL_law 658 = .ok (.iadd, 1) := dg_L_law_13.1.2.1.1.2
theorem dL_law_659 : decode cL_law 659 = .ok (.iaload, 1) := dg_L_law_13.1.2.1.2.1
theorem dL_law_660 : decode cL_law 660 = .ok (.aload_n 0, 1) := dg_L_law_13.1.2.1.2.2
theorem dL_law_661 : decode cL_law 661 = .ok (.iload_n 3, 1) := dg_L_law_13.1.2.2.1.1
theorem dL_law_662 : decode cL_law 662 = .ok (.bipush 9, 2) := dg_L_law_13.1.2.2.1.2
theorem dL_law_664 : decode cL_law 664 = .ok (.iadd, 1) := dg_L_law_13.1.2.2.2.1
theorem dL_law_665 : decode cL_law 665 = .ok (.iaload, 1) := dg_L_law_13.1.2.2.2.2
theorem dL_law_666 : decode cL_law 666 = .ok (.invokevirtual 66, 3) := dg_L_law_13.2.1.1.1.1
theorem dL_law_669 : decode cL_law 669 = .ok (.pop, 1) := dg_L_law_13.2.1.1.1.2
theorem dL_law_670 : decode cL_law 670 = .ok (.aload_n 2, 1) := dg_L_law_13.2.1.1.2.1
theorem dL_law_671 : decode cL_law 671 = .ok (.aload_n 0, 1) := dg_L_law_13.2.1.1.2.2
theorem dL_law_672 : decode cL_law 672 = .ok (.iload_n 3, 1) := dg_L_law_13.2.1.2.1.1
theorem dL_law_673 : decode cL_law 673 = .ok (.iconst 1, 1) := dg_L_law_13.2.1.2.1.2
theorem dL_law_674 : decode cL_law 674 = .ok (.iadd, 1) := dg_L_law_13.2.1.2.2.1
theorem dL_law_675 : decode cL_law 675 = .ok (.iaload, 1) := dg_L_law_13.2.1.2.2.2
theorem dL_law_676 : decode cL_law 676 = .ok (.aload_n 0, 1) := dg_L_law_13.2.2.1.1.1
theorem dL_law_677 : decode cL_law 677 = .ok (.iload_n 3, 1) := dg_L_law_13.2.2.1.1.2
theorem dL_law_678 : decode cL_law 678 = .ok (.iconst 2, 1) := dg_L_law_13.2.2.1.2.1
theorem dL_law_679 : decode cL_law 679 = .ok (.iadd, 1) := dg_L_law_13.2.2.1.2.2
theorem dL_law_680 : decode cL_law 680 = .ok (.iaload, 1) := dg_L_law_13.2.2.2.1.1
theorem dL_law_681 : decode cL_law 681 = .ok (.aload_n 0, 1) := dg_L_law_13.2.2.2.1.2
theorem dL_law_682 : decode cL_law 682 = .ok (.iload_n 3, 1) := dg_L_law_13.2.2.2.2.1
theorem dL_law_683 : decode cL_law 683 = .ok (.iconst 3, 1) := dg_L_law_13.2.2.2.2.2
set_option maxRecDepth 20000 in
theorem dg_L_law_14 : (((((decode cL_law 684 = .ok (.iadd, 1)) ∧ (decode cL_law 685 = .ok (.iaload, 1))) ∧ ((decode cL_law 686 = .ok (.aload_n 0, 1)) ∧ (decode cL_law 687 = .ok (.iload_n 3, 1)))) ∧ (((decode cL_law 688 = .ok (.iconst 4, 1)) ∧ (decode cL_law 689 = .ok (.iadd, 1))) ∧ ((decode cL_law 690 = .ok (.iaload, 1)) ∧ (decode cL_law 691 = .ok (.aload_n 0, 1))))) ∧ ((((decode cL_law 692 = .ok (.iload_n 3, 1)) ∧ (decode cL_law 693 = .ok (.iconst 5, 1))) ∧ ((decode cL_law 694 = .ok (.iadd, 1)) ∧ (decode cL_law 695 = .ok (.iaload, 1)))) ∧ (((decode cL_law 696 = .ok (.aload_n 0, 1)) ∧ (decode cL_law 697 = .ok (.iload_n 3, 1))) ∧ ((decode cL_law 698 = .ok (.bipush 6, 2)) ∧ (decode cL_law 700 = .ok (.iadd, 1)))))) ∧ (((((decode cL_law 701 = .ok (.iaload, 1)) ∧ (decode cL_law 702 = .ok (.aload_n 0, 1))) ∧ ((decode cL_law 703 = .ok (.iload_n 3, 1)) ∧ (decode cL_law 704 = .ok (.bipush 7, 2)))) ∧ (((decode cL_law 706 = .ok (.iadd, 1)) ∧ (decode cL_law 707 = .ok (.iaload, 1))) ∧ ((decode cL_law 708 = .ok (.aload_n 0, 1)) ∧ (decode cL_law 709 = .ok (.iload_n 3, 1))))) ∧ ((((decode cL_law 710 = .ok (.bipush 8, 2)) ∧ (decode cL_law 712 = .ok (.iadd, 1))) ∧ ((decode cL_law 713 = .ok (.iaload, 1)) ∧ (decode cL_law 714 = .ok (.aload_n 0, 1)))) ∧ (((decode cL_law 715 = .ok (.iload_n 3, 1)) ∧ (decode cL_law 716 = .ok (.bipush 9, 2))) ∧ ((decode cL_law 718 = .ok (.iadd, 1)) ∧ (decode cL_law 719 = .ok (.iaload, 1)))))) := by decide +kernel
theorem dL_law_684 : decode cL_law 684 = .ok (.iadd, 1) := dg_L_law_14.1.1.1.1.1
theorem dL_law_685 : decode cL_law 685 = .ok (.iaload, 1) := dg_L_law_14.1.1.1.1.2
theorem dL_law_686 : decode cL_law 686 = .ok (.aload_n 0, 1) := dg_L_law_14.1.1.1.2.1
theorem dL_law_687 : decode cL_law 687 = .ok (.iload_n 3, 1) := dg_L_law_14.1.1.1.2.2
theorem dL_law_688 : decode cL_law 688 = .ok (.iconst 4, 1) := dg_L_law_14.1.1.2.1.1
theorem dL_law_689 : decode cL_law 689 = .ok (.iadd, 1) := dg_L_law_14.1.1.2.1.2
theorem dL_law_690 : decode cL_law 690 = .ok (.iaload, 1) := dg_L_law_14.1.1.2.2.1
theorem dL_law_691 : decode cL_law 691 = .ok (.aload_n 0, 1) := dg_L_law_14.1.1.2.2.2
theorem dL_law_692 : decode cL_law 692 = .ok (.iload_n 3, 1) := dg_L_law_14.1.2.1.1.1
theorem dL_law_693 : decode cL_law 693 = .ok (.iconst 5, 1) := dg_L_law_14.1.2.1.1.2
theorem dL_law_694 : decode cL_law 694 = .ok (.iadd, 1) := dg_L_law_14.1.2.1.2.1
theorem dL_law_695 : decode cL_law 695 = .ok (.iaload, 1) := dg_L_law_14.1.2.1.2.2
theorem dL_law_696 : decode cL_law 696 = .ok (.aload_n 0, 1) := dg_L_law_14.1.2.2.1.1
theorem dL_law_697 : decode cL_law 697 = .ok (.iload_n 3, 1) := dg_L_law_14.1.2.2.1.2
theorem dL_law_698 : decode cL_law 698 = .ok (.bipush 6, 2) := dg_L_law_14.1.2.2.2.1
theorem dL_law_700 : decode cL_law 700 = .ok (.iadd, 1) := dg_L_law_14.1.2.2.2.2
theorem dL_law_701 : decode cL_law 701 = .ok (.iaload, 1) := dg_L_law_14.2.1.1.1.1
theorem dL_law_702 : decode cL_law 702 = .ok (.aload_n 0, 1) := dg_L_law_14.2.1.1.1.2
theorem dL_law_703 : decode cL_law 703 = .ok (.iload_n 3, 1) := dg_L_law_14.2.1.1.2.1
theorem dL_law_704 : decode cL_law 704 = .ok (.bipush 7, 2) := dg_L_law_14.2.1.1.2.2
theorem dL_law_706 : decode cL_law 706 = .ok (.iadd, 1) := dg_L_law_14.2.1.2.1.1
theorem dL_law_707 : decode cL_law 707 = .ok (.iaload, 1) := dg_L_law_14.2.1.2.1.2
theorem dL_law_708 : decode cL_law 708 = .ok (.aload_n 0, 1) := dg_L_law_14.2.1.2.2.1
theorem dL_law_709 : decode cL_law 709 = .ok (.iload_n 3, 1) := dg_L_law_14.2.1.2.2.2
theorem dL_law_710 : decode cL_law 710 = .ok (.bipush 8, 2) := dg_L_law_14.2.2.1.1.1
theorem dL_law_712 : decode cL_law 712 = .ok (.iadd, 1) := dg_L_law_14.2.2.1.1.2
theorem dL_law_713 : decode cL_law 713 = .ok (.iaload, 1) := dg_L_law_14.2.2.1.2.1
theorem dL_law_714 : decode cL_law 714 = .ok (.aload_n 0, 1) := dg_L_law_14.2.2.1.2.2
theorem dL_law_715 : decode cL_law 715 = .ok (.iload_n 3, 1) := dg_L_law_14.2.2.2.1.1
theorem dL_law_716 : decode cL_law 716 = .ok (.bipush 9, 2) := dg_L_law_14.2.2.2.1.2
theorem dL_law_718 : decode cL_law 718 = .ok (.iadd, 1) := dg_L_law_14.2.2.2.2.1
theorem dL_law_719 : decode cL_law 719 = .ok (.iaload, 1) := dg_L_law_14.2.2.2.2.2
set_option maxRecDepth 20000 in
theorem dg_L_law_15 : (((((decode cL_law 720 = .ok (.invokevirtual 70, 3)) ∧ (decode cL_law 723 = .ok (.pop, 1))) ∧ ((decode cL_law 724 = .ok (.goto 649, 3)) ∧ (decode cL_law 727 = .ok (.aload_n 1, 1)))) ∧ (((decode cL_law 728 = .ok (.aload_n 0, 1)) ∧ (decode cL_law 729 = .ok (.iload_n 3, 1))) ∧ ((decode cL_law 730 = .ok (.iconst 1, 1)) ∧ (decode cL_law 731 = .ok (.iadd, 1))))) ∧ ((((decode cL_law 732 = .ok (.iaload, 1)) ∧ (decode cL_law 733 = .ok (.aload_n 0, 1))) ∧ ((decode cL_law 734 = .ok (.iload_n 3, 1)) ∧ (decode cL_law 735 = .ok (.iconst 2, 1)))) ∧ (((decode cL_law 736 = .ok (.iadd, 1)) ∧ (decode cL_law 737 = .ok (.iaload, 1))) ∧ ((decode cL_law 738 = .ok (.aload_n 0, 1)) ∧ (decode cL_law 739 = .ok (.iload_n 3, 1)))))) ∧ (((((decode cL_law 740 = .ok (.iconst 3, 1)) ∧ (decode cL_law 741 = .ok (.iadd, 1))) ∧ ((decode cL_law 742 = .ok (.iaload, 1)) ∧ (decode cL_law 743 = .ok (.ifCond .eq 7, 3)))) ∧ (((decode cL_law 746 = .ok (.iconst 1, 1)) ∧ (decode cL_law 747 = .ok (.goto 4, 3))) ∧ ((decode cL_law 750 = .ok (.iconst 0, 1)) ∧ (decode cL_law 751 = .ok (.invokevirtual 71, 3))))) ∧ ((((decode cL_law 754 = .ok (.pop, 1)) ∧ (decode cL_law 755 = .ok (.aload_n 2, 1))) ∧ ((decode cL_law 756 = .ok (.aload_n 0, 1)) ∧ (decode cL_law 757 = .ok (.iload_n 3, 1)))) ∧ (((decode cL_law 758 = .ok (.iconst 1, 1)) ∧ (decode cL_law 759 = .ok (.iadd, 1))) ∧ ((decode cL_law 760 = .ok (.iaload, 1)) ∧ (decode cL_law 761 = .ok (.aload_n 0, 1)))))) := by decide +kernel
theorem dL_law_720 : decode cL_law 720 = .ok (.invokevirtual 70, 3) := dg_L_law_15.1.1.1.1.1
theorem dL_law_723 : decode cL_law 723 = .ok (.pop, 1) := dg_L_law_15.1.1.1.1.2
theorem dL_law_724 : decode cL_law 724 = .ok (.goto 649, 3) := dg_L_law_15.1.1.1.2.1
theorem dL_law_727 : decode cL_law 727 = .ok (.aload_n 1, 1) := dg_L_law_15.1.1.1.2.2
theorem dL_law_728 : decode cL_law 728 = .ok (.aload_n 0, 1) := dg_L_law_15.1.1.2.1.1
theorem dL_law_729 : decode cL_law 729 = .ok (.iload_n 3, 1) := dg_L_law_15.1.1.2.1.2
theorem dL_law_730 : decode cL_law 730 = .ok (.iconst 1, 1) := dg_L_law_15.1.1.2.2.1
theorem dL_law_731 : decode cL_law 731 = .ok (.iadd, 1) := dg_L_law_15.1.1.2.2.2
theorem dL_law_732 : decode cL_law 732 = .ok (.iaload, 1) := dg_L_law_15.1.2.1.1.1
theorem dL_law_733 : decode cL_law 733 = .ok (.aload_n 0, 1) := dg_L_law_15.1.2.1.1.2
theorem dL_law_734 : decode cL_law 734 = .ok (.iload_n 3, 1) := dg_L_law_15.1.2.1.2.1
theorem dL_law_735 : decode cL_law 735 = .ok (.iconst 2, 1) := dg_L_law_15.1.2.1.2.2
theorem dL_law_736 : decode cL_law 736 = .ok (.iadd, 1) := dg_L_law_15.1.2.2.1.1
theorem dL_law_737 : decode cL_law 737 = .ok (.iaload, 1) := dg_L_law_15.1.2.2.1.2
theorem dL_law_738 : decode cL_law 738 = .ok (.aload_n 0, 1) := dg_L_law_15.1.2.2.2.1
theorem dL_law_739 : decode cL_law 739 = .ok (.iload_n 3, 1) := dg_L_law_15.1.2.2.2.2
theorem dL_law_740 : decode cL_law 740 = .ok (.iconst 3, 1) := dg_L_law_15.2.1.1.1.1
theorem dL_law_741 : decode cL_law 741 = .ok (.iadd, 1) := dg_L_law_15.2.1.1.1.2
theorem dL_law_742 : decode cL_law 742 = .ok (.iaload, 1) := dg_L_law_15.2.1.1.2.1
theorem dL_law_743 : decode cL_law 743 = .ok (.ifCond .eq 7, 3) := dg_L_law_15.2.1.1.2.2
theorem dL_law_746 : decode cL_law 746 = .ok (.iconst 1, 1) := dg_L_law_15.2.1.2.1.1
theorem dL_law_747 : decode cL_law 747 = .ok (.goto 4, 3) := dg_L_law_15.2.1.2.1.2
theorem dL_law_750 : decode cL_law 750 = .ok (.iconst 0, 1) := dg_L_law_15.2.1.2.2.1
theorem dL_law_751 : decode cL_law 751 = .ok (.invokevirtual 71, 3) := dg_L_law_15.2.1.2.2.2
theorem dL_law_754 : decode cL_law 754 = .ok (.pop, 1) := dg_L_law_15.2.2.1.1.1
theorem dL_law_755 : decode cL_law 755 = .ok (.aload_n 2, 1) := dg_L_law_15.2.2.1.1.2
theorem dL_law_756 : decode cL_law 756 = .ok (.aload_n 0, 1) := dg_L_law_15.2.2.1.2.1
theorem dL_law_757 : decode cL_law 757 = .ok (.iload_n 3, 1) := dg_L_law_15.2.2.1.2.2
theorem dL_law_758 : decode cL_law 758 = .ok (.iconst 1, 1) := dg_L_law_15.2.2.2.1.1
theorem dL_law_759 : decode cL_law 759 = .ok (.iadd, 1) := dg_L_law_15.2.2.2.1.2
theorem dL_law_760 : decode cL_law 760 = .ok (.iaload, 1) := dg_L_law_15.2.2.2.2.1
theorem dL_law_761 : decode cL_law 761 = .ok (.aload_n 0, 1) := dg_L_law_15.2.2.2.2.2
set_option maxRecDepth 20000 in
theorem dg_L_law_16 : (((((decode cL_law 762 = .ok (.iload_n 3, 1)) ∧ (decode cL_law 763 = .ok (.iconst 2, 1))) ∧ ((decode cL_law 764 = .ok (.iadd, 1)) ∧ (decode cL_law 765 = .ok (.iaload, 1)))) ∧ (((decode cL_law 766 = .ok (.aload_n 0, 1)) ∧ (decode cL_law 767 = .ok (.iload_n 3, 1))) ∧ ((decode cL_law 768 = .ok (.iconst 3, 1)) ∧ (decode cL_law 769 = .ok (.iadd, 1))))) ∧ ((((decode cL_law 770 = .ok (.iaload, 1)) ∧ (decode cL_law 771 = .ok (.ifCond .eq 7, 3))) ∧ ((decode cL_law 774 = .ok (.iconst 1, 1)) ∧ (decode cL_law 775 = .ok (.goto 4, 3)))) ∧ (((decode cL_law 778 = .ok (.iconst 0, 1)) ∧ (decode cL_law 779 = .ok (.invokevirtual 75, 3))) ∧ ((decode cL_law 782 = .ok (.pop, 1)) ∧ (decode cL_law 783 = .ok (.goto 590, 3)))))) ∧ (((((decode cL_law 786 = .ok (.aload_n 1, 1)) ∧ (decode cL_law 787 = .ok (.aload_n 0, 1))) ∧ ((decode cL_law 788 = .ok (.iload_n 3, 1)) ∧ (decode cL_law 789 = .ok (.iconst 1, 1)))) ∧ (((decode cL_law 790 = .ok (.iadd, 1)) ∧ (decode cL_law 791 = .ok (.iaload, 1))) ∧ ((decode cL_law 792 = .ok (.aload_n 0, 1)) ∧ (decode cL_law 793 = .ok (.iload_n 3, 1))))) ∧ ((((decode cL_law 794 = .ok (.iconst 2, 1)) ∧ (decode cL_law 795 = .ok (.iadd, 1))) ∧ ((decode cL_law 796 = .ok (.iaload, 1)) ∧ (decode cL_law 797 = .ok (.aload_n 0, 1)))) ∧ (((decode cL_law 798 = .ok (.iload_n 3, 1)) ∧ (decode cL_law 799 = .ok (.iconst 3, 1))) ∧ ((decode cL_law 800 = .ok (.iadd, 1)) ∧ (decode cL_law 801 = .ok (.iaload, 1)))))) := by decide +kernel
theorem dL_law_762 : decode cL_law 762 = .ok (.iload_n 3, 1) := dg_L_law_16.1.1.1.1.1
theorem dL_law_763 : decode cL_law 763 = .ok (.iconst 2, 1) := dg_L_law_16.1.1.1.1.2
theorem dL_law_764 : decode cL_law 764 = .ok (.iadd, 1) := dg_L_law_16.1.1.1.2.1
theorem dL_law_765 : decode cL_law 765 = .ok (.iaload, 1) := dg_L_law_16.1.1.1.2.2
theorem dL_law_766 : decode cL_law 766 = .ok (.aload_n 0, 1) := dg_L_law_16.1.1.2.1.1
theorem dL_law_767 : decode cL_law 767 = .ok (.iload_n 3, 1) := dg_L_law_16.1.1.2.1.2
theorem dL_law_768 : decode cL_law 768 = .ok (.iconst 3, 1) := dg_L_law_16.1.1.2.2.1
theorem dL_law_769 : decode cL_law 769 = .ok (.iadd, 1) := dg_L_law_16.1.1.2.2.2
theorem dL_law_770 : decode cL_law 770 = .ok (.iaload, 1) := dg_L_law_16.1.2.1.1.1
theorem dL_law_771 : decode cL_law 771 = .ok (.ifCond .eq 7, 3) := dg_L_law_16.1.2.1.1.2
theorem dL_law_774 : decode cL_law 774 = .ok (.iconst 1, 1) := dg_L_law_16.1.2.1.2.1
theorem dL_law_775 : decode cL_law 775 = .ok (.goto 4, 3) := dg_L_law_16.1.2.1.2.2
theorem dL_law_778 : decode cL_law 778 = .ok (.iconst 0, 1) := dg_L_law_16.1.2.2.1.1
theorem dL_law_779 : decode cL_law 779 = .ok (.invokevirtual 75, 3) := dg_L_law_16.1.2.2.1.2
theorem dL_law_782 : decode cL_law 782 = .ok (.pop, 1) := dg_L_law_16.1.2.2.2.1
theorem dL_law_783 : decode cL_law 783 = .ok (.goto 590, 3) := dg_L_law_16.1.2.2.2.2
theorem dL_law_786 : decode cL_law 786 = .ok (.aload_n 1, 1) := dg_L_law_16.2.1.1.1.1
theorem dL_law_787 : decode cL_law 787 = .ok (.aload_n 0, 1) := dg_L_law_16.2.1.1.1.2
theorem dL_law_788 : decode cL_law 788 = .ok (.iload_n 3, 1) := dg_L_law_16.2.1.1.2.1
theorem dL_law_789 : decode cL_law 789 = .ok (.iconst 1, 1) := dg_L_law_16.2.1.1.2.2
theorem dL_law_790 : decode cL_law 790 = .ok (.iadd, 1) := dg_L_law_16.2.1.2.1.1
theorem dL_law_791 : decode cL_law 791 = .ok (.iaload, 1) := dg_L_law_16.2.1.2.1.2
theorem dL_law_792 : decode cL_law 792 = .ok (.aload_n 0, 1) := dg_L_law_16.2.1.2.2.1
theorem dL_law_793 : decode cL_law 793 = .ok (.iload_n 3, 1) := dg_L_law_16.2.1.2.2.2
theorem dL_law_794 : decode cL_law 794 = .ok (.iconst 2, 1) := dg_L_law_16.2.2.1.1.1
theorem dL_law_795 : decode cL_law 795 = .ok (.iadd, 1) := dg_L_law_16.2.2.1.1.2
theorem dL_law_796 : decode cL_law 796 = .ok (.iaload, 1) := dg_L_law_16.2.2.1.2.1
theorem dL_law_797 : decode cL_law 797 = .ok (.aload_n 0, 1) := dg_L_law_16.2.2.1.2.2
theorem dL_law_798 : decode cL_law 798 = .ok (.iload_n 3, 1) := dg_L_law_16.2.2.2.1.1
theorem dL_law_799 : decode cL_law 799 = .ok (.iconst 3, 1) := dg_L_law_16.2.2.2.1.2
theorem dL_law_800 : decode cL_law 800 = .ok (.iadd, 1) := dg_L_law_16.2.2.2.2.1
theorem dL_law_801 : decode cL_law 801 = .ok (.iaload, 1) := dg_L_law_16.2.2.2.2.2
set_option maxRecDepth 20000 in
theorem dg_L_law_17 : (((((decode cL_law 802 = .ok (.aload_n 0, 1)) ∧ (decode cL_law 803 = .ok (.iload_n 3, 1))) ∧ ((decode cL_law 804 = .ok (.iconst 4, 1)) ∧ (decode cL_law 805 = .ok (.iadd, 1)))) ∧ (((decode cL_law 806 = .ok (.iaload, 1)) ∧ (decode cL_law 807 = .ok (.invokevirtual 76, 3))) ∧ ((decode cL_law 810 = .ok (.pop, 1)) ∧ (decode cL_law 811 = .ok (.aload_n 2, 1))))) ∧ ((((decode cL_law 812 = .ok (.aload_n 0, 1)) ∧ (decode cL_law 813 = .ok (.iload_n 3, 1))) ∧ ((decode cL_law 814 = .ok (.iconst 1, 1)) ∧ (decode cL_law 815 = .ok (.iadd, 1)))) ∧ (((decode cL_law 816 = .ok (.iaload, 1)) ∧ (decode cL_law 817 = .ok (.aload_n 0, 1))) ∧ ((decode cL_law 818 = .ok (.iload_n 3, 1)) ∧ (decode cL_law 819 = .ok (.iconst 2, 1)))))) ∧ (((((decode cL_law 820 = .ok (.iadd, 1)) ∧ (decode cL_law 821 = .ok (.iaload, 1))) ∧ ((decode cL_law 822 = .ok (.aload_n 0, 1)) ∧ (decode cL_law 823 = .ok (.iload_n 3, 1)))) ∧ (((decode cL_law 824 = .ok (.iconst 3, 1)) ∧ (decode cL_law 825 = .ok (.iadd, 1))) ∧ ((decode cL_law 826 = .ok (.iaload, 1)) ∧ (decode cL_law 827 = .ok (.aload_n 0, 1))))) ∧ ((((decode cL_law 828 = .ok (.iload_n 3, 1)) ∧ (decode cL_law 829 = .ok (.iconst 4, 1))) ∧ ((decode cL_law 830 = .ok (.iadd, 1)) ∧ (decode cL_law 831 = .ok (.iaload, 1)))) ∧ (((decode cL_law 832 = .ok (.invokevirtual 79, 3)) ∧ (decode cL_law 835 = .ok (.pop, 1))) ∧ ((decode cL_law 836 = .ok (.goto 537, 3)) ∧ (decode cL_law 839 = .ok (.aload_n 1, 1)))))) := by decide +kernel
theorem dL_law_802 : decode cL_law 802 = .ok (.aload_n 0, 1) := dg_L_law_17.1.1.1.1.1
theorem dL_law_803 : decode cL_law 803 = .ok (.iload_n 3, 1) := dg_L_law_17.1.1.1.1.2
theorem dL_law_804 : decode cL_law 804 = .ok (.iconst 4, 1) := dg_L_law_17.1.1.1.2.1
theorem dL_law_805 : decode cL_law 805 = .ok (.iadd, 1) := dg_L_law_17.1.1.1.2.2
theorem dL_law_806 : decode cL_law 806 = .ok (.iaload, 1) := dg_L_law_17.1.1.2.1.1
theorem dL_law_807 : decode cL_law 807 = .ok (.invokevirtual 76, 3) := dg_L_law_17.1.1.2.1.2
theorem dL_law_810 : decode cL_law 810 = .ok (.pop, 1) := dg_L_law_17.1.1.2.2.1
theorem dL_law_811 : decode cL_law 811 = .ok (.aload_n 2, 1) := dg_L_law_17.1.1.2.2.2
theorem dL_law_812 : decode cL_law 812 = .ok (.aload_n 0, 1) := dg_L_law_17.1.2.1.1.1
theorem dL_law_813 : decode cL_law 813 = .ok (.iload_n 3, 1) := dg_L_law_17.1.2.1.1.2
theorem dL_law_814 : decode cL_law 814 = .ok (.iconst 1, 1) := dg_L_law_17.1.2.1.2.1
theorem dL_law_815 : decode cL_law 815 = .ok (.iadd, 1) := dg_L_law_17.1.2.1.2.2
theorem dL_law_816 : decode cL_law 816 = .ok (.iaload, 1) := dg_L_law_17.1.2.2.1.1
theorem dL_law_817 : decode cL_law 817 = .ok (.aload_n 0, 1) := dg_L_law_17.1.2.2.1.2
theorem dL_law_818 : decode cL_law 818 = .ok (.iload_n 3, 1) := dg_L_law_17.1.2.2.2.1
theorem dL_law_819 : decode cL_law 819 = .ok (.iconst 2, 1) := dg_L_law_17.1.2.2.2.2
theorem dL_law_820 : decode cL_law 820 = .ok (.iadd, 1) := dg_L_law_17.2.1.1.1.1
theorem dL_law_821 : decode cL_law 821 = .ok (.iaload, 1) := dg_L_law_17.2.1.1.1.2
theorem dL_law_822 : decode cL_law 822 = .ok (.aload_n 0, 1) := dg_L_law_17.2.1.1.2.1
theorem dL_law_823 : decode cL_law 823 = .ok (.iload_n 3, 1) := dg_L_law_17.2.1.1.2.2
theorem dL_law_824 : decode cL_law 824 = .ok (.iconst 3, 1) := dg_L_law_17.2.1.2.1.1
theorem dL_law_825 : decode cL_law 825 = .ok (.iadd, 1) := dg_L_law_17.2.1.2.1.2
theorem dL_law_826 : decode cL_law 826 = .ok (.iaload, 1) := dg_L_law_17.2.1.2.2.1
theorem dL_law_827 : decode cL_law 827 = .ok (.aload_n 0, 1) := dg_L_law_17.2.1.2.2.2
theorem dL_law_828 : decode cL_law 828 = .ok (.iload_n 3, 1) := dg_L_law_17.2.2.1.1.1
theorem dL_law_829 : decode cL_law 829 = .ok (.iconst 4, 1) := dg_L_law_17.2.2.1.1.2
theorem dL_law_830 : decode cL_law 830 = .ok (.iadd, 1) := dg_L_law_17.2.2.1.2.1
theorem dL_law_831 : decode cL_law 831 = .ok (.iaload, 1) := dg_L_law_17.2.2.1.2.2
theorem dL_law_832 : decode cL_law 832 = .ok (.invokevirtual 79, 3) := dg_L_law_17.2.2.2.1.1
theorem dL_law_835 : decode cL_law 835 = .ok (.pop, 1) := dg_L_law_17.2.2.2.1.2
theorem dL_law_836 : decode cL_law 836 = .ok (.goto 537, 3) := dg_L_law_17.2.2.2.2.1
theorem dL_law_839 : decode cL_law 839 = .ok (.aload_n 1, 1) := dg_L_law_17.2.2.2.2.2
set_option maxRecDepth 20000 in
theorem dg_L_law_18 : (((((decode cL_law 840 = .ok (.aload_n 0, 1)) ∧ (decode cL_law 841 = .ok (.iload_n 3, 1))) ∧ ((decode cL_law 842 = .ok (.iconst 1, 1)) ∧ (decode cL_law 843 = .ok (.iadd, 1)))) ∧ (((decode cL_law 844 = .ok (.iaload, 1)) ∧ (decode cL_law 845 = .ok (.invokevirtual 80, 3))) ∧ ((decode cL_law 848 = .ok (.pop, 1)) ∧ (decode cL_law 849 = .ok (.aload_n 2, 1))))) ∧ ((((decode cL_law 850 = .ok (.aload_n 0, 1)) ∧ (decode cL_law 851 = .ok (.iload_n 3, 1))) ∧ ((decode cL_law 852 = .ok (.iconst 1, 1)) ∧ (decode cL_law 853 = .ok (.iadd, 1)))) ∧ (((decode cL_law 854 = .ok (.iaload, 1)) ∧ (decode cL_law 855 = .ok (.invokevirtual 83, 3))) ∧ ((decode cL_law 858 = .ok (.pop, 1)) ∧ (decode cL_law 859 = .ok (.goto 514, 3)))))) ∧ (((((decode cL_law 862 = .ok (.aload_n 1, 1)) ∧ (decode cL_law 863 = .ok (.aload_n 0, 1))) ∧ ((decode cL_law 864 = .ok (.iload_n 3, 1)) ∧ (decode cL_law 865 = .ok (.iconst 1, 1)))) ∧ (((decode cL_law 866 = .ok (.iadd, 1)) ∧ (decode cL_law 867 = .ok (.iaload, 1))) ∧ ((decode cL_law 868 = .ok (.aload_n 0, 1)) ∧ (decode cL_law 869 = .ok (.iload_n 3, 1))))) ∧ ((((decode cL_law 870 = .ok (.iconst 2, 1)) ∧ (decode cL_law 871 = .ok (.iadd, 1))) ∧ ((decode cL_law 872 = .ok (.iaload, 1)) ∧ (decode cL_law 873 = .ok (.invokevirtual 84, 3)))) ∧ (((decode cL_law 876 = .ok (.pop, 1)) ∧ (decode cL_law 877 = .ok (.aload_n 2, 1))) ∧ ((decode cL_law 878 = .ok (.aload_n 0, 1)) ∧ (decode cL_law 879 = .ok (.iload_n 3, 1)))))) := by decide +kernel
theorem dL_law_840 : decode cL_law 840 = .ok (.aload_n 0, 1) := dg_L_law_18.1.1.1.1.1
theorem dL_law_841 : decode cL_law 841 = .ok (.iload_n 3, 1) := dg_L_law_18.1.1.1.1.2
theorem dL_law_842 : decode cL_law 842 = .ok (.iconst 1, 1) := dg_L_law_18.1.1.1.2.1
theorem dL_law_843 : decode cL_law 843 = .ok (.iadd, 1) := dg_L_law_18.1.1.1.2.2
theorem dL_law_844 : decode cL_law 844 = .ok (.iaload, 1) := dg_L_law_18.1.1.2.1.1
theorem dL_law_845 : decode cL_law 845 = .ok (.invokevirtual 80, 3) := dg_L_law_18.1.1.2.1.2
theorem dL_law_848 : decode cL_law 848 = .ok (.pop, 1) := dg_L_law_18.1.1.2.2.1
theorem dL_law_849 : decode cL_law 849 = .ok (.aload_n 2, 1) := dg_L_law_18.1.1.2.2.2
theorem dL_law_850 : decode cL_law 850 = .ok (.aload_n 0, 1) := dg_L_law_18.1.2.1.1.1
theorem dL_law_851 : decode cL_law 851 = .ok (.iload_n 3, 1) := dg_L_law_18.1.2.1.1.2
theorem dL_law_852 : decode cL_law 852 = .ok (.iconst 1, 1) := dg_L_law_18.1.2.1.2.1
theorem dL_law_853 : decode cL_law 853 = .ok (.iadd, 1) := dg_L_law_18.1.2.1.2.2
theorem dL_law_854 : decode cL_law 854 = .ok (.iaload, 1) := dg_L_law_18.1.2.2.1.1
theorem dL_law_855 : decode cL_law 855 = .ok (.invokevirtual 83, 3) := dg_L_law_18.1.2.2.1.2
theorem dL_law_858 : decode cL_law 858 = .ok (.pop, 1) := dg_L_law_18.1.2.2.2.1
theorem dL_law_859 : decode cL_law 859 = .ok (.goto 514, 3) := dg_L_law_18.1.2.2.2.2
theorem dL_law_862 : decode cL_law 862 = .ok (.aload_n 1, 1) := dg_L_law_18.2.1.1.1.1
theorem dL_law_863 : decode cL_law 863 = .ok (.aload_n 0, 1) := dg_L_law_18.2.1.1.1.2
theorem dL_law_864 : decode cL_law 864 = .ok (.iload_n 3, 1) := dg_L_law_18.2.1.1.2.1
theorem dL_law_865 : decode cL_law 865 = .ok (.iconst 1, 1) := dg_L_law_18.2.1.1.2.2
theorem dL_law_866 : decode cL_law 866 = .ok (.iadd, 1) := dg_L_law_18.2.1.2.1.1
theorem dL_law_867 : decode cL_law 867 = .ok (.iaload, 1) := dg_L_law_18.2.1.2.1.2
theorem dL_law_868 : decode cL_law 868 = .ok (.aload_n 0, 1) := dg_L_law_18.2.1.2.2.1
theorem dL_law_869 : decode cL_law 869 = .ok (.iload_n 3, 1) := dg_L_law_18.2.1.2.2.2
theorem dL_law_870 : decode cL_law 870 = .ok (.iconst 2, 1) := dg_L_law_18.2.2.1.1.1
theorem dL_law_871 : decode cL_law 871 = .ok (.iadd, 1) := dg_L_law_18.2.2.1.1.2
theorem dL_law_872 : decode cL_law 872 = .ok (.iaload, 1) := dg_L_law_18.2.2.1.2.1
theorem dL_law_873 : decode cL_law 873 = .ok (.invokevirtual 84, 3) := dg_L_law_18.2.2.1.2.2
theorem dL_law_876 : decode cL_law 876 = .ok (.pop, 1) := dg_L_law_18.2.2.2.1.1
theorem dL_law_877 : decode cL_law 877 = .ok (.aload_n 2, 1) := dg_L_law_18.2.2.2.1.2
theorem dL_law_878 : decode cL_law 878 = .ok (.aload_n 0, 1) := dg_L_law_18.2.2.2.2.1
theorem dL_law_879 : decode cL_law 879 = .ok (.iload_n 3, 1) := dg_L_law_18.2.2.2.2.2
set_option maxRecDepth 20000 in
theorem dg_L_law_19 : (((((decode cL_law 880 = .ok (.iconst 1, 1)) ∧ (decode cL_law 881 = .ok (.iadd, 1))) ∧ ((decode cL_law 882 = .ok (.iaload, 1)) ∧ (decode cL_law 883 = .ok (.aload_n 0, 1)))) ∧ (((decode cL_law 884 = .ok (.iload_n 3, 1)) ∧ (decode cL_law 885 = .ok (.iconst 2, 1))) ∧ ((decode cL_law 886 = .ok (.iadd, 1)) ∧ (decode cL_law 887 = .ok (.iaload, 1))))) ∧ ((((decode cL_law 888 = .ok (.invokevirtual 87, 3)) ∧ (decode cL_law 891 = .ok (.pop, 1))) ∧ ((decode cL_law 892 = .ok (.goto 481, 3)) ∧ (decode cL_law 895 = .ok (.aload_n 1, 1)))) ∧ (((decode cL_law 896 = .ok (.aload_n 0, 1)) ∧ (decode cL_law 897 = .ok (.iload_n 3, 1))) ∧ ((decode cL_law 898 = .ok (.iconst 1, 1)) ∧ (decode cL_law 899 = .ok (.iadd, 1)))))) ∧ (((((decode cL_law 900 = .ok (.iaload, 1)) ∧ (decode cL_law 901 = .ok (.aload_n 0, 1))) ∧ ((decode cL_law 902 = .ok (.iload_n 3, 1)) ∧ (decode cL_law 903 = .ok (.iconst 2, 1)))) ∧ (((decode cL_law 904 = .ok (.iadd, 1)) ∧ (decode cL_law 905 = .ok (.iaload, 1))) ∧ ((decode cL_law 906 = .ok (.invokevirtual 88, 3)) ∧ (decode cL_law 909 = .ok (.pop, 1))))) ∧ ((((decode cL_law 910 = .ok (.aload_n 2, 1)) ∧ (decode cL_law 911 = .ok (.aload_n 0, 1))) ∧ ((decode cL_law 912 = .ok (.iload_n 3, 1)) ∧ (decode cL_law 913 = .ok (.iconst 1, 1)))) ∧ (((decode cL_law 914 = .ok (.iadd, 1)) ∧ (decode cL_law 915 = .ok (.iaload, 1))) ∧ ((decode cL_law 916 = .ok (.aload_n 0, 1)) ∧ (decode cL_law 917 = .ok (.iload_n 3, 1)))))) := by decide +kernel
theorem dL_law_880 : decode cL_law 880 = .ok (.iconst 1, 1) := dg_L_law_19.1.1.1.1.1
theorem dL_law_881 : decode cL_law 881 = .ok (.iadd, 1) := dg_L_law_19.1.1.1.1.2
theorem dL_law_882 : decode cL_law 882 = .ok (.iaload, 1) := dg_L_law_19.1.1.1.2.1
theorem dL_law_883 : decode cL_law 883 = .ok (.aload_n 0, 1) := dg_L_law_19.1.1.1.2.2
theorem dL_law_884 : decode cL_law 884 = .ok (.iload_n 3, 1) := dg_L_law_19.1.1.2.1.1
theorem dL_law_885 : decode cL_law 885 = .ok (.iconst 2, 1) := dg_L_law_19.1.1.2.1.2
theorem dL_law_886 : decode cL_law 886 = .ok (.iadd, 1) := dg_L_law_19.1.1.2.2.1
theorem dL_law_887 : decode cL_law 887 = .ok (.iaload, 1) := dg_L_law_19.1.1.2.2.2
theorem dL_law_888 : decode cL_law 888 = .ok (.invokevirtual 87, 3) := dg_L_law_19.1.2.1.1.1
theorem dL_law_891 : decode cL_law 891 = .ok (.pop, 1) := dg_L_law_19.1.2.1.1.2
theorem dL_law_892 : decode cL_law 892 = .ok (.goto 481, 3) := dg_L_law_19.1.2.1.2.1
theorem dL_law_895 : decode cL_law 895 = .ok (.aload_n 1, 1) := dg_L_law_19.1.2.1.2.2
theorem dL_law_896 : decode cL_law 896 = .ok (.aload_n 0, 1) := dg_L_law_19.1.2.2.1.1
theorem dL_law_897 : decode cL_law 897 = .ok (.iload_n 3, 1) := dg_L_law_19.1.2.2.1.2
theorem dL_law_898 : decode cL_law 898 = .ok (.iconst 1, 1) := dg_L_law_19.1.2.2.2.1
theorem dL_law_899 : decode cL_law 899 = .ok (.iadd, 1) := dg_L_law_19.1.2.2.2.2
theorem dL_law_900 : decode cL_law 900 = .ok (.iaload, 1) := dg_L_law_19.2.1.1.1.1
theorem dL_law_901 : decode cL_law 901 = .ok (.aload_n 0, 1) := dg_L_law_19.2.1.1.1.2
theorem dL_law_902 : decode cL_law 902 = .ok (.iload_n 3, 1) := dg_L_law_19.2.1.1.2.1
theorem dL_law_903 : decode cL_law 903 = .ok (.iconst 2, 1) := dg_L_law_19.2.1.1.2.2
theorem dL_law_904 : decode cL_law 904 = .ok (.iadd, 1) := dg_L_law_19.2.1.2.1.1
theorem dL_law_905 : decode cL_law 905 = .ok (.iaload, 1) := dg_L_law_19.2.1.2.1.2
theorem dL_law_906 : decode cL_law 906 = .ok (.invokevirtual 88, 3) := dg_L_law_19.2.1.2.2.1
theorem dL_law_909 : decode cL_law 909 = .ok (.pop, 1) := dg_L_law_19.2.1.2.2.2
theorem dL_law_910 : decode cL_law 910 = .ok (.aload_n 2, 1) := dg_L_law_19.2.2.1.1.1
theorem dL_law_911 : decode cL_law 911 = .ok (.aload_n 0, 1) := dg_L_law_19.2.2.1.1.2
theorem dL_law_912 : decode cL_law 912 = .ok (.iload_n 3, 1) := dg_L_law_19.2.2.1.2.1
theorem dL_law_913 : decode cL_law 913 = .ok (.iconst 1, 1) := dg_L_law_19.2.2.1.2.2
theorem dL_law_914 : decode cL_law 914 = .ok (.iadd, 1) := dg_L_law_19.2.2.2.1.1
theorem dL_law_915 : decode cL_law 915 = .ok (.iaload, 1) := dg_L_law_19.2.2.2.1.2
theorem dL_law_916 : decode cL_law 916 = .ok (.aload_n 0, 1) := dg_L_law_19.2.2.2.2.1
theorem dL_law_917 : decode cL_law 917 = .ok (.iload_n 3, 1) := dg_L_law_19.2.2.2.2.2
set_option maxRecDepth 20000 in
theorem dg_L_law_20 : (((((decode cL_law 918 = .ok (.iconst 2, 1)) ∧ (decode cL_law 919 = .ok (.iadd, 1))) ∧ ((decode cL_law 920 = .ok (.iaload, 1)) ∧ (decode cL_law 921 = .ok (.invokevirtual 91, 3)))) ∧ (((decode cL_law 924 = .ok (.pop, 1)) ∧ (decode cL_law 925 = .ok (.goto 448, 3))) ∧ ((decode cL_law 928 = .ok (.aload_n 1, 1)) ∧ (decode cL_law 929 = .ok (.aload_n 0, 1))))) ∧ ((((decode cL_law 930 = .ok (.iload_n 3, 1)) ∧ (decode cL_law 931 = .ok (.iconst 1, 1))) ∧ ((decode cL_law 932 = .ok (.iadd, 1)) ∧ (decode cL_law 933 = .ok (.iaload, 1)))) ∧ (((decode cL_law 934 = .ok (.invokevirtual 92, 3)) ∧ (decode cL_law 937 = .ok (.pop, 1))) ∧ ((decode cL_law 938 = .ok (.aload_n 2, 1)) ∧ (decode cL_law 939 = .ok (.aload_n 0, 1)))))) ∧ (((((decode cL_law 940 = .ok (.iload_n 3, 1)) ∧ (decode cL_law 941 = .ok (.iconst 1, 1))) ∧ ((decode cL_law 942 = .ok (.iadd, 1)) ∧ (decode cL_law 943 = .ok (.iaload, 1)))) ∧ (((decode cL_law 944 = .ok (.invokevirtual 95, 3)) ∧ (decode cL_law 947 = .ok (.pop, 1))) ∧ ((decode cL_law 948 = .ok (.goto 425, 3)) ∧ (decode cL_law 951 = .ok (.aload_n 1, 1))))) ∧ ((((decode cL_law 952 = .ok (.aload_n 0, 1)) ∧ (decode cL_law 953 = .ok (.iload_n 3, 1))) ∧ ((decode cL_law 954 = .ok (.iconst 1, 1)) ∧ (decode cL_law 955 = .ok (.iadd, 1)))) ∧ (((decode cL_law 956 = .ok (.iaload, 1)) ∧ (decode cL_law 957 = .ok (.aload_n 0, 1))) ∧ ((decode cL_law 958 = .ok (.iload_n 3, 1)) ∧ (decode cL_law 959 = .ok (.iconst 2, 1)))))) := by decide +kernel
theorem dL_law_918 : decode cL_law 918 = .ok (.iconst 2, 1) := dg_L_law_20.1.1.1.1.1
theorem dL_law_919 : decode cL_law 919 = .ok (.iadd, 1) := dg_L_law_20.1.1.1.1.2
theorem dL_law_920 : decode cL_law 920 = .ok (.iaload, 1) := dg_L_law_20.1.1.1.2.1
theorem dL_law_921 : decode cL_law 921 = .ok (.invokevirtual 91, 3) := dg_L_law_20.1.1.1.2.2
theorem dL_law_924 : decode cL_law 924 = .ok (.pop, 1) := dg_L_law_20.1.1.2.1.1
theorem dL_law_925 : decode cL_law 925 = .ok (.goto 448, 3) := dg_L_law_20.1.1.2.1.2
theorem dL_law_928 : decode cL_law 928 = .ok (.aload_n 1, 1) := dg_L_law_20.1.1.2.2.1
theorem dL_law_929 : decode cL_law 929 = .ok (.aload_n 0, 1) := dg_L_law_20.1.1.2.2.2
theorem dL_law_930 : decode cL_law 930 = .ok (.iload_n 3, 1) := dg_L_law_20.1.2.1.1.1
theorem dL_law_931 : decode cL_law 931 = .ok (.iconst 1, 1) := dg_L_law_20.1.2.1.1.2
theorem dL_law_932 : decode cL_law 932 = .ok (.iadd, 1) := dg_L_law_20.1.2.1.2.1
theorem dL_law_933 : decode cL_law 933 = .ok (.iaload, 1) := dg_L_law_20.1.2.1.2.2
theorem dL_law_934 : decode cL_law 934 = .ok (.invokevirtual 92, 3) := dg_L_law_20.1.2.2.1.1
theorem dL_law_937 : decode cL_law 937 = .ok (.pop, 1) := dg_L_law_20.1.2.2.1.2
theorem dL_law_938 : decode cL_law 938 = .ok (.aload_n 2, 1) := dg_L_law_20.1.2.2.2.1
theorem dL_law_939 : decode cL_law 939 = .ok (.aload_n 0, 1) := dg_L_law_20.1.2.2.2.2
theorem dL_law_940 : decode cL_law 940 = .ok (.iload_n 3, 1) := dg_L_law_20.2.1.1.1.1
theorem dL_law_941 : decode cL_law 941 = .ok (.iconst 1, 1) := dg_L_law_20.2.1.1.1.2
theorem dL_law_942 : decode cL_law 942 = .ok (.iadd, 1) := dg_L_law_20.2.1.1.2.1
theorem dL_law_943 : decode cL_law 943 = .ok (.iaload, 1) := dg_L_law_20.2.1.1.2.2
theorem dL_law_944 : decode cL_law 944 = .ok (.invokevirtual 95, 3) := dg_L_law_20.2.1.2.1.1
theorem dL_law_947 : decode cL_law 947 = .ok (.pop, 1) := dg_L_law_20.2.1.2.1.2
theorem dL_law_948 : decode cL_law 948 = .ok (.goto 425, 3) := dg_L_law_20.2.1.2.2.1
theorem dL_law_951 : decode cL_law 951 = .ok (.aload_n 1, 1) := dg_L_law_20.2.1.2.2.2
theorem dL_law_952 : decode cL_law 952 = .ok (.aload_n 0, 1) := dg_L_law_20.2.2.1.1.1
theorem dL_law_953 : decode cL_law 953 = .ok (.iload_n 3, 1) := dg_L_law_20.2.2.1.1.2
theorem dL_law_954 : decode cL_law 954 = .ok (.iconst 1, 1) := dg_L_law_20.2.2.1.2.1
theorem dL_law_955 : decode cL_law 955 = .ok (.iadd, 1) := dg_L_law_20.2.2.1.2.2
theorem dL_law_956 : decode cL_law 956 = .ok (.iaload, 1) := dg_L_law_20.2.2.2.1.1
theorem dL_law_957 : decode cL_law 957 = .ok (.aload_n 0, 1) := dg_L_law_20.2.2.2.1.2
theorem dL_law_958 : decode cL_law 958 = .ok (.iload_n 3, 1) := dg_L_law_20.2.2.2.2.1
theorem dL_law_959 : decode cL_law 959 = .ok (.iconst 2, 1) := dg_L_law_20.2.2.2.2.2
set_option maxRecDepth 20000 in
theorem dg_L_law_21 : (((((decode cL_law 960 = .ok (.iadd, 1)) ∧ (decode cL_law 961 = .ok (.iaload, 1))) ∧ ((decode cL_law 962 = .ok (.invokevirtual 96, 3)) ∧ (decode cL_law 965 = .ok (.pop, 1)))) ∧ (((decode cL_law 966 = .ok (.aload_n 2, 1)) ∧ (decode cL_law 967 = .ok (.aload_n 0, 1))) ∧ ((decode cL_law 968 = .ok (.iload_n 3, 1)) ∧ (decode cL_law 969 = .ok (.iconst 1, 1))))) ∧ ((((decode cL_law 970 = .ok (.iadd, 1)) ∧ (decode cL_law 971 = .ok (.iaload, 1))) ∧ ((decode cL_law 972 = .ok (.aload_n 0, 1)) ∧ (decode cL_law 973 = .ok (.iload_n 3, 1)))) ∧ (((decode cL_law 974 = .ok (.iconst 2, 1)) ∧ (decode cL_law 975 = .ok (.iadd, 1))) ∧ ((decode cL_law 976 = .ok (.iaload, 1)) ∧ (decode cL_law 977 = .ok (.invokevirtual 99, 3)))))) ∧ (((((decode cL_law 980 = .ok (.pop, 1)) ∧ (decode cL_law 981 = .ok (.goto 392, 3))) ∧ ((decode cL_law 984 = .ok (.aload_n 1, 1)) ∧ (decode cL_law 985 = .ok (.aload_n 0, 1)))) ∧ (((decode cL_law 986 = .ok (.iload_n 3, 1)) ∧ (decode cL_law 987 = .ok (.iconst 1, 1))) ∧ ((decode cL_law 988 = .ok (.iadd, 1)) ∧ (decode cL_law 989 = .ok (.iaload, 1))))) ∧ ((((decode cL_law 990 = .ok (.invokevirtual 100, 3)) ∧ (decode cL_law 993 = .ok (.pop, 1))) ∧ ((decode cL_law 994 = .ok (.aload_n 2, 1)) ∧ (decode cL_law 995 = .ok (.aload_n 0, 1)))) ∧ (((decode cL_law 996 = .ok (.iload_n 3, 1)) ∧ (decode cL_law 997 = .ok (.iconst 1, 1))) ∧ ((decode cL_law 998 = .ok (.iadd, 1)) ∧ (decode cL_law 999 = .ok (.iaload, 1)))))) := by decide +kernel
theorem dL_law_960 : decode cL_law 960 = .ok (.iadd, 1) := dg_L_law_21.1.1.1.1.1
theorem dL_law_961 : decode cL_law 961 = .ok (.iaload, 1) := dg_L_law_21.1.1.1.1.2
theorem dL_law_962 : decode cL_law 962 = .ok (.invokevirtual 96, 3) := dg_L_law_21.1.1.1.2.1
theorem dL_law_965 : decode cL_law 965 = .ok (.pop, 1) := dg_L_law_21.1.1.1.2.2
theorem dL_law_966 : decode cL_law 966 = .ok (.aload_n 2, 1) := dg_L_law_21.1.1.2.1.1
theorem dL_law_967 : decode cL_law 967 = .ok (.aload_n 0, 1) := dg_L_law_21.1.1.2.1.2
theorem dL_law_968 : decode cL_law 968 = .ok (.iload_n 3, 1) := dg_L_law_21.1.1.2.2.1
theorem dL_law_969 : decode cL_law 969 = .ok (.iconst 1, 1) := dg_L_law_21.1.1.2.2.2
theorem dL_law_970 : decode cL_law 970 = .ok (.iadd, 1) := dg_L_law_21.1.2.1.1.1
theorem dL_law_971 : decode cL_law 971 = .ok (.iaload, 1) := dg_L_law_21.1.2.1.1.2
theorem dL_law_972 : decode cL_law 972 = .ok (.aload_n 0, 1) := dg_L_law_21.1.2.1.2.1
theorem dL_law_973 : decode cL_law 973 = .ok (.iload_n 3, 1) := dg_L_law_21.1.2.1.2.2
theorem dL_law_974 : decode cL_law 974 = .ok (.iconst 2, 1) := dg_L_law_21.1.2.2.1.1
theorem dL_law_975 : decode cL_law 975 = .ok (.iadd, 1) := dg_L_law_21.1.2.2.1.2
theorem dL_law_976 : decode cL_law 976 = .ok (.iaload, 1) := dg_L_law_21.1.2.2.2.1
theorem dL_law_977 : decode cL_law 977 = .ok (.invokevirtual 99, 3) := dg_L_law_21.1.2.2.2.2
theorem dL_law_980 : decode cL_law 980 = .ok (.pop, 1) := dg_L_law_21.2.1.1.1.1
theorem dL_law_981 : decode cL_law 981 = .ok (.goto 392, 3) := dg_L_law_21.2.1.1.1.2
theorem dL_law_984 : decode cL_law 984 = .ok (.aload_n 1, 1) := dg_L_law_21.2.1.1.2.1
theorem dL_law_985 : decode cL_law 985 = .ok (.aload_n 0, 1) := dg_L_law_21.2.1.1.2.2
theorem dL_law_986 : decode cL_law 986 = .ok (.iload_n 3, 1) := dg_L_law_21.2.1.2.1.1
theorem dL_law_987 : decode cL_law 987 = .ok (.iconst 1, 1) := dg_L_law_21.2.1.2.1.2
theorem dL_law_988 : decode cL_law 988 = .ok (.iadd, 1) := dg_L_law_21.2.1.2.2.1
theorem dL_law_989 : decode cL_law 989 = .ok (.iaload, 1) := dg_L_law_21.2.1.2.2.2
theorem dL_law_990 : decode cL_law 990 = .ok (.invokevirtual 100, 3) := dg_L_law_21.2.2.1.1.1
theorem dL_law_993 : decode cL_law 993 = .ok (.pop, 1) := dg_L_law_21.2.2.1.1.2
theorem dL_law_994 : decode cL_law 994 = .ok (.aload_n 2, 1) := dg_L_law_21.2.2.1.2.1
theorem dL_law_995 : decode cL_law 995 = .ok (.aload_n 0, 1) := dg_L_law_21.2.2.1.2.2
theorem dL_law_996 : decode cL_law 996 = .ok (.iload_n 3, 1) := dg_L_law_21.2.2.2.1.1
theorem dL_law_997 : decode cL_law 997 = .ok (.iconst 1, 1) := dg_L_law_21.2.2.2.1.2
theorem dL_law_998 : decode cL_law 998 = .ok (.iadd, 1) := dg_L_law_21.2.2.2.2.1
theorem dL_law_999 : decode cL_law 999 = .ok (.iaload, 1) := dg_L_law_21.2.2.2.2.2
set_option maxRecDepth 20000 in
theorem dg_L_law_22 : (((((decode cL_law 1000 = .ok (.invokevirtual 103, 3)) ∧ (decode cL_law 1003 = .ok (.pop, 1))) ∧ ((decode cL_law 1004 = .ok (.goto 369, 3)) ∧ (decode cL_law 1007 = .ok (.aload_n 1, 1)))) ∧ (((decode cL_law 1008 = .ok (.aload_n 0, 1)) ∧ (decode cL_law 1009 = .ok (.iload_n 3, 1))) ∧ ((decode cL_law 1010 = .ok (.iconst 1, 1)) ∧ (decode cL_law 1011 = .ok (.iadd, 1))))) ∧ ((((decode cL_law 1012 = .ok (.iaload, 1)) ∧ (decode cL_law 1013 = .ok (.aload_n 0, 1))) ∧ ((decode cL_law 1014 = .ok (.iload_n 3, 1)) ∧ (decode cL_law 1015 = .ok (.iconst 2, 1)))) ∧ (((decode cL_law 1016 = .ok (.iadd, 1)) ∧ (decode cL_law 1017 = .ok (.iaload, 1))) ∧ ((decode cL_law 1018 = .ok (.invokevirtual 104, 3)) ∧ (decode cL_law 1021 = .ok (.pop, 1)))))) ∧ (((((decode cL_law 1022 = .ok (.aload_n 2, 1)) ∧ (decode cL_law 1023 = .ok (.aload_n 0, 1))) ∧ ((decode cL_law 1024 = .ok (.iload_n 3, 1)) ∧ (decode cL_law 1025 = .ok (.iconst 1, 1)))) ∧ (((decode cL_law 1026 = .ok (.iadd, 1)) ∧ (decode cL_law 1027 = .ok (.iaload, 1))) ∧ ((decode cL_law 1028 = .ok (.aload_n 0, 1)) ∧ (decode cL_law 1029 = .ok (.iload_n 3, 1))))) ∧ ((((decode cL_law 1030 = .ok (.iconst 2, 1)) ∧ (decode cL_law 1031 = .ok (.iadd, 1))) ∧ ((decode cL_law 1032 = .ok (.iaload, 1)) ∧ (decode cL_law 1033 = .ok (.invokevirtual 107, 3)))) ∧ (((decode cL_law 1036 = .ok (.pop, 1)) ∧ (decode cL_law 1037 = .ok (.goto 336, 3))) ∧ ((decode cL_law 1040 = .ok (.aload_n 1, 1)) ∧ (decode cL_law 1041 = .ok (.aload_n 0, 1)))))) := by decide +kernel
theorem dL_law_1000 : decode cL_law 1000 = .ok (.invokevirtual 103, 3) := dg_L_law_22.1.1.1.1.1
theorem dL_law_1003 : decode cL_law 1003 = .ok (.pop, 1) := dg_L_law_22.1.1.1.1.2
theorem dL_law_1004 : decode cL_law 1004 = .ok (.goto 369, 3) := dg_L_law_22.1.1.1.2.1
theorem dL_law_1007 : decode cL_law 1007 = .ok (.aload_n 1, 1) := dg_L_law_22.1.1.1.2.2
theorem dL_law_1008 : decode cL_law 1008 = .ok (.aload_n 0, 1) := dg_L_law_22.1.1.2.1.1
theorem dL_law_1009 : decode cL_law 1009 = .ok (.iload_n 3, 1) := dg_L_law_22.1.1.2.1.2
theorem dL_law_1010 : decode cL_law 1010 = .ok (.iconst 1, 1) := dg_L_law_22.1.1.2.2.1
theorem dL_law_1011 : decode cL_law 1011 = .ok (.iadd, 1) := dg_L_law_22.1.1.2.2.2
theorem dL_law_1012 : decode cL_law 1012 = .ok (.iaload, 1) := dg_L_law_22.1.2.1.1.1
theorem dL_law_1013 : decode cL_law 1013 = .ok (.aload_n 0, 1) := dg_L_law_22.1.2.1.1.2
theorem dL_law_1014 : decode cL_law 1014 = .ok (.iload_n 3, 1) := dg_L_law_22.1.2.1.2.1
theorem dL_law_1015 : decode cL_law 1015 = .ok (.iconst 2, 1) := dg_L_law_22.1.2.1.2.2
theorem dL_law_1016 : decode cL_law 1016 = .ok (.iadd, 1) := dg_L_law_22.1.2.2.1.1
theorem dL_law_1017 : decode cL_law 1017 = .ok (.iaload, 1) := dg_L_law_22.1.2.2.1.2
theorem dL_law_1018 : decode cL_law 1018 = .ok (.invokevirtual 104, 3) := dg_L_law_22.1.2.2.2.1
theorem dL_law_1021 : decode cL_law 1021 = .ok (.pop, 1) := dg_L_law_22.1.2.2.2.2
theorem dL_law_1022 : decode cL_law 1022 = .ok (.aload_n 2, 1) := dg_L_law_22.2.1.1.1.1
theorem dL_law_1023 : decode cL_law 1023 = .ok (.aload_n 0, 1) := dg_L_law_22.2.1.1.1.2
theorem dL_law_1024 : decode cL_law 1024 = .ok (.iload_n 3, 1) := dg_L_law_22.2.1.1.2.1
theorem dL_law_1025 : decode cL_law 1025 = .ok (.iconst 1, 1) := dg_L_law_22.2.1.1.2.2
theorem dL_law_1026 : decode cL_law 1026 = .ok (.iadd, 1) := dg_L_law_22.2.1.2.1.1
theorem dL_law_1027 : decode cL_law 1027 = .ok (.iaload, 1) := dg_L_law_22.2.1.2.1.2
theorem dL_law_1028 : decode cL_law 1028 = .ok (.aload_n 0, 1) := dg_L_law_22.2.1.2.2.1
theorem dL_law_1029 : decode cL_law 1029 = .ok (.iload_n 3, 1) := dg_L_law_22.2.1.2.2.2
theorem dL_law_1030 : decode cL_law 1030 = .ok (.iconst 2, 1) := dg_L_law_22.2.2.1.1.1
theorem dL_law_1031 : decode cL_law 1031 = .ok (.iadd, 1) := dg_L_law_22.2.2.1.1.2
theorem dL_law_1032 : decode cL_law 1032 = .ok (.iaload, 1) := dg_L_law_22.2.2.1.2.1
theorem dL_law_1033 : decode cL_law 1033 = .ok (.invokevirtual 107, 3) := dg_L_law_22.2.2.1.2.2
theorem dL_law_1036 : decode cL_law 1036 = .ok (.pop, 1) := dg_L_law_22.2.2.2.1.1
theorem dL_law_1037 : decode cL_law 1037 = .ok (.goto 336, 3) := dg_L_law_22.2.2.2.1.2
theorem dL_law_1040 : decode cL_law 1040 = .ok (.aload_n 1, 1) := dg_L_law_22.2.2.2.2.1
theorem dL_law_1041 : decode cL_law 1041 = .ok (.aload_n 0, 1) := dg_L_law_22.2.2.2.2.2
set_option maxRecDepth 20000 in
theorem dg_L_law_23 : (((((decode cL_law 1042 = .ok (.iload_n 3, 1)) ∧ (decode cL_law 1043 = .ok (.iconst 1, 1))) ∧ ((decode cL_law 1044 = .ok (.iadd, 1)) ∧ (decode cL_law 1045 = .ok (.iaload, 1)))) ∧ (((decode cL_law 1046 = .ok (.aload_n 0, 1)) ∧ (decode cL_law 1047 = .ok (.iload_n 3, 1))) ∧ ((decode cL_law 1048 = .ok (.iconst 2, 1)) ∧ (decode cL_law 1049 = .ok (.iadd, 1))))) ∧ ((((decode cL_law 1050 = .ok (.iaload, 1)) ∧ (decode cL_law 1051 = .ok (.invokevirtual 108, 3))) ∧ ((decode cL_law 1054 = .ok (.pop, 1)) ∧ (decode cL_law 1055 = .ok (.aload_n 2, 1)))) ∧ (((decode cL_law 1056 = .ok (.aload_n 0, 1)) ∧ (decode cL_law 1057 = .ok (.iload_n 3, 1))) ∧ ((decode cL_law 1058 = .ok (.iconst 1, 1)) ∧ (decode cL_law 1059 = .ok (.iadd, 1)))))) ∧ (((((decode cL_law 1060 = .ok (.iaload, 1)) ∧ (decode cL_law 1061 = .ok (.aload_n 0, 1))) ∧ ((decode cL_law 1062 = .ok (.iload_n 3, 1)) ∧ (decode cL_law 1063 = .ok (.iconst 2, 1)))) ∧ (((decode cL_law 1064 = .ok (.iadd, 1)) ∧ (decode cL_law 1065 = .ok (.iaload, 1))) ∧ ((decode cL_law 1066 = .ok (.invokevirtual 111, 3)) ∧ (decode cL_law 1069 = .ok (.pop, 1))))) ∧ ((((decode cL_law 1070 = .ok (.goto 303, 3)) ∧ (decode cL_law 1073 = .ok (.aload_n 1, 1))) ∧ ((decode cL_law 1074 = .ok (.aload_n 0, 1)) ∧ (decode cL_law 1075 = .ok (.iload_n 3, 1)))) ∧ (((decode cL_law 1076 = .ok (.iconst 1, 1)) ∧ (decode cL_law 1077 = .ok (.iadd, 1))) ∧ ((decode cL_law 1078 = .ok (.iaload, 1)) ∧ (decode cL_law 1079 = .ok (.aload_n 0, 1)))))) := by decide +kernel
theorem dL_law_1042 : decode cL_law 1042 = .ok (.iload_n 3, 1) := dg_L_law_23.1.1.1.1.1
theorem dL_law_1043 : decode cL_law 1043 = .ok (.iconst 1, 1) := dg_L_law_23.1.1.1.1.2
theorem dL_law_1044 : decode cL_law 1044 = .ok (.iadd, 1) := dg_L_law_23.1.1.1.2.1
theorem dL_law_1045 : decode cL_law 1045 = .ok (.iaload, 1) := dg_L_law_23.1.1.1.2.2
theorem dL_law_1046 : decode cL_law 1046 = .ok (.aload_n 0, 1) := dg_L_law_23.1.1.2.1.1
theorem dL_law_1047 : decode cL_law 1047 = .ok (.iload_n 3, 1) := dg_L_law_23.1.1.2.1.2
theorem dL_law_1048 : decode cL_law 1048 = .ok (.iconst 2, 1) := dg_L_law_23.1.1.2.2.1
theorem dL_law_1049 : decode cL_law 1049 = .ok (.iadd, 1) := dg_L_law_23.1.1.2.2.2
theorem dL_law_1050 : decode cL_law 1050 = .ok (.iaload, 1) := dg_L_law_23.1.2.1.1.1
theorem dL_law_1051 : decode cL_law 1051 = .ok (.invokevirtual 108, 3) := dg_L_law_23.1.2.1.1.2
theorem dL_law_1054 : decode cL_law 1054 = .ok (.pop, 1) := dg_L_law_23.1.2.1.2.1
theorem dL_law_1055 : decode cL_law 1055 = .ok (.aload_n 2, 1) := dg_L_law_23.1.2.1.2.2
theorem dL_law_1056 : decode cL_law 1056 = .ok (.aload_n 0, 1) := dg_L_law_23.1.2.2.1.1
theorem dL_law_1057 : decode cL_law 1057 = .ok (.iload_n 3, 1) := dg_L_law_23.1.2.2.1.2
theorem dL_law_1058 : decode cL_law 1058 = .ok (.iconst 1, 1) := dg_L_law_23.1.2.2.2.1
theorem dL_law_1059 : decode cL_law 1059 = .ok (.iadd, 1) := dg_L_law_23.1.2.2.2.2
theorem dL_law_1060 : decode cL_law 1060 = .ok (.iaload, 1) := dg_L_law_23.2.1.1.1.1
theorem dL_law_1061 : decode cL_law 1061 = .ok (.aload_n 0, 1) := dg_L_law_23.2.1.1.1.2
theorem dL_law_1062 : decode cL_law 1062 = .ok (.iload_n 3, 1) := dg_L_law_23.2.1.1.2.1
theorem dL_law_1063 : decode cL_law 1063 = .ok (.iconst 2, 1) := dg_L_law_23.2.1.1.2.2
theorem dL_law_1064 : decode cL_law 1064 = .ok (.iadd, 1) := dg_L_law_23.2.1.2.1.1
theorem dL_law_1065 : decode cL_law 1065 = .ok (.iaload, 1) := dg_L_law_23.2.1.2.1.2
theorem dL_law_1066 : decode cL_law 1066 = .ok (.invokevirtual 111, 3) := dg_L_law_23.2.1.2.2.1
theorem dL_law_1069 : decode cL_law 1069 = .ok (.pop, 1) := dg_L_law_23.2.1.2.2.2
theorem dL_law_1070 : decode cL_law 1070 = .ok (.goto 303, 3) := dg_L_law_23.2.2.1.1.1
theorem dL_law_1073 : decode cL_law 1073 = .ok (.aload_n 1, 1) := dg_L_law_23.2.2.1.1.2
theorem dL_law_1074 : decode cL_law 1074 = .ok (.aload_n 0, 1) := dg_L_law_23.2.2.1.2.1
theorem dL_law_1075 : decode cL_law 1075 = .ok (.iload_n 3, 1) := dg_L_law_23.2.2.1.2.2
theorem dL_law_1076 : decode cL_law 1076 = .ok (.iconst 1, 1) := dg_L_law_23.2.2.2.1.1
theorem dL_law_1077 : decode cL_law 1077 = .ok (.iadd, 1) := dg_L_law_23.2.2.2.1.2
theorem dL_law_1078 : decode cL_law 1078 = .ok (.iaload, 1) := dg_L_law_23.2.2.2.2.1
theorem dL_law_1079 : decode cL_law 1079 = .ok (.aload_n 0, 1) := dg_L_law_23.2.2.2.2.2
set_option maxRecDepth 20000 in
theorem dg_L_law_24 : (((((decode cL_law 1080 = .ok (.iload_n 3, 1)) ∧ (decode cL_law 1081 = .ok (.iconst 2, 1))) ∧ ((decode cL_law 1082 = .ok (.iadd, 1)) ∧ (decode cL_law 1083 = .ok (.iaload, 1)))) ∧ (((decode cL_law 1084 = .ok (.aload_n 0, 1)) ∧ (decode cL_law 1085 = .ok (.iload_n 3, 1))) ∧ ((decode cL_law 1086 = .ok (.iconst 3, 1)) ∧ (decode cL_law 1087 = .ok (.iadd, 1))))) ∧ ((((decode cL_law 1088 = .ok (.iaload, 1)) ∧ (decode cL_law 1089 = .ok (.aload_n 0, 1))) ∧ ((decode cL_law 1090 = .ok (.iload_n 3, 1)) ∧ (decode cL_law 1091 = .ok (.iconst 4, 1)))) ∧ (((decode cL_law 1092 = .ok (.iadd, 1)) ∧ (decode cL_law 1093 = .ok (.iaload, 1))) ∧ ((decode cL_law 1094 = .ok (.invokevirtual 112, 3)) ∧ (decode cL_law 1097 = .ok (.pop, 1)))))) ∧ (((((decode cL_law 1098 = .ok (.aload_n 2, 1)) ∧ (decode cL_law 1099 = .ok (.aload_n 0, 1))) ∧ ((decode cL_law 1100 = .ok (.iload_n 3, 1)) ∧ (decode cL_law 1101 = .ok (.iconst 1, 1)))) ∧ (((decode cL_law 1102 = .ok (.iadd, 1)) ∧ (decode cL_law 1103 = .ok (.iaload, 1))) ∧ ((decode cL_law 1104 = .ok (.aload_n 0, 1)) ∧ (decode cL_law 1105 = .ok (.iload_n 3, 1))))) ∧ ((((decode cL_law 1106 = .ok (.iconst 2, 1)) ∧ (decode cL_law 1107 = .ok (.iadd, 1))) ∧ ((decode cL_law 1108 = .ok (.iaload, 1)) ∧ (decode cL_law 1109 = .ok (.aload_n 0, 1)))) ∧ (((decode cL_law 1110 = .ok (.iload_n 3, 1)) ∧ (decode cL_law 1111 = .ok (.iconst 3, 1))) ∧ ((decode cL_law 1112 = .ok (.iadd, 1)) ∧ (decode cL_law 1113 = .ok (.iaload, 1)))))) := by decide +kernel
theorem dL_law_1080 : decode cL_law 1080 = .ok (.iload_n 3, 1) := dg_L_law_24.1.1.1.1.1
theorem dL_law_1081 : decode cL_law 1081 = .ok (.iconst 2, 1) := dg_L_law_24.1.1.1.1.2
theorem dL_law_1082 : decode cL_law 1082 = .ok (.iadd, 1) := dg_L_law_24.1.1.1.2.1
theorem dL_law_1083 : decode cL_law 1083 = .ok (.iaload, 1) := dg_L_law_24.1.1.1.2.2
theorem dL_law_1084 : decode cL_law 1084 = .ok (.aload_n 0, 1) := dg_L_law_24.1.1.2.1.1
theorem dL_law_1085 : decode cL_law 1085 = .ok (.iload_n 3, 1) := dg_L_law_24.1.1.2.1.2
theorem dL_law_1086 : decode cL_law 1086 = .ok (.iconst 3, 1) := dg_L_law_24.1.1.2.2.1
theorem dL_law_1087 : decode cL_law 1087 = .ok (.iadd, 1) := dg_L_law_24.1.1.2.2.2
theorem dL_law_1088 : decode cL_law 1088 = .ok (.iaload, 1) := dg_L_law_24.1.2.1.1.1
theorem dL_law_1089 : decode cL_law 1089 = .ok (.aload_n 0, 1) := dg_L_law_24.1.2.1.1.2
theorem dL_law_1090 : decode cL_law 1090 = .ok (.iload_n 3, 1) := dg_L_law_24.1.2.1.2.1
theorem dL_law_1091 : decode cL_law 1091 = .ok (.iconst 4, 1) := dg_L_law_24.1.2.1.2.2
theorem dL_law_1092 : decode cL_law 1092 = .ok (.iadd, 1) := dg_L_law_24.1.2.2.1.1
theorem dL_law_1093 : decode cL_law 1093 = .ok (.iaload, 1) := dg_L_law_24.1.2.2.1.2
theorem dL_law_1094 : decode cL_law 1094 = .ok (.invokevirtual 112, 3) := dg_L_law_24.1.2.2.2.1
theorem dL_law_1097 : decode cL_law 1097 = .ok (.pop, 1) := dg_L_law_24.1.2.2.2.2
theorem dL_law_1098 : decode cL_law 1098 = .ok (.aload_n 2, 1) := dg_L_law_24.2.1.1.1.1
theorem dL_law_1099 : decode cL_law 1099 = .ok (.aload_n 0, 1) := dg_L_law_24.2.1.1.1.2
theorem dL_law_1100 : decode cL_law 1100 = .ok (.iload_n 3, 1) := dg_L_law_24.2.1.1.2.1
theorem dL_law_1101 : decode cL_law 1101 = .ok (.iconst 1, 1) := dg_L_law_24.2.1.1.2.2
theorem dL_law_1102 : decode cL_law 1102 = .ok (.iadd, 1) := dg_L_law_24.2.1.2.1.1
theorem dL_law_1103 : decode cL_law 1103 = .ok (.iaload, 1) := dg_L_law_24.2.1.2.1.2
theorem dL_law_1104 : decode cL_law 1104 = .ok (.aload_n 0, 1) := dg_L_law_24.2.1.2.2.1
theorem dL_law_1105 : decode cL_law 1105 = .ok (.iload_n 3, 1) := dg_L_law_24.2.1.2.2.2
theorem dL_law_1106 : decode cL_law 1106 = .ok (.iconst 2, 1) := dg_L_law_24.2.2.1.1.1
theorem dL_law_1107 : decode cL_law 1107 = .ok (.iadd, 1) := dg_L_law_24.2.2.1.1.2
theorem dL_law_1108 : decode cL_law 1108 = .ok (.iaload, 1) := dg_L_law_24.2.2.1.2.1
theorem dL_law_1109 : decode cL_law 1109 = .ok (.aload_n 0, 1) := dg_L_law_24.2.2.1.2.2
theorem dL_law_1110 : decode cL_law 1110 = .ok (.iload_n 3, 1) := dg_L_law_24.2.2.2.1.1
theorem dL_law_1111 : decode cL_law 1111 = .ok (.iconst 3, 1) := dg_L_law_24.2.2.2.1.2
theorem dL_law_1112 : decode cL_law 1112 = .ok (.iadd, 1) := dg_L_law_24.2.2.2.2.1
theorem dL_law_1113 : decode cL_law 1113 = .ok (.iaload, 1) := dg_L_law_24.2.2.2.2.2
set_option maxRecDepth 20000 in
theorem dg_L_law_25 : (((((decode cL_law 1114 = .ok (.aload_n 0, 1)) ∧ (decode cL_law 1115 = .ok (.iload_n 3, 1))) ∧ ((decode cL_law 1116 = .ok (.iconst 4, 1)) ∧ (decode cL_law 1117 = .ok (.iadd, 1)))) ∧ (((decode cL_law 1118 = .ok (.iaload, 1)) ∧ (decode cL_law 1119 = .ok (.invokevirtual 115, 3))) ∧ ((decode cL_law 1122 = .ok (.pop, 1)) ∧ (decode cL_law 1123 = .ok (.goto 250, 3))))) ∧ ((((decode cL_law 1126 = .ok (.aload_n 1, 1)) ∧ (decode cL_law 1127 = .ok (.aload_n 0, 1))) ∧ ((decode cL_law 1128 = .ok (.iload_n 3, 1)) ∧ (decode cL_law 1129 = .ok (.iconst 1, 1)))) ∧ (((decode cL_law 1130 = .ok (.iadd, 1)) ∧ (decode cL_law 1131 = .ok (.iaload, 1))) ∧ ((decode cL_law 1132 = .ok (.aload_n 0, 1)) ∧ (decode cL_law 1133 = .ok (.iload_n 3, 1)))))) ∧ (((((decode cL_law 1134 = .ok (.iconst 2, 1)) ∧ (decode cL_law 1135 = .ok (.iadd, 1))) ∧ ((decode cL_law 1136 = .ok (.iaload, 1)) ∧ (decode cL_law 1137 = .ok (.invokevirtual 116, 3)))) ∧ (((decode cL_law 1140 = .ok (.pop, 1)) ∧ (decode cL_law 1141 = .ok (.aload_n 2, 1))) ∧ ((decode cL_law 1142 = .ok (.aload_n 0, 1)) ∧ (decode cL_law 1143 = .ok (.iload_n 3, 1))))) ∧ ((((decode cL_law 1144 = .ok (.iconst 1, 1)) ∧ (decode cL_law 1145 = .ok (.iadd, 1))) ∧ ((decode cL_law 1146 = .ok (.iaload, 1)) ∧ (decode cL_law 1147 = .ok (.aload_n 0, 1)))) ∧ (((decode cL_law 1148 = .ok (.iload_n 3, 1)) ∧ (decode cL_law 1149 = .ok (.iconst 2, 1))) ∧ ((decode cL_law 1150 = .ok (.iadd, 1)) ∧ (decode cL_law 1151 = .ok (.iaload, 1)))))) := by decide +kernel
theorem dL_law_1114 : decode cL_law 1114 = .ok (.aload_n 0, 1) := dg_L_law_25.1.1.1.1.1
theorem dL_law_1115 : decode cL_law 1115 = .ok (.iload_n 3, 1) := dg_L_law_25.1.1.1.1.2
theorem dL_law_1116 : decode cL_law 1116 = .ok (.iconst 4, 1) := dg_L_law_25.1.1.1.2.1
theorem dL_law_1117 : decode cL_law 1117 = .ok (.iadd, 1) := dg_L_law_25.1.1.1.2.2
theorem dL_law_1118 : decode cL_law 1118 = .ok (.iaload, 1) := dg_L_law_25.1.1.2.1.1
theorem dL_law_1119 : decode cL_law 1119 = .ok (.invokevirtual 115, 3) := dg_L_law_25.1.1.2.1.2
theorem dL_law_1122 : decode cL_law 1122 = .ok (.pop, 1) := dg_L_law_25.1.1.2.2.1
theorem dL_law_1123 : decode cL_law 1123 = .ok (.goto 250, 3) := dg_L_law_25.1.1.2.2.2
theorem dL_law_1126 : decode cL_law 1126 = .ok (.aload_n 1, 1) := dg_L_law_25.1.2.1.1.1
theorem dL_law_1127 : decode cL_law 1127 = .ok (.aload_n 0, 1) := dg_L_law_25.1.2.1.1.2
theorem dL_law_1128 : decode cL_law 1128 = .ok (.iload_n 3, 1) := dg_L_law_25.1.2.1.2.1
theorem dL_law_1129 : decode cL_law 1129 = .ok (.iconst 1, 1) := dg_L_law_25.1.2.1.2.2
theorem dL_law_1130 : decode cL_law 1130 = .ok (.iadd, 1) := dg_L_law_25.1.2.2.1.1
theorem dL_law_1131 : decode cL_law 1131 = .ok (.iaload, 1) := dg_L_law_25.1.2.2.1.2
theorem dL_law_1132 : decode cL_law 1132 = .ok (.aload_n 0, 1) := dg_L_law_25.1.2.2.2.1
theorem dL_law_1133 : decode cL_law 1133 = .ok (.iload_n 3, 1) := dg_L_law_25.1.2.2.2.2
theorem dL_law_1134 : decode cL_law 1134 = .ok (.iconst 2, 1) := dg_L_law_25.2.1.1.1.1
theorem dL_law_1135 : decode cL_law 1135 = .ok (.iadd, 1) := dg_L_law_25.2.1.1.1.2
theorem dL_law_1136 : decode cL_law 1136 = .ok (.iaload, 1) := dg_L_law_25.2.1.1.2.1
theorem dL_law_1137 : decode cL_law 1137 = .ok (.invokevirtual 116, 3) := dg_L_law_25.2.1.1.2.2
theorem dL_law_1140 : decode cL_law 1140 = .ok (.pop, 1) := dg_L_law_25.2.1.2.1.1
theorem dL_law_1141 : decode cL_law 1141 = .ok (.aload_n 2, 1) := dg_L_law_25.2.1.2.1.2
theorem dL_law_1142 : decode cL_law 1142 = .ok (.aload_n 0, 1) := dg_L_law_25.2.1.2.2.1
theorem dL_law_1143 : decode cL_law 1143 = .ok (.iload_n 3, 1) := dg_L_law_25.2.1.2.2.2
theorem dL_law_1144 : decode cL_law 1144 = .ok (.iconst 1, 1) := dg_L_law_25.2.2.1.1.1
theorem dL_law_1145 : decode cL_law 1145 = .ok (.iadd, 1) := dg_L_law_25.2.2.1.1.2
theorem dL_law_1146 : decode cL_law 1146 = .ok (.iaload, 1) := dg_L_law_25.2.2.1.2.1
theorem dL_law_1147 : decode cL_law 1147 = .ok (.aload_n 0, 1) := dg_L_law_25.2.2.1.2.2
theorem dL_law_1148 : decode cL_law 1148 = .ok (.iload_n 3, 1) := dg_L_law_25.2.2.2.1.1
theorem dL_law_1149 : decode cL_law 1149 = .ok (.iconst 2, 1) := dg_L_law_25.2.2.2.1.2
theorem dL_law_1150 : decode cL_law 1150 = .ok (.iadd, 1) := dg_L_law_25.2.2.2.2.1
theorem dL_law_1151 : decode cL_law 1151 = .ok (.iaload, 1) := dg_L_law_25.2.2.2.2.2
set_option maxRecDepth 20000 in
theorem dg_L_law_26 : (((((decode cL_law 1152 = .ok (.invokevirtual 119, 3)) ∧ (decode cL_law 1155 = .ok (.pop, 1))) ∧ ((decode cL_law 1156 = .ok (.goto 217, 3)) ∧ (decode cL_law 1159 = .ok (.aload_n 1, 1)))) ∧ (((decode cL_law 1160 = .ok (.aload_n 0, 1)) ∧ (decode cL_law 1161 = .ok (.iload_n 3, 1))) ∧ ((decode cL_law 1162 = .ok (.iconst 1, 1)) ∧ (decode cL_law 1163 = .ok (.iadd, 1))))) ∧ ((((decode cL_law 1164 = .ok (.iaload, 1)) ∧ (decode cL_law 1165 = .ok (.invokevirtual 120, 3))) ∧ ((decode cL_law 1168 = .ok (.pop2, 1)) ∧ (decode cL_law 1169 = .ok (.aload_n 2, 1)))) ∧ (((decode cL_law 1170 = .ok (.aload_n 0, 1)) ∧ (decode cL_law 1171 = .ok (.iload_n 3, 1))) ∧ ((decode cL_law 1172 = .ok (.iconst 1, 1)) ∧ (decode cL_law 1173 = .ok (.iadd, 1)))))) ∧ (((((decode cL_law 1174 = .ok (.iaload, 1)) ∧ (decode cL_law 1175 = .ok (.invokevirtual 124, 3))) ∧ ((decode cL_law 1178 = .ok (.pop2, 1)) ∧ (decode cL_law 1179 = .ok (.goto 194, 3)))) ∧ (((decode cL_law 1182 = .ok (.aload_n 1, 1)) ∧ (decode cL_law 1183 = .ok (.aload_n 0, 1))) ∧ ((decode cL_law 1184 = .ok (.iload_n 3, 1)) ∧ (decode cL_law 1185 = .ok (.iconst 1, 1))))) ∧ ((((decode cL_law 1186 = .ok (.iadd, 1)) ∧ (decode cL_law 1187 = .ok (.iaload, 1))) ∧ ((decode cL_law 1188 = .ok (.aload_n 0, 1)) ∧ (decode cL_law 1189 = .ok (.iload_n 3, 1)))) ∧ (((decode cL_law 1190 = .ok (.iconst 2, 1)) ∧ (decode cL_law 1191 = .ok (.iadd, 1))) ∧ ((decode cL_law 1192 = .ok (.iaload, 1)) ∧ (decode cL_law 1193 = .ok (.aload_n 0, 1)))))) := by decide +kernel
theorem dL_law_1152 : decode cL_law 1152 = .ok (.invokevirtual 119, 3) := dg_L_law_26.1.1.1.1.1
theorem dL_law_1155 : decode cL_law 1155 = .ok (.pop, 1) := dg_L_law_26.1.1.1.1.2
theorem dL_law_1156 : decode cL_law 1156 = .ok (.goto 217, 3) := dg_L_law_26.1.1.1.2.1
theorem dL_law_1159 : decode cL_law 1159 = .ok (.aload_n 1, 1) := dg_L_law_26.1.1.1.2.2
theorem dL_law_1160 : decode cL_law 1160 = .ok (.aload_n 0, 1) := dg_L_law_26.1.1.2.1.1
theorem dL_law_1161 : decode cL_law 1161 = .ok (.iload_n 3, 1) := dg_L_law_26.1.1.2.1.2
theorem dL_law_1162 : decode cL_law 1162 = .ok (.iconst 1, 1) := dg_L_law_26.1.1.2.2.1
theorem dL_law_1163 : decode cL_law 1163 = .ok (.iadd, 1) := dg_L_law_26.1.1.2.2.2
theorem dL_law_1164 : decode cL_law 1164 = .ok (.iaload, 1) := dg_L_law_26.1.2.1.1.1
theorem dL_law_1165 : decode cL_law 1165 = .ok (.invokevirtual 120, 3) := dg_L_law_26.1.2.1.1.2
theorem dL_law_1168 : decode cL_law 1168 = .ok (.pop2, 1) := dg_L_law_26.1.2.1.2.1
theorem dL_law_1169 : decode cL_law 1169 = .ok (.aload_n 2, 1) := dg_L_law_26.1.2.1.2.2
theorem dL_law_1170 : decode cL_law 1170 = .ok (.aload_n 0, 1) := dg_L_law_26.1.2.2.1.1
theorem dL_law_1171 : decode cL_law 1171 = .ok (.iload_n 3, 1) := dg_L_law_26.1.2.2.1.2
theorem dL_law_1172 : decode cL_law 1172 = .ok (.iconst 1, 1) := dg_L_law_26.1.2.2.2.1
theorem dL_law_1173 : decode cL_law 1173 = .ok (.iadd, 1) := dg_L_law_26.1.2.2.2.2
theorem dL_law_1174 : decode cL_law 1174 = .ok (.iaload, 1) := dg_L_law_26.2.1.1.1.1
theorem dL_law_1175 : decode cL_law 1175 = .ok (.invokevirtual 124, 3) := dg_L_law_26.2.1.1.1.2
theorem dL_law_1178 : decode cL_law 1178 = .ok (.pop2, 1) := dg_L_law_26.2.1.1.2.1
theorem dL_law_1179 : decode cL_law 1179 = .ok (.goto 194, 3) := dg_L_law_26.2.1.1.2.2
theorem dL_law_1182 : decode cL_law 1182 = .ok (.aload_n 1, 1) := dg_L_law_26.2.1.2.1.1
theorem dL_law_1183 : decode cL_law 1183 = .ok (.aload_n 0, 1) := dg_L_law_26.2.1.2.1.2
theorem dL_law_1184 : decode cL_law 1184 = .ok (.iload_n 3, 1) := dg_L_law_26.2.1.2.2.1
theorem dL_law_1185 : decode cL_law 1185 = .ok (.iconst 1, 1) := dg_L_law_26.2.1.2.2.2
theorem dL_law_1186 : decode cL_law 1186 = .ok (.iadd, 1) := dg_L_law_26.2.2.1.1.1
theorem dL_law_1187 : decode cL_law 1187 = .ok (.iaload, 1) := dg_L_law_26.2.2.1.1.2
theorem dL_law_1188 : decode cL_law 1188 = .ok (.aload_n 0, 1) := dg_L_law_26.2.2.1.2.1
theorem dL_law_1189 : decode cL_law 1189 = .ok (.iload_n 3, 1) := dg_L_law_26.2.2.1.2.2
theorem dL_law_1190 : decode cL_law 1190 = .ok (.iconst 2, 1) := dg_L_law_26.2.2.2.1.1
theorem dL_law_1191 : decode cL_law 1191 = .ok (.iadd, 1) := dg_L_law_26.2.2.2.1.2
theorem dL_law_1192 : decode cL_law 1192 = .ok (.iaload, 1) := dg_L_law_26.2.2.2.2.1
theorem dL_law_1193 : decode cL_law 1193 = .ok (.aload_n 0, 1) := dg_L_law_26.2.2.2.2.2
set_option maxRecDepth 20000 in
theorem dg_L_law_27 : (((((decode cL_law 1194 = .ok (.iload_n 3, 1)) ∧ (decode cL_law 1195 = .ok (.iconst 3, 1))) ∧ ((decode cL_law 1196 = .ok (.iadd, 1)) ∧ (decode cL_law 1197 = .ok (.iaload, 1)))) ∧ (((decode cL_law 1198 = .ok (.invokevirtual 125, 3)) ∧ (decode cL_law 1201 = .ok (.pop, 1))) ∧ ((decode cL_law 1202 = .ok (.aload_n 2, 1)) ∧ (decode cL_law 1203 = .ok (.aload_n 0, 1))))) ∧ ((((decode cL_law 1204 = .ok (.iload_n 3, 1)) ∧ (decode cL_law 1205 = .ok (.iconst 1, 1))) ∧ ((decode cL_law 1206 = .ok (.iadd, 1)) ∧ (decode cL_law 1207 = .ok (.iaload, 1)))) ∧ (((decode cL_law 1208 = .ok (.aload_n 0, 1)) ∧ (decode cL_law 1209 = .ok (.iload_n 3, 1))) ∧ ((decode cL_law 1210 = .ok (.iconst 2, 1)) ∧ (decode cL_law 1211 = .ok (.iadd, 1)))))) ∧ (((((decode cL_law 1212 = .ok (.iaload, 1)) ∧ (decode cL_law 1213 = .ok (.aload_n 0, 1))) ∧ ((decode cL_law 1214 = .ok (.iload_n 3, 1)) ∧ (decode cL_law 1215 = .ok (.iconst 3, 1)))) ∧ (((decode cL_law 1216 = .ok (.iadd, 1)) ∧ (decode cL_law 1217 = .ok (.iaload, 1))) ∧ ((decode cL_law 1218 = .ok (.invokevirtual 128, 3)) ∧ (decode cL_law 1221 = .ok (.pop, 1))))) ∧ ((((decode cL_law 1222 = .ok (.goto 151, 3)) ∧ (decode cL_law 1225 = .ok (.aload_n 1, 1))) ∧ ((decode cL_law 1226 = .ok (.aload_n 0, 1)) ∧ (decode cL_law 1227 = .ok (.iload_n 3, 1)))) ∧ (((decode cL_law 1228 = .ok (.iconst 1, 1)) ∧ (decode cL_law 1229 = .ok (.iadd, 1))) ∧ ((decode cL_law 1230 = .ok (.iaload, 1)) ∧ (decode cL_law 1231 = .ok (.aload_n 0, 1)))))) := by decide +kernel
theorem dL_law_1194 : decode cL_law 1194 = .ok (.iload_n 3, 1) := dg_L_law_27.1.1.1.1.1
theorem dL_law_1195 : decode cL_law 1195 = .ok (.iconst 3, 1) := dg_L_law_27.1.1.1.1.2
theorem dL_law_1196 : decode cL_law 1196 = .ok (.iadd, 1) := dg_L_law_27.1.1.1.2.1
theorem dL_law_1197 : decode cL_law 1197 = .ok (.iaload, 1) := dg_L_law_27.1.1.1.2.2
theorem dL_law_1198 : decode cL_law 1198 = .ok (.invokevirtual 125, 3) := dg_L_law_27.1.1.2.1.1
theorem dL_law_1201 : decode cL_law 1201 = .ok (.pop, 1) := dg_L_law_27.1.1.2.1.2
theorem dL_law_1202 : decode cL_law 1202 = .ok (.aload_n 2, 1) := dg_L_law_27.1.1.2.2.1
theorem dL_law_1203 : decode cL_law 1203 = .ok (.aload_n 0, 1) := dg_L_law_27.1.1.2.2.2
theorem dL_law_1204 : decode cL_law 1204 = .ok (.iload_n 3, 1) := dg_L_law_27.1.2.1.1.1
theorem dL_law_1205 : decode cL_law 1205 = .ok (.iconst 1, 1) := dg_L_law_27.1.2.1.1.2
theorem dL_law_1206 : decode cL_law 1206 = .ok (.iadd, 1) := dg_L_law_27.1.2.1.2.1
theorem dL_law_1207 : decode cL_law 1207 = .ok (.iaload, 1) := dg_L_law_27.1.2.1.2.2
theorem dL_law_1208 : decode cL_law 1208 = .ok (.aload_n 0, 1) := dg_L_law_27.1.2.2.1.1
theorem dL_law_1209 : decode cL_law 1209 = .ok (.iload_n 3, 1) := dg_L_law_27.1.2.2.1.2
theorem dL_law_1210 : decode cL_law 1210 = .ok (.iconst 2, 1) := dg_L_law_27.1.2.2.2.1
theorem dL_law_1211 : decode cL_law 1211 = .ok (.iadd, 1) := dg_L_law_27.1.2.2.2.2
theorem dL_law_1212 : decode cL_law 1212 = .ok (.iaload, 1) := dg_L_law_27.2.1.1.1.1
theorem dL_law_1213 : decode cL_law 1213 = .ok (.aload_n 0, 1) := dg_L_law_27.2.1.1.1.2
theorem dL_law_1214 : decode cL_law 1214 = .ok (.iload_n 3, 1) := dg_L_law_27.2.1.1.2.1
theorem dL_law_1215 : decode cL_law 1215 = .ok (.iconst 3, 1) := dg_L_law_27.2.1.1.2.2
theorem dL_law_1216 : decode cL_law 1216 = .ok (.iadd, 1) := dg_L_law_27.2.1.2.1.1
theorem dL_law_1217 : decode cL_law 1217 = .ok (.iaload, 1) := dg_L_law_27.2.1.2.1.2
theorem dL_law_1218 : decode cL_law 1218 = .ok (.invokevirtual 128, 3) := dg_L_law_27.2.1.2.2.1
theorem dL_law_1221 : decode cL_law 1221 = .ok (.pop, 1) := dg_L_law_27.2.1.2.2.2
theorem dL_law_1222 : decode cL_law 1222 = .ok (.goto 151, 3) := dg_L_law_27.2.2.1.1.1
theorem dL_law_1225 : decode cL_law 1225 = .ok (.aload_n 1, 1) := dg_L_law_27.2.2.1.1.2
theorem dL_law_1226 : decode cL_law 1226 = .ok (.aload_n 0, 1) := dg_L_law_27.2.2.1.2.1
theorem dL_law_1227 : decode cL_law 1227 = .ok (.iload_n 3, 1) := dg_L_law_27.2.2.1.2.2
theorem dL_law_1228 : decode cL_law 1228 = .ok (.iconst 1, 1) := dg_L_law_27.2.2.2.1.1
theorem dL_law_1229 : decode cL_law 1229 = .ok (.iadd, 1) := dg_L_law_27.2.2.2.1.2
theorem dL_law_1230 : decode cL_law 1230 = .ok (.iaload, 1) := dg_L_law_27.2.2.2.2.1
theorem dL_law_1231 : decode cL_law 1231 = .ok (.aload_n 0, 1) := dg_L_law_27.2.2.2.2.2
set_option maxRecDepth 20000 in
theorem dg_L_law_28 : (((((decode cL_law 1232 = .ok (.iload_n 3, 1)) ∧ (decode cL_law 1233 = .ok (.iconst 2, 1))) ∧ ((decode cL_law 1234 = .ok (.iadd, 1)) ∧ (decode cL_law 1235 = .ok (.iaload, 1)))) ∧ (((decode cL_law 1236 = .ok (.invokevirtual 129, 3)) ∧ (decode cL_law 1239 = .ok (.pop, 1))) ∧ ((decode cL_law 1240 = .ok (.aload_n 2, 1)) ∧ (decode cL_law 1241 = .ok (.aload_n 0, 1))))) ∧ ((((decode cL_law 1242 = .ok (.iload_n 3, 1)) ∧ (decode cL_law 1243 = .ok (.iconst 1, 1))) ∧ ((decode cL_law 1244 = .ok (.iadd, 1)) ∧ (decode cL_law 1245 = .ok (.iaload, 1)))) ∧ (((decode cL_law 1246 = .ok (.aload_n 0, 1)) ∧ (decode cL_law 1247 = .ok (.iload_n 3, 1))) ∧ ((decode cL_law 1248 = .ok (.iconst 2, 1)) ∧ (decode cL_law 1249 = .ok (.iadd, 1)))))) ∧ (((((decode cL_law 1250 = .ok (.iaload, 1)) ∧ (decode cL_law 1251 = .ok (.invokevirtual 132, 3))) ∧ ((decode cL_law 1254 = .ok (.pop, 1)) ∧ (decode cL_law 1255 = .ok (.goto 118, 3)))) ∧ (((decode cL_law 1258 = .ok (.aload_n 1, 1)) ∧ (decode cL_law 1259 = .ok (.aload_n 0, 1))) ∧ ((decode cL_law 1260 = .ok (.iload_n 3, 1)) ∧ (decode cL_law 1261 = .ok (.iconst 1, 1))))) ∧ ((((decode cL_law 1262 = .ok (.iadd, 1)) ∧ (decode cL_law 1263 = .ok (.iaload, 1))) ∧ ((decode cL_law 1264 = .ok (.aload_n 0, 1)) ∧ (decode cL_law 1265 = .ok (.iload_n 3, 1)))) ∧ (((decode cL_law 1266 = .ok (.iconst 2, 1)) ∧ (decode cL_law 1267 = .ok (.iadd, 1))) ∧ ((decode cL_law 1268 = .ok (.iaload, 1)) ∧ (decode cL_law 1269 = .ok (.invokevirtual 133, 3)))))) := by decide +kernel
theorem dL_law_1232 : decode cL_law 1232 = .ok (.iload_n 3, 1) := dg_L_law_28.1.1.1.1.1
theorem dL_law_1233 : decode cL_law 1233 = .ok (.iconst 2, 1) := dg_L_law_28.1.1.1.1.2
theorem dL_law_1234 : decode cL_law 1234 = .ok (.iadd, 1) := dg_L_law_28.1.1.1.2.1
theorem dL_law_1235 : decode cL_law 1235 = .ok (.iaload, 1) := dg_L_law_28.1.1.1.2.2
theorem dL_law_1236 : decode cL_law 1236 = .ok (.invokevirtual 129, 3) := dg_L_law_28.1.1.2.1.1
theorem dL_law_1239 : decode cL_law 1239 = .ok (.pop, 1) := dg_L_law_28.1.1.2.1.2
theorem dL_law_1240 : decode cL_law 1240 = .ok (.aload_n 2, 1) := dg_L_law_28.1.1.2.2.1
theorem dL_law_1241 : decode cL_law 1241 = .ok (.aload_n 0, 1) := dg_L_law_28.1.1.2.2.2
theorem dL_law_1242 : decode cL_law 1242 = .ok (.iload_n 3, 1) := dg_L_law_28.1.2.1.1.1
theorem dL_law_1243 : decode cL_law 1243 = .ok (.iconst 1, 1) := dg_L_law_28.1.2.1.1.2
theorem dL_law_1244 : decode cL_law 1244 = .ok (.iadd, 1) := dg_L_law_28.1.2.1.2.1
theorem dL_law_1245 : decode cL_law 1245 = .ok (.iaload, 1) := dg_L_law_28.1.2.1.2.2
theorem dL_law_1246 : decode cL_law 1246 = .ok (.aload_n 0, 1) := dg_L_law_28.1.2.2.1.1
theorem dL_law_1247 : decode cL_law 1247 = .ok (.iload_n 3, 1) := dg_L_law_28.1.2.2.1.2
theorem dL_law_1248 : decode cL_law 1248 = .ok (.iconst 2, 1) := dg_L_law_28.1.2.2.2.1
theorem dL_law_1249 : decode cL_law 1249 = .ok (.iadd, 1) := dg_L_law_28.1.2.2.2.2
theorem dL_law_1250 : decode cL_law 1250 = .ok (.iaload, 1) := dg_L_law_28.2.1.1.1.1
theorem dL_law_1251 : decode cL_law 1251 = .ok (.invokevirtual 132, 3) := dg_L_law_28.2.1.1.1.2
theorem dL_law_1254 : decode cL_law 1254 = .ok (.pop, 1) := dg_L_law_28.2.1.1.2.1
theorem dL_law_1255 : decode cL_law 1255 = .ok (.goto 118, 3) := dg_L_law_28.2.1.1.2.2
theorem dL_law_1258 : decode cL_law 1258 = .ok (.aload_n 1, 1) := dg_L_law_28.2.1.2.1.1
theorem dL_law_1259 : decode cL_law 1259 = .ok (.aload_n 0, 1) := dg_L_law_28.2.1.2.1.2
theorem dL_law_1260 : decode cL_law 1260 = .ok (.iload_n 3, 1) := dg_L_law_28.2.1.2.2.1
theorem dL_law_1261 : decode cL_law 1261 = .ok (.iconst 1, 1) := dg_L_law_28.2.1.2.2.2
theorem dL_law_1262 : decode cL_law 1262 = .ok (.iadd, 1) := dg_L_law_28.2.2.1.1.1
theorem dL_law_1263 : decode cL_law 1263 = .ok (.iaload, 1) := dg_L_law_28.2.2.1.1.2
theorem dL_law_1264 : decode cL_law 1264 = .ok (.aload_n 0, 1) := dg_L_law_28.2.2.1.2.1
theorem dL_law_1265 : decode cL_law 1265 = .ok (.iload_n 3, 1) := dg_L_law_28.2.2.1.2.2
theorem dL_law_1266 : decode cL_law 1266 = .ok (.iconst 2, 1) := dg_L_law_28.2.2.2.1.1
theorem dL_law_1267 : decode cL_law 1267 = .ok (.iadd, 1) := dg_L_law_28.2.2.2.1.2
theorem dL_law_1268 : decode cL_law 1268 = .ok (.iaload, 1) := dg_L_law_28.2.2.2.2.1
theorem dL_law_1269 : decode cL_law 1269 = .ok (.invokevirtual 133, 3) := dg_L_law_28.2.2.2.2.2
set_option maxRecDepth 20000 in
theorem dg_L_law_29 : (((((decode cL_law 1272 = .ok (.pop, 1)) ∧ (decode cL_law 1273 = .ok (.aload_n 2, 1))) ∧ ((decode cL_law 1274 = .ok (.aload_n 0, 1)) ∧ (decode cL_law 1275 = .ok (.iload_n 3, 1)))) ∧ (((decode cL_law 1276 = .ok (.iconst 1, 1)) ∧ (decode cL_law 1277 = .ok (.iadd, 1))) ∧ ((decode cL_law 1278 = .ok (.iaload, 1)) ∧ (decode cL_law 1279 = .ok (.aload_n 0, 1))))) ∧ ((((decode cL_law 1280 = .ok (.iload_n 3, 1)) ∧ (decode cL_law 1281 = .ok (.iconst 2, 1))) ∧ ((decode cL_law 1282 = .ok (.iadd, 1)) ∧ (decode cL_law 1283 = .ok (.iaload, 1)))) ∧ (((decode cL_law 1284 = .ok (.invokevirtual 136, 3)) ∧ (decode cL_law 1287 = .ok (.pop, 1))) ∧ ((decode cL_law 1288 = .ok (.goto 85, 3)) ∧ (decode cL_law 1291 = .ok (.aload_n 1, 1)))))) ∧ (((((decode cL_law 1292 = .ok (.aload_n 0, 1)) ∧ (decode cL_law 1293 = .ok (.iload_n 3, 1))) ∧ ((decode cL_law 1294 = .ok (.iconst 1, 1)) ∧ (decode cL_law 1295 = .ok (.iadd, 1)))) ∧ (((decode cL_law 1296 = .ok (.iaload, 1)) ∧ (decode cL_law 1297 = .ok (.invokevirtual 137, 3))) ∧ ((decode cL_law 1300 = .ok (.pop, 1)) ∧ (decode cL_law 1301 = .ok (.aload_n 2, 1))))) ∧ ((((decode cL_law 1302 = .ok (.aload_n 0, 1)) ∧ (decode cL_law 1303 = .ok (.iload_n 3, 1))) ∧ ((decode cL_law 1304 = .ok (.iconst 1, 1)) ∧ (decode cL_law 1305 = .ok (.iadd, 1)))) ∧ (((decode cL_law 1306 = .ok (.iaload, 1)) ∧ (decode cL_law 1307 = .ok (.invokevirtual 140, 3))) ∧ ((decode cL_law 1310 = .ok (.pop, 1)) ∧ (decode cL_law 1311 = .ok (.goto 62, 3)))))) := by decide +kernel
theorem dL_law_1272 : decode cL_law 1272 = .ok (.pop, 1) := dg_L_law_29.1.1.1.1.1
theorem dL_law_1273 : decode cL_law 1273 = .ok (.aload_n 2, 1) := dg_L_law_29.1.1.1.1.2
theorem dL_law_1274 : decode cL_law 1274 = .ok (.aload_n 0, 1) := dg_L_law_29.1.1.1.2.1
theorem dL_law_1275 : decode cL_law 1275 = .ok (.iload_n 3, 1) := dg_L_law_29.1.1.1.2.2
theorem dL_law_1276 : decode cL_law 1276 = .ok (.iconst 1, 1) := dg_L_law_29.1.1.2.1.1
theorem dL_law_1277 : decode cL_law 1277 = .ok (.iadd, 1) := dg_L_law_29.1.1.2.1.2
theorem dL_law_1278 : decode cL_law 1278 = .ok (.iaload, 1) := dg_L_law_29.1.1.2.2.1
theorem dL_law_1279 : decode cL_law 1279 = .ok (.aload_n 0, 1) := dg_L_law_29.1.1.2.2.2
theorem dL_law_1280 : decode cL_law 1280 = .ok (.iload_n 3, 1) := dg_L_law_29.1.2.1.1.1
theorem dL_law_1281 : decode cL_law 1281 = .ok (.iconst 2, 1) := dg_L_law_29.1.2.1.1.2
theorem dL_law_1282 : decode cL_law 1282 = .ok (.iadd, 1) := dg_L_law_29.1.2.1.2.1
theorem dL_law_1283 : decode cL_law 1283 = .ok (.iaload, 1) := dg_L_law_29.1.2.1.2.2
theorem dL_law_1284 : decode cL_law 1284 = .ok (.invokevirtual 136, 3) := dg_L_law_29.1.2.2.1.1
theorem dL_law_1287 : decode cL_law 1287 = .ok (.pop, 1) := dg_L_law_29.1.2.2.1.2
theorem dL_law_1288 : decode cL_law 1288 = .ok (.goto 85, 3) := dg_L_law_29.1.2.2.2.1
theorem dL_law_1291 : decode cL_law 1291 = .ok (.aload_n 1, 1) := dg_L_law_29.1.2.2.2.2
theorem dL_law_1292 : decode cL_law 1292 = .ok (.aload_n 0, 1) := dg_L_law_29.2.1.1.1.1
theorem dL_law_1293 : decode cL_law 1293 = .ok (.iload_n 3, 1) := dg_L_law_29.2.1.1.1.2
theorem dL_law_1294 : decode cL_law 1294 = .ok (.iconst 1, 1) := dg_L_law_29.2.1.1.2.1
theorem dL_law_1295 : decode cL_law 1295 = .ok (.iadd, 1) := dg_L_law_29.2.1.1.2.2
theorem dL_law_1296 : decode cL_law 1296 = .ok (.iaload, 1) := dg_L_law_29.2.1.2.1.1
theorem dL_law_1297 : decode cL_law 1297 = .ok (.invokevirtual 137, 3) := dg_L_law_29.2.1.2.1.2
theorem dL_law_1300 : decode cL_law 1300 = .ok (.pop, 1) := dg_L_law_29.2.1.2.2.1
theorem dL_law_1301 : decode cL_law 1301 = .ok (.aload_n 2, 1) := dg_L_law_29.2.1.2.2.2
theorem dL_law_1302 : decode cL_law 1302 = .ok (.aload_n 0, 1) := dg_L_law_29.2.2.1.1.1
theorem dL_law_1303 : decode cL_law 1303 = .ok (.iload_n 3, 1) := dg_L_law_29.2.2.1.1.2
theorem dL_law_1304 : decode cL_law 1304 = .ok (.iconst 1, 1) := dg_L_law_29.2.2.1.2.1
theorem dL_law_1305 : decode cL_law 1305 = .ok (.iadd, 1) := dg_L_law_29.2.2.1.2.2
theorem dL_law_1306 : decode cL_law 1306 = .ok (.iaload, 1) := dg_L_law_29.2.2.2.1.1
theorem dL_law_1307 : decode cL_law 1307 = .ok (.invokevirtual 140, 3) := dg_L_law_29.2.2.2.1.2
theorem dL_law_1310 : decode cL_law 1310 = .ok (.pop, 1) := dg_L_law_29.2.2.2.2.1
theorem dL_law_1311 : decode cL_law 1311 = .ok (.goto 62, 3) := dg_L_law_29.2.2.2.2.2
set_option maxRecDepth 20000 in
theorem dg_L_law_30 : (((((decode cL_law 1314 = .ok (.aload_n 1, 1)) ∧ (decode cL_law 1315 = .ok (.aload_n 0, 1))) ∧ ((decode cL_law 1316 = .ok (.iload_n 3, 1)) ∧ (decode cL_law 1317 = .ok (.iconst 1, 1)))) ∧ (((decode cL_law 1318 = .ok (.iadd, 1)) ∧ (decode cL_law 1319 = .ok (.iaload, 1))) ∧ ((decode cL_law 1320 = .ok (.invokevirtual 141, 3)) ∧ (decode cL_law 1323 = .ok (.pop, 1))))) ∧ ((((decode cL_law 1324 = .ok (.aload_n 2, 1)) ∧ (decode cL_law 1325 = .ok (.aload_n 0, 1))) ∧ ((decode cL_law 1326 = .ok (.iload_n 3, 1)) ∧ (decode cL_law 1327 = .ok (.iconst 1, 1)))) ∧ (((decode cL_law 1328 = .ok (.iadd, 1)) ∧ (decode cL_law 1329 = .ok (.iaload, 1))) ∧ ((decode cL_law 1330 = .ok (.invokevirtual 144, 3)) ∧ (decode cL_law 1333 = .ok (.pop, 1)))))) ∧ (((((decode cL_law 1334 = .ok (.goto 39, 3)) ∧ (decode cL_law 1337 = .ok (.aload_n 1, 1))) ∧ ((decode cL_law 1338 = .ok (.aload_n 0, 1)) ∧ (decode cL_law 1339 = .ok (.iload_n 3, 1)))) ∧ (((decode cL_law 1340 = .ok (.iconst 1, 1)) ∧ (decode cL_law 1341 = .ok (.iadd, 1))) ∧ ((decode cL_law 1342 = .ok (.iaload, 1)) ∧ (decode cL_law 1343 = .ok (.invokevirtual 145, 3))))) ∧ ((((decode cL_law 1346 = .ok (.pop, 1)) ∧ (decode cL_law 1347 = .ok (.aload_n 2, 1))) ∧ ((decode cL_law 1348 = .ok (.aload_n 0, 1)) ∧ (decode cL_law 1349 = .ok (.iload_n 3, 1)))) ∧ (((decode cL_law 1350 = .ok (.iconst 1, 1)) ∧ (decode cL_law 1351 = .ok (.iadd, 1))) ∧ ((decode cL_law 1352 = .ok (.iaload, 1)) ∧ (decode cL_law 1353 = .ok (.invokevirtual 148, 3)))))) := by decide +kernel
theorem dL_law_1314 : decode cL_law 1314 = .ok (.aload_n 1, 1) := dg_L_law_30.1.1.1.1.1
theorem dL_law_1315 : decode cL_law 1315 = .ok (.aload_n 0, 1) := dg_L_law_30.1.1.1.1.2
theorem dL_law_1316 : decode cL_law 1316 = .ok (.iload_n 3, 1) := dg_L_law_30.1.1.1.2.1
theorem dL_law_1317 : decode cL_law 1317 = .ok (.iconst 1, 1) := dg_L_law_30.1.1.1.2.2
theorem dL_law_1318 : decode cL_law 1318 = .ok (.iadd, 1) := dg_L_law_30.1.1.2.1.1
theorem dL_law_1319 : decode cL_law 1319 = .ok (.iaload, 1) := dg_L_law_30.1.1.2.1.2
theorem dL_law_1320 : decode cL_law 1320 = .ok (.invokevirtual 141, 3) := dg_L_law_30.1.1.2.2.1
theorem dL_law_1323 : decode cL_law 1323 = .ok (.pop, 1) := dg_L_law_30.1.1.2.2.2
theorem dL_law_1324 : decode cL_law 1324 = .ok (.aload_n 2, 1) := dg_L_law_30.1.2.1.1.1
theorem dL_law_1325 : decode cL_law 1325 = .ok (.aload_n 0, 1) := dg_L_law_30.1.2.1.1.2
theorem dL_law_1326 : decode cL_law 1326 = .ok (.iload_n 3, 1) := dg_L_law_30.1.2.1.2.1
theorem dL_law_1327 : decode cL_law 1327 = .ok (.iconst 1, 1) := dg_L_law_30.1.2.1.2.2
theorem dL_law_1328 : decode cL_law 1328 = .ok (.iadd, 1) := dg_L_law_30.1.2.2.1.1
theorem dL_law_1329 : decode cL_law 1329 = .ok (.iaload, 1) := dg_L_law_30.1.2.2.1.2
theorem dL_law_1330 : decode cL_law 1330 = .ok (.invokevirtual 144, 3) := dg_L_law_30.1.2.2.2.1
theorem dL_law_1333 : decode cL_law 1333 = .ok (.pop, 1) := dg_L_law_30.1.2.2.2.2
theorem dL_law_1334 : decode cL_law 1334 = .ok (.goto 39, 3) := dg_L_law_30.2.1.1.1.1
theorem dL_law_1337 : decode cL_law 1337 = .ok (.aload_n 1, 1) := dg_L_law_30.2.1.1.1.2
theorem dL_law_1338 : decode cL_law 1338 = .ok (.aload_n 0, 1) := dg_L_law_30.2.1.1.2.1
theorem dL_law_1339 : decode cL_law 1339 = .ok (.iload_n 3, 1) := dg_L_law_30.2.1.1.2.2
theorem dL_law_1340 : decode cL_law 1340 = .ok (.iconst 1, 1) := dg_L_law_30.2.1.2.1.1
theorem dL_law_1341 : decode cL_law 1341 = .ok (.iadd, 1) := dg_L_law_30.2.1.2.1.2
theorem dL_law_1342 : decode cL_law 1342 = .ok (.iaload, 1) := dg_L_law_30.2.1.2.2.1
theorem dL_law_1343 : decode cL_law 1343 = .ok (.invokevirtual 145, 3) := dg_L_law_30.2.1.2.2.2
theorem dL_law_1346 : decode cL_law 1346 = .ok (.pop, 1) := dg_L_law_30.2.2.1.1.1
theorem dL_law_1347 : decode cL_law 1347 = .ok (.aload_n 2, 1) := dg_L_law_30.2.2.1.1.2
theorem dL_law_1348 : decode cL_law 1348 = .ok (.aload_n 0, 1) := dg_L_law_30.2.2.1.2.1
theorem dL_law_1349 : decode cL_law 1349 = .ok (.iload_n 3, 1) := dg_L_law_30.2.2.1.2.2
theorem dL_law_1350 : decode cL_law 1350 = .ok (.iconst 1, 1) := dg_L_law_30.2.2.2.1.1
theorem dL_law_1351 : decode cL_law 1351 = .ok (.iadd, 1) := dg_L_law_30.2.2.2.1.2
theorem dL_law_1352 : decode cL_law 1352 = .ok (.iaload, 1) := dg_L_law_30.2.2.2.2.1
theorem dL_law_1353 : decode cL_law 1353 = .ok (.invokevirtual 148, 3) := dg_L_law_30.2.2.2.2.2
set_option maxRecDepth 20000 in
theorem dg_L_law_31 : ((((decode cL_law 1356 = .ok (.pop, 1)) ∧ (decode cL_law 1357 = .ok (.goto 16, 3))) ∧ ((decode cL_law 1360 = .ok (.aload_n 1, 1)) ∧ (decode cL_law 1361 = .ok (.invokevirtual 149, 3)))) ∧ (((decode cL_law 1364 = .ok (.pop2, 1)) ∧ (decode cL_law 1365 = .ok (.aload_n 2, 1))) ∧ (decode cL_law 1366 = .ok (.invokevirtual 153, 3)))) ∧ ((((decode cL_law 1369 = .ok (.pop2, 1)) ∧ (decode cL_law 1370 = .ok (.goto 3, 3))) ∧ (decode cL_law 1373 = .ok (.iinc 3 10, 3))) ∧ (((decode cL_law 1376 = .ok (.goto (-1358), 3)) ∧ (decode cL_law 1379 = .ok (.iconst 1, 1))) ∧ (decode cL_law 1380 = .ok (.ireturn, 1)))) := by decide +kernel
theorem dL_law_1356 : decode cL_law 1356 = .ok (.pop, 1) := dg_L_law_31.1.1.1.1
theorem dL_law_1357 : decode cL_law 1357 = .ok (.goto 16, 3) := dg_L_law_31.1.1.1.2
theorem dL_law_1360 : decode cL_law 1360 = .ok (.aload_n 1, 1) := dg_L_law_31.1.1.2.1
theorem dL_law_1361 : decode cL_law 1361 = .ok (.invokevirtual 149, 3) := dg_L_law_31.1.1.2.2
theorem dL_law_1364 : decode cL_law 1364 = .ok (.pop2, 1) := dg_L_law_31.1.2.1.1
theorem dL_law_1365 : decode cL_law 1365 = .ok (.aload_n 2, 1) := dg_L_law_31.1.2.1.2
theorem dL_law_1366 : decode cL_law 1366 = .ok (.invokevirtual 153, 3) := dg_L_law_31.1.2.2
theorem dL_law_1369 : decode cL_law 1369 = .ok (.pop2, 1) := dg_L_law_31.2.1.1.1
theorem dL_law_1370 : decode cL_law 1370 = .ok (.goto 3, 3) := dg_L_law_31.2.1.1.2
theorem dL_law_1373 : decode cL_law 1373 = .ok (.iinc 3 10, 3) := dg_L_law_31.2.1.2
theorem dL_law_1376 : decode cL_law 1376 = .ok (.goto (-1358), 3) := dg_L_law_31.2.2.1.1
theorem dL_law_1379 : decode cL_law 1379 = .ok (.iconst 1, 1) := dg_L_law_31.2.2.1.2
theorem dL_law_1380 : decode cL_law 1380 = .ok (.ireturn, 1) := dg_L_law_31.2.2.2

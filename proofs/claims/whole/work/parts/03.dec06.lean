theorem dX12_alike_193 : decode cX12_alike 193 = .ok (.goto (-52), 3) := by decide +kernel
theorem dX12_alike_196 : decode cX12_alike 196 = .ok (.goto (-138), 3) := by decide +kernel
theorem dX12_alike_199 : decode cX12_alike 199 = .ok (.iconst 0, 1) := by decide +kernel
theorem dX12_alike_200 : decode cX12_alike 200 = .ok (.istore 5, 2) := by decide +kernel
theorem dX12_alike_202 : decode cX12_alike 202 = .ok (.iconst 0, 1) := by decide +kernel
theorem dX12_alike_203 : decode cX12_alike 203 = .ok (.istore 6, 2) := by decide +kernel
theorem dX12_alike_205 : decode cX12_alike 205 = .ok (.iload 6, 2) := by decide +kernel
theorem dX12_alike_207 : decode cX12_alike 207 = .ok (.iload_n 3, 1) := by decide +kernel
theorem dX12_alike_208 : decode cX12_alike 208 = .ok (.if_icmp .ge 31, 3) := by decide +kernel
theorem dX12_alike_211 : decode cX12_alike 211 = .ok (.iload 5, 2) := by decide +kernel
theorem dX12_alike_213 : decode cX12_alike 213 = .ok (.aload_n 0, 1) := by decide +kernel
theorem dX12_alike_214 : decode cX12_alike 214 = .ok (.getfield 62, 3) := by decide +kernel
theorem dX12_alike_217 : decode cX12_alike 217 = .ok (.iload 6, 2) := by decide +kernel
theorem dX12_alike_219 : decode cX12_alike 219 = .ok (.iaload, 1) := by decide +kernel
theorem dX12_alike_220 : decode cX12_alike 220 = .ok (.iload 6, 2) := by decide +kernel
theorem dX12_alike_222 : decode cX12_alike 222 = .ok (.if_icmp .ne 7, 3) := by decide +kernel
theorem dX12_alike_225 : decode cX12_alike 225 = .ok (.iconst 1, 1) := by decide +kernel
theorem dX12_alike_226 : decode cX12_alike 226 = .ok (.goto 4, 3) := by decide +kernel
theorem dX12_alike_229 : decode cX12_alike 229 = .ok (.iconst 0, 1) := by decide +kernel
theorem dX12_alike_230 : decode cX12_alike 230 = .ok (.iadd, 1) := by decide +kernel
theorem dX12_alike_231 : decode cX12_alike 231 = .ok (.istore 5, 2) := by decide +kernel
theorem dX12_alike_233 : decode cX12_alike 233 = .ok (.iinc 6 1, 3) := by decide +kernel
theorem dX12_alike_236 : decode cX12_alike 236 = .ok (.goto (-31), 3) := by decide +kernel
theorem dX12_alike_239 : decode cX12_alike 239 = .ok (.iload_n 2, 1) := by decide +kernel
theorem dX12_alike_240 : decode cX12_alike 240 = .ok (.iconst (-1), 1) := by decide +kernel
theorem dX12_alike_241 : decode cX12_alike 241 = .ok (.if_icmp .ne 8, 3) := by decide +kernel
theorem dX12_alike_244 : decode cX12_alike 244 = .ok (.iload 5, 2) := by decide +kernel
theorem dX12_alike_246 : decode cX12_alike 246 = .ok (.goto 9, 3) := by decide +kernel
theorem dX12_alike_249 : decode cX12_alike 249 = .ok (.aload_n 0, 1) := by decide +kernel
theorem dX12_alike_250 : decode cX12_alike 250 = .ok (.getfield 62, 3) := by decide +kernel
theorem dX12_alike_253 : decode cX12_alike 253 = .ok (.iload_n 2, 1) := by decide +kernel
theorem dX12_alike_254 : decode cX12_alike 254 = .ok (.iaload, 1) := by decide +kernel
theorem dX12_alike_255 : decode cX12_alike 255 = .ok (.ireturn, 1) := by decide +kernel
theorem dX12_tells_0 : decode cX12_tells 0 = .ok (.iload_n 1, 1) := by decide +kernel
theorem dX12_tells_1 : decode cX12_tells 1 = .ok (.ifCond .lt 47, 3) := by decide +kernel
theorem dX12_tells_4 : decode cX12_tells 4 = .ok (.iload_n 2, 1) := by decide +kernel
theorem dX12_tells_5 : decode cX12_tells 5 = .ok (.ifCond .lt 43, 3) := by decide +kernel
theorem dX12_tells_8 : decode cX12_tells 8 = .ok (.aload_n 0, 1) := by decide +kernel
theorem dX12_tells_9 : decode cX12_tells 9 = .ok (.iload_n 1, 1) := by decide +kernel
theorem dX12_tells_10 : decode cX12_tells 10 = .ok (.bipush 10, 2) := by decide +kernel
theorem dX12_tells_12 : decode cX12_tells 12 = .ok (.idiv, 1) := by decide +kernel
theorem dX12_tells_13 : decode cX12_tells 13 = .ok (.iload_n 1, 1) := by decide +kernel
theorem dX12_tells_14 : decode cX12_tells 14 = .ok (.bipush 10, 2) := by decide +kernel
theorem dX12_tells_16 : decode cX12_tells 16 = .ok (.irem, 1) := by decide +kernel
theorem dX12_tells_17 : decode cX12_tells 17 = .ok (.invokevirtual 165, 3) := by decide +kernel
theorem dX12_tells_20 : decode cX12_tells 20 = .ok (.ifCond .eq 28, 3) := by decide +kernel
theorem dX12_tells_23 : decode cX12_tells 23 = .ok (.aload_n 0, 1) := by decide +kernel
theorem dX12_tells_24 : decode cX12_tells 24 = .ok (.iload_n 2, 1) := by decide +kernel
theorem dX12_tells_25 : decode cX12_tells 25 = .ok (.bipush 10, 2) := by decide +kernel
theorem dX12_tells_27 : decode cX12_tells 27 = .ok (.idiv, 1) := by decide +kernel
theorem dX12_tells_28 : decode cX12_tells 28 = .ok (.iload_n 2, 1) := by decide +kernel
theorem dX12_tells_29 : decode cX12_tells 29 = .ok (.bipush 10, 2) := by decide +kernel
theorem dX12_tells_31 : decode cX12_tells 31 = .ok (.irem, 1) := by decide +kernel
theorem dX12_tells_32 : decode cX12_tells 32 = .ok (.invokevirtual 165, 3) := by decide +kernel
theorem dX12_tells_35 : decode cX12_tells 35 = .ok (.ifCond .eq 13, 3) := by decide +kernel
theorem dX12_tells_38 : decode cX12_tells 38 = .ok (.iload_n 3, 1) := by decide +kernel
theorem dX12_tells_39 : decode cX12_tells 39 = .ok (.i2l, 1) := by decide +kernel
theorem dX12_tells_40 : decode cX12_tells 40 = .ok (.lconst 0, 1) := by decide +kernel
theorem dX12_tells_41 : decode cX12_tells 41 = .ok (.lconst 1, 1) := by decide +kernel
theorem dX12_tells_42 : decode cX12_tells 42 = .ok (.invokestatic 133, 3) := by decide +kernel
theorem dX12_tells_45 : decode cX12_tells 45 = .ok (.ifCond .ne 6, 3) := by decide +kernel
theorem dX12_tells_48 : decode cX12_tells 48 = .ok (.bipush (-2), 2) := by decide +kernel
theorem dX12_tells_50 : decode cX12_tells 50 = .ok (.ireturn, 1) := by decide +kernel
theorem dX12_tells_51 : decode cX12_tells 51 = .ok (.iload_n 1, 1) := by decide +kernel
theorem dX12_tells_52 : decode cX12_tells 52 = .ok (.bipush 10, 2) := by decide +kernel
theorem dX12_tells_54 : decode cX12_tells 54 = .ok (.idiv, 1) := by decide +kernel
theorem dX12_tells_55 : decode cX12_tells 55 = .ok (.istore 4, 2) := by decide +kernel
theorem dX12_tells_57 : decode cX12_tells 57 = .ok (.iload_n 2, 1) := by decide +kernel
theorem dX12_tells_58 : decode cX12_tells 58 = .ok (.bipush 10, 2) := by decide +kernel
theorem dX12_tells_60 : decode cX12_tells 60 = .ok (.idiv, 1) := by decide +kernel
theorem dX12_tells_61 : decode cX12_tells 61 = .ok (.istore 5, 2) := by decide +kernel
theorem dX12_tells_63 : decode cX12_tells 63 = .ok (.aload_n 0, 1) := by decide +kernel
theorem dX12_tells_64 : decode cX12_tells 64 = .ok (.iload 4, 2) := by decide +kernel
theorem dX12_tells_66 : decode cX12_tells 66 = .ok (.iload_n 1, 1) := by decide +kernel
theorem dX12_tells_67 : decode cX12_tells 67 = .ok (.bipush 10, 2) := by decide +kernel
theorem dX12_tells_69 : decode cX12_tells 69 = .ok (.irem, 1) := by decide +kernel
theorem dX12_tells_70 : decode cX12_tells 70 = .ok (.invokevirtual 190, 3) := by decide +kernel
theorem dX12_tells_73 : decode cX12_tells 73 = .ok (.aload_n 0, 1) := by decide +kernel
theorem dX12_tells_74 : decode cX12_tells 74 = .ok (.iload 5, 2) := by decide +kernel
theorem dX12_tells_76 : decode cX12_tells 76 = .ok (.iload_n 2, 1) := by decide +kernel
theorem dX12_tells_77 : decode cX12_tells 77 = .ok (.bipush 10, 2) := by decide +kernel
theorem dX12_tells_79 : decode cX12_tells 79 = .ok (.irem, 1) := by decide +kernel
theorem dX12_tells_80 : decode cX12_tells 80 = .ok (.invokevirtual 190, 3) := by decide +kernel
theorem dX12_tells_83 : decode cX12_tells 83 = .ok (.if_icmp .eq 5, 3) := by decide +kernel
theorem dX12_tells_86 : decode cX12_tells 86 = .ok (.iconst 0, 1) := by decide +kernel
theorem dX12_tells_87 : decode cX12_tells 87 = .ok (.ireturn, 1) := by decide +kernel
theorem dX12_tells_88 : decode cX12_tells 88 = .ok (.iconst 0, 1) := by decide +kernel
theorem dX12_tells_89 : decode cX12_tells 89 = .ok (.istore 6, 2) := by decide +kernel
theorem dX12_tells_91 : decode cX12_tells 91 = .ok (.iload 6, 2) := by decide +kernel
theorem dX12_tells_93 : decode cX12_tells 93 = .ok (.bipush 100, 2) := by decide +kernel
theorem dX12_tells_95 : decode cX12_tells 95 = .ok (.if_icmp .ge 17, 3) := by decide +kernel
theorem dX12_tells_98 : decode cX12_tells 98 = .ok (.aload_n 0, 1) := by decide +kernel
theorem dX12_tells_99 : decode cX12_tells 99 = .ok (.getfield 68, 3) := by decide +kernel
theorem dX12_tells_102 : decode cX12_tells 102 = .ok (.iload 6, 2) := by decide +kernel
theorem dX12_tells_104 : decode cX12_tells 104 = .ok (.iconst 0, 1) := by decide +kernel
theorem dX12_tells_105 : decode cX12_tells 105 = .ok (.bastore, 1) := by decide +kernel
theorem dX12_tells_106 : decode cX12_tells 106 = .ok (.iinc 6 1, 3) := by decide +kernel
theorem dX12_tells_109 : decode cX12_tells 109 = .ok (.goto (-18), 3) := by decide +kernel
theorem dX12_tells_112 : decode cX12_tells 112 = .ok (.bipush 10, 2) := by decide +kernel
theorem dX12_tells_114 : decode cX12_tells 114 = .ok (.iload_n 1, 1) := by decide +kernel
theorem dX12_tells_115 : decode cX12_tells 115 = .ok (.bipush 10, 2) := by decide +kernel
theorem dX12_tells_117 : decode cX12_tells 117 = .ok (.irem, 1) := by decide +kernel
theorem dX12_tells_118 : decode cX12_tells 118 = .ok (.imul, 1) := by decide +kernel
theorem dX12_tells_119 : decode cX12_tells 119 = .ok (.iload_n 2, 1) := by decide +kernel
theorem dX12_tells_120 : decode cX12_tells 120 = .ok (.bipush 10, 2) := by decide +kernel
theorem dX12_tells_122 : decode cX12_tells 122 = .ok (.irem, 1) := by decide +kernel
theorem dX12_tells_123 : decode cX12_tells 123 = .ok (.iadd, 1) := by decide +kernel
theorem dX12_tells_124 : decode cX12_tells 124 = .ok (.istore 6, 2) := by decide +kernel
theorem dX12_tells_126 : decode cX12_tells 126 = .ok (.aload_n 0, 1) := by decide +kernel
theorem dX12_tells_127 : decode cX12_tells 127 = .ok (.getfield 68, 3) := by decide +kernel
theorem dX12_tells_130 : decode cX12_tells 130 = .ok (.iload 6, 2) := by decide +kernel
theorem dX12_tells_132 : decode cX12_tells 132 = .ok (.iconst 1, 1) := by decide +kernel
theorem dX12_tells_133 : decode cX12_tells 133 = .ok (.bastore, 1) := by decide +kernel
theorem dX12_tells_134 : decode cX12_tells 134 = .ok (.aload_n 0, 1) := by decide +kernel
theorem dX12_tells_135 : decode cX12_tells 135 = .ok (.getfield 72, 3) := by decide +kernel
theorem dX12_tells_138 : decode cX12_tells 138 = .ok (.iconst 0, 1) := by decide +kernel
theorem dX12_tells_139 : decode cX12_tells 139 = .ok (.iload 6, 2) := by decide +kernel
theorem dX12_tells_141 : decode cX12_tells 141 = .ok (.iastore, 1) := by decide +kernel
theorem dX12_tells_142 : decode cX12_tells 142 = .ok (.aload_n 0, 1) := by decide +kernel
theorem dX12_tells_143 : decode cX12_tells 143 = .ok (.getfield 75, 3) := by decide +kernel
theorem dX12_tells_146 : decode cX12_tells 146 = .ok (.iload 6, 2) := by decide +kernel
theorem dX12_tells_148 : decode cX12_tells 148 = .ok (.iconst 0, 1) := by decide +kernel
theorem dX12_tells_149 : decode cX12_tells 149 = .ok (.iastore, 1) := by decide +kernel
theorem dX12_tells_150 : decode cX12_tells 150 = .ok (.aload_n 0, 1) := by decide +kernel
theorem dX12_tells_151 : decode cX12_tells 151 = .ok (.getfield 78, 3) := by decide +kernel
theorem dX12_tells_154 : decode cX12_tells 154 = .ok (.iload 6, 2) := by decide +kernel
theorem dX12_tells_156 : decode cX12_tells 156 = .ok (.iconst 0, 1) := by decide +kernel
theorem dX12_tells_157 : decode cX12_tells 157 = .ok (.iastore, 1) := by decide +kernel
theorem dX12_tells_158 : decode cX12_tells 158 = .ok (.iconst 1, 1) := by decide +kernel
theorem dX12_tells_159 : decode cX12_tells 159 = .ok (.istore 7, 2) := by decide +kernel
theorem dX12_tells_161 : decode cX12_tells 161 = .ok (.iconst 0, 1) := by decide +kernel
theorem dX12_tells_162 : decode cX12_tells 162 = .ok (.istore 8, 2) := by decide +kernel
theorem dX12_tells_164 : decode cX12_tells 164 = .ok (.iload 8, 2) := by decide +kernel
theorem dX12_tells_166 : decode cX12_tells 166 = .ok (.iload 7, 2) := by decide +kernel
theorem dX12_tells_168 : decode cX12_tells 168 = .ok (.if_icmp .ge 242, 3) := by decide +kernel
theorem dX12_tells_171 : decode cX12_tells 171 = .ok (.aload_n 0, 1) := by decide +kernel
theorem dX12_tells_172 : decode cX12_tells 172 = .ok (.getfield 72, 3) := by decide +kernel
theorem dX12_tells_175 : decode cX12_tells 175 = .ok (.iload 8, 2) := by decide +kernel
theorem dX12_tells_177 : decode cX12_tells 177 = .ok (.iaload, 1) := by decide +kernel
theorem dX12_tells_178 : decode cX12_tells 178 = .ok (.istore 9, 2) := by decide +kernel
theorem dX12_tells_180 : decode cX12_tells 180 = .ok (.iconst 0, 1) := by decide +kernel
theorem dX12_tells_181 : decode cX12_tells 181 = .ok (.istore 10, 2) := by decide +kernel
theorem dX12_tells_183 : decode cX12_tells 183 = .ok (.iload 10, 2) := by decide +kernel
theorem dX12_tells_185 : decode cX12_tells 185 = .ok (.iconst 4, 1) := by decide +kernel
theorem dX12_tells_186 : decode cX12_tells 186 = .ok (.if_icmp .ge 218, 3) := by decide +kernel
theorem dX12_tells_189 : decode cX12_tells 189 = .ok (.aload_n 0, 1) := by decide +kernel
theorem dX12_tells_190 : decode cX12_tells 190 = .ok (.iload 4, 2) := by decide +kernel
theorem dX12_tells_192 : decode cX12_tells 192 = .ok (.iload 9, 2) := by decide +kernel
theorem dX12_tells_194 : decode cX12_tells 194 = .ok (.bipush 10, 2) := by decide +kernel
theorem dX12_tells_196 : decode cX12_tells 196 = .ok (.idiv, 1) := by decide +kernel
theorem dX12_tells_197 : decode cX12_tells 197 = .ok (.iload 10, 2) := by decide +kernel
theorem dX12_tells_199 : decode cX12_tells 199 = .ok (.invokevirtual 170, 3) := by decide +kernel
theorem dX12_tells_202 : decode cX12_tells 202 = .ok (.istore 11, 2) := by decide +kernel
theorem dX12_tells_204 : decode cX12_tells 204 = .ok (.iload 11, 2) := by decide +kernel
theorem dX12_tells_206 : decode cX12_tells 206 = .ok (.iconst (-1), 1) := by decide +kernel
theorem dX12_tells_207 : decode cX12_tells 207 = .ok (.if_icmp .ne 6, 3) := by decide +kernel
theorem dX12_tells_210 : decode cX12_tells 210 = .ok (.goto 188, 3) := by decide +kernel
theorem dX12_tells_213 : decode cX12_tells 213 = .ok (.aload_n 0, 1) := by decide +kernel
theorem dX12_tells_214 : decode cX12_tells 214 = .ok (.iload 5, 2) := by decide +kernel
theorem dX12_tells_216 : decode cX12_tells 216 = .ok (.iload 9, 2) := by decide +kernel
theorem dX12_tells_218 : decode cX12_tells 218 = .ok (.bipush 10, 2) := by decide +kernel
theorem dX12_tells_220 : decode cX12_tells 220 = .ok (.irem, 1) := by decide +kernel
theorem dX12_tells_221 : decode cX12_tells 221 = .ok (.iload 10, 2) := by decide +kernel
theorem dX12_tells_223 : decode cX12_tells 223 = .ok (.invokevirtual 170, 3) := by decide +kernel
theorem dX12_tells_226 : decode cX12_tells 226 = .ok (.istore 12, 2) := by decide +kernel
theorem dX12_tells_228 : decode cX12_tells 228 = .ok (.aload_n 0, 1) := by decide +kernel
theorem dX12_tells_229 : decode cX12_tells 229 = .ok (.getfield 75, 3) := by decide +kernel
theorem dX12_tells_232 : decode cX12_tells 232 = .ok (.iload 9, 2) := by decide +kernel
theorem dX12_tells_234 : decode cX12_tells 234 = .ok (.iaload, 1) := by decide +kernel
theorem dX12_tells_235 : decode cX12_tells 235 = .ok (.bipush 8, 2) := by decide +kernel
theorem dX12_tells_237 : decode cX12_tells 237 = .ok (.if_icmp .ge 21, 3) := by decide +kernel
theorem dX12_tells_240 : decode cX12_tells 240 = .ok (.bipush 10, 2) := by decide +kernel
theorem dX12_tells_242 : decode cX12_tells 242 = .ok (.aload_n 0, 1) := by decide +kernel
theorem dX12_tells_243 : decode cX12_tells 243 = .ok (.getfield 78, 3) := by decide +kernel
theorem dX12_tells_246 : decode cX12_tells 246 = .ok (.iload 9, 2) := by decide +kernel
theorem dX12_tells_248 : decode cX12_tells 248 = .ok (.iaload, 1) := by decide +kernel
theorem dX12_tells_249 : decode cX12_tells 249 = .ok (.imul, 1) := by decide +kernel
theorem dX12_tells_250 : decode cX12_tells 250 = .ok (.iload 10, 2) := by decide +kernel
theorem dX12_tells_252 : decode cX12_tells 252 = .ok (.iadd, 1) := by decide +kernel
theorem dX12_tells_253 : decode cX12_tells 253 = .ok (.iconst 1, 1) := by decide +kernel
theorem dX12_tells_254 : decode cX12_tells 254 = .ok (.iadd, 1) := by decide +kernel
theorem dX12_tells_255 : decode cX12_tells 255 = .ok (.goto 10, 3) := by decide +kernel
theorem dX12_tells_258 : decode cX12_tells 258 = .ok (.aload_n 0, 1) := by decide +kernel
theorem dX12_tells_259 : decode cX12_tells 259 = .ok (.getfield 78, 3) := by decide +kernel
theorem dX12_tells_262 : decode cX12_tells 262 = .ok (.iload 9, 2) := by decide +kernel
theorem dX12_tells_264 : decode cX12_tells 264 = .ok (.iaload, 1) := by decide +kernel
theorem dX12_tells_265 : decode cX12_tells 265 = .ok (.istore 13, 2) := by decide +kernel
theorem dX12_tells_267 : decode cX12_tells 267 = .ok (.iload 11, 2) := by decide +kernel
theorem dX12_tells_269 : decode cX12_tells 269 = .ok (.bipush 10, 2) := by decide +kernel
theorem dX12_tells_271 : decode cX12_tells 271 = .ok (.irem, 1) := by decide +kernel
theorem dX12_tells_272 : decode cX12_tells 272 = .ok (.iload 12, 2) := by decide +kernel
theorem dX12_tells_274 : decode cX12_tells 274 = .ok (.bipush 10, 2) := by decide +kernel
theorem dX12_tells_276 : decode cX12_tells 276 = .ok (.irem, 1) := by decide +kernel
theorem dX12_tells_277 : decode cX12_tells 277 = .ok (.if_icmp .ne 28, 3) := by decide +kernel
theorem dX12_tells_280 : decode cX12_tells 280 = .ok (.aload_n 0, 1) := by decide +kernel
theorem dX12_tells_281 : decode cX12_tells 281 = .ok (.iload 4, 2) := by decide +kernel
theorem dX12_tells_283 : decode cX12_tells 283 = .ok (.iload 11, 2) := by decide +kernel
theorem dX12_tells_285 : decode cX12_tells 285 = .ok (.bipush 10, 2) := by decide +kernel
theorem dX12_tells_287 : decode cX12_tells 287 = .ok (.idiv, 1) := by decide +kernel
theorem dX12_tells_288 : decode cX12_tells 288 = .ok (.invokevirtual 190, 3) := by decide +kernel
theorem dX12_tells_291 : decode cX12_tells 291 = .ok (.aload_n 0, 1) := by decide +kernel
theorem dX12_tells_292 : decode cX12_tells 292 = .ok (.iload 5, 2) := by decide +kernel
theorem dX12_tells_294 : decode cX12_tells 294 = .ok (.iload 12, 2) := by decide +kernel
theorem dX12_tells_296 : decode cX12_tells 296 = .ok (.bipush 10, 2) := by decide +kernel
theorem dX12_tells_298 : decode cX12_tells 298 = .ok (.idiv, 1) := by decide +kernel
theorem dX12_tells_299 : decode cX12_tells 299 = .ok (.invokevirtual 190, 3) := by decide +kernel
theorem dX12_tells_302 : decode cX12_tells 302 = .ok (.if_icmp .eq 22, 3) := by decide +kernel
theorem dX12_tells_305 : decode cX12_tells 305 = .ok (.iload_n 3, 1) := by decide +kernel
theorem dX12_tells_306 : decode cX12_tells 306 = .ok (.ifCond .ne 15, 3) := by decide +kernel
theorem dX12_tells_309 : decode cX12_tells 309 = .ok (.aload_n 0, 1) := by decide +kernel
theorem dX12_tells_310 : decode cX12_tells 310 = .ok (.getfield 75, 3) := by decide +kernel
theorem dX12_tells_313 : decode cX12_tells 313 = .ok (.iload 9, 2) := by decide +kernel
theorem dX12_tells_315 : decode cX12_tells 315 = .ok (.iaload, 1) := by decide +kernel
theorem dX12_tells_316 : decode cX12_tells 316 = .ok (.iconst 1, 1) := by decide +kernel
theorem dX12_tells_317 : decode cX12_tells 317 = .ok (.iadd, 1) := by decide +kernel
theorem dX12_tells_318 : decode cX12_tells 318 = .ok (.goto 5, 3) := by decide +kernel
theorem dX12_tells_321 : decode cX12_tells 321 = .ok (.iload 13, 2) := by decide +kernel
theorem dX12_tells_323 : decode cX12_tells 323 = .ok (.ireturn, 1) := by decide +kernel
theorem dX12_tells_324 : decode cX12_tells 324 = .ok (.bipush 10, 2) := by decide +kernel
theorem dX12_tells_326 : decode cX12_tells 326 = .ok (.iload 11, 2) := by decide +kernel
theorem dX12_tells_328 : decode cX12_tells 328 = .ok (.bipush 10, 2) := by decide +kernel
theorem dX12_tells_330 : decode cX12_tells 330 = .ok (.idiv, 1) := by decide +kernel
theorem dX12_tells_331 : decode cX12_tells 331 = .ok (.imul, 1) := by decide +kernel
theorem dX12_tells_332 : decode cX12_tells 332 = .ok (.iload 12, 2) := by decide +kernel
theorem dX12_tells_334 : decode cX12_tells 334 = .ok (.bipush 10, 2) := by decide +kernel
theorem dX12_tells_336 : decode cX12_tells 336 = .ok (.idiv, 1) := by decide +kernel
theorem dX12_tells_337 : decode cX12_tells 337 = .ok (.iadd, 1) := by decide +kernel
theorem dX12_tells_338 : decode cX12_tells 338 = .ok (.istore 14, 2) := by decide +kernel
theorem dX12_tells_340 : decode cX12_tells 340 = .ok (.aload_n 0, 1) := by decide +kernel
theorem dX12_tells_341 : decode cX12_tells 341 = .ok (.getfield 68, 3) := by decide +kernel
theorem dX12_tells_344 : decode cX12_tells 344 = .ok (.iload 14, 2) := by decide +kernel
theorem dX12_tells_346 : decode cX12_tells 346 = .ok (.baload, 1) := by decide +kernel
theorem dX12_tells_347 : decode cX12_tells 347 = .ok (.ifCond .eq 6, 3) := by decide +kernel
theorem dX12_tells_350 : decode cX12_tells 350 = .ok (.goto 48, 3) := by decide +kernel
theorem dX12_tells_353 : decode cX12_tells 353 = .ok (.aload_n 0, 1) := by decide +kernel
theorem dX12_tells_354 : decode cX12_tells 354 = .ok (.getfield 68, 3) := by decide +kernel
theorem dX12_tells_357 : decode cX12_tells 357 = .ok (.iload 14, 2) := by decide +kernel
theorem dX12_tells_359 : decode cX12_tells 359 = .ok (.iconst 1, 1) := by decide +kernel
theorem dX12_tells_360 : decode cX12_tells 360 = .ok (.bastore, 1) := by decide +kernel
theorem dX12_tells_361 : decode cX12_tells 361 = .ok (.aload_n 0, 1) := by decide +kernel
theorem dX12_tells_362 : decode cX12_tells 362 = .ok (.getfield 75, 3) := by decide +kernel
theorem dX12_tells_365 : decode cX12_tells 365 = .ok (.iload 14, 2) := by decide +kernel
theorem dX12_tells_367 : decode cX12_tells 367 = .ok (.aload_n 0, 1) := by decide +kernel
theorem dX12_tells_368 : decode cX12_tells 368 = .ok (.getfield 75, 3) := by decide +kernel
theorem dX12_tells_371 : decode cX12_tells 371 = .ok (.iload 9, 2) := by decide +kernel
theorem dX12_tells_373 : decode cX12_tells 373 = .ok (.iaload, 1) := by decide +kernel
theorem dX12_tells_374 : decode cX12_tells 374 = .ok (.iconst 1, 1) := by decide +kernel
theorem dX12_tells_375 : decode cX12_tells 375 = .ok (.iadd, 1) := by decide +kernel
theorem dX12_tells_376 : decode cX12_tells 376 = .ok (.iastore, 1) := by decide +kernel
theorem dX12_tells_377 : decode cX12_tells 377 = .ok (.aload_n 0, 1) := by decide +kernel
theorem dX12_tells_378 : decode cX12_tells 378 = .ok (.getfield 78, 3) := by decide +kernel
theorem dX12_tells_381 : decode cX12_tells 381 = .ok (.iload 14, 2) := by decide +kernel
theorem dX12_tells_383 : decode cX12_tells 383 = .ok (.iload 13, 2) := by decide +kernel
theorem dX12_tells_385 : decode cX12_tells 385 = .ok (.iastore, 1) := by decide +kernel
theorem dX12_tells_386 : decode cX12_tells 386 = .ok (.aload_n 0, 1) := by decide +kernel
theorem dX12_tells_387 : decode cX12_tells 387 = .ok (.getfield 72, 3) := by decide +kernel
theorem dX12_tells_390 : decode cX12_tells 390 = .ok (.iload 7, 2) := by decide +kernel
theorem dX12_tells_392 : decode cX12_tells 392 = .ok (.iload 14, 2) := by decide +kernel
theorem dX12_tells_394 : decode cX12_tells 394 = .ok (.iastore, 1) := by decide +kernel
theorem dX12_tells_395 : decode cX12_tells 395 = .ok (.iinc 7 1, 3) := by decide +kernel
theorem dX12_tells_398 : decode cX12_tells 398 = .ok (.iinc 10 1, 3) := by decide +kernel
theorem dX12_tells_401 : decode cX12_tells 401 = .ok (.goto (-218), 3) := by decide +kernel
theorem dX12_tells_404 : decode cX12_tells 404 = .ok (.iinc 8 1, 3) := by decide +kernel
theorem dX12_tells_407 : decode cX12_tells 407 = .ok (.goto (-243), 3) := by decide +kernel
theorem dX12_tells_410 : decode cX12_tells 410 = .ok (.iconst (-1), 1) := by decide +kernel
theorem dX12_tells_411 : decode cX12_tells 411 = .ok (.ireturn, 1) := by decide +kernel
theorem dX12_goes_0 : decode cX12_goes 0 = .ok (.iconst 1, 1) := by decide +kernel
theorem dX12_goes_1 : decode cX12_goes 1 = .ok (.aload_n 0, 1) := by decide +kernel
theorem dX12_goes_2 : decode cX12_goes 2 = .ok (.getfield 26, 3) := by decide +kernel
theorem dX12_goes_5 : decode cX12_goes 5 = .ok (.iload_n 1, 1) := by decide +kernel
theorem dX12_goes_6 : decode cX12_goes 6 = .ok (.iaload, 1) := by decide +kernel
theorem dX12_goes_7 : decode cX12_goes 7 = .ok (.ishl, 1) := by decide +kernel
theorem dX12_goes_8 : decode cX12_goes 8 = .ok (.iconst 1, 1) := by decide +kernel
theorem dX12_goes_9 : decode cX12_goes 9 = .ok (.isub, 1) := by decide +kernel
theorem dX12_goes_10 : decode cX12_goes 10 = .ok (.istore 5, 2) := by decide +kernel
theorem dX12_goes_12 : decode cX12_goes 12 = .ok (.iconst 0, 1) := by decide +kernel
theorem dX12_goes_13 : decode cX12_goes 13 = .ok (.istore 6, 2) := by decide +kernel
theorem dX12_goes_15 : decode cX12_goes 15 = .ok (.iload 6, 2) := by decide +kernel
theorem dX12_goes_17 : decode cX12_goes 17 = .ok (.sipush 10240, 3) := by decide +kernel
theorem dX12_goes_20 : decode cX12_goes 20 = .ok (.if_icmp .ge 17, 3) := by decide +kernel
theorem dX12_goes_23 : decode cX12_goes 23 = .ok (.aload_n 0, 1) := by decide +kernel
theorem dX12_goes_24 : decode cX12_goes 24 = .ok (.getfield 81, 3) := by decide +kernel
theorem dX12_goes_27 : decode cX12_goes 27 = .ok (.iload 6, 2) := by decide +kernel
theorem dX12_goes_29 : decode cX12_goes 29 = .ok (.iconst (-1), 1) := by decide +kernel
theorem dX12_goes_30 : decode cX12_goes 30 = .ok (.iastore, 1) := by decide +kernel
theorem dX12_goes_31 : decode cX12_goes 31 = .ok (.iinc 6 1, 3) := by decide +kernel
theorem dX12_goes_34 : decode cX12_goes 34 = .ok (.goto (-19), 3) := by decide +kernel
theorem dX12_goes_37 : decode cX12_goes 37 = .ok (.sipush 1024, 3) := by decide +kernel
theorem dX12_goes_40 : decode cX12_goes 40 = .ok (.iload_n 2, 1) := by decide +kernel
theorem dX12_goes_41 : decode cX12_goes 41 = .ok (.imul, 1) := by decide +kernel
theorem dX12_goes_42 : decode cX12_goes 42 = .ok (.iload 4, 2) := by decide +kernel
theorem dX12_goes_44 : decode cX12_goes 44 = .ok (.ifCond .eq 9, 3) := by decide +kernel
theorem dX12_goes_47 : decode cX12_goes 47 = .ok (.iconst 1, 1) := by decide +kernel
theorem dX12_goes_48 : decode cX12_goes 48 = .ok (.iload_n 2, 1) := by decide +kernel
theorem dX12_goes_49 : decode cX12_goes 49 = .ok (.ishl, 1) := by decide +kernel
theorem dX12_goes_50 : decode cX12_goes 50 = .ok (.goto 4, 3) := by decide +kernel
theorem dX12_goes_53 : decode cX12_goes 53 = .ok (.iconst 0, 1) := by decide +kernel
theorem dX12_goes_54 : decode cX12_goes 54 = .ok (.iadd, 1) := by decide +kernel
theorem dX12_goes_55 : decode cX12_goes 55 = .ok (.istore 6, 2) := by decide +kernel
theorem dX12_goes_57 : decode cX12_goes 57 = .ok (.aload_n 0, 1) := by decide +kernel
theorem dX12_goes_58 : decode cX12_goes 58 = .ok (.getfield 81, 3) := by decide +kernel
theorem dX12_goes_61 : decode cX12_goes 61 = .ok (.iload 6, 2) := by decide +kernel
theorem dX12_goes_63 : decode cX12_goes 63 = .ok (.iconst 0, 1) := by decide +kernel
theorem dX12_goes_64 : decode cX12_goes 64 = .ok (.iastore, 1) := by decide +kernel
theorem dX12_goes_65 : decode cX12_goes 65 = .ok (.aload_n 0, 1) := by decide +kernel
theorem dX12_goes_66 : decode cX12_goes 66 = .ok (.getfield 84, 3) := by decide +kernel
theorem dX12_goes_69 : decode cX12_goes 69 = .ok (.iconst 0, 1) := by decide +kernel
theorem dX12_goes_70 : decode cX12_goes 70 = .ok (.iload 6, 2) := by decide +kernel
theorem dX12_goes_72 : decode cX12_goes 72 = .ok (.iastore, 1) := by decide +kernel
theorem dX12_goes_73 : decode cX12_goes 73 = .ok (.iconst 1, 1) := by decide +kernel
theorem dX12_goes_74 : decode cX12_goes 74 = .ok (.istore 7, 2) := by decide +kernel
theorem dX12_goes_76 : decode cX12_goes 76 = .ok (.iconst 0, 1) := by decide +kernel
theorem dX12_goes_77 : decode cX12_goes 77 = .ok (.istore 8, 2) := by decide +kernel
theorem dX12_goes_79 : decode cX12_goes 79 = .ok (.iload 8, 2) := by decide +kernel
theorem dX12_goes_81 : decode cX12_goes 81 = .ok (.iload 7, 2) := by decide +kernel
theorem dX12_goes_83 : decode cX12_goes 83 = .ok (.if_icmp .ge 171, 3) := by decide +kernel
theorem dX12_goes_86 : decode cX12_goes 86 = .ok (.aload_n 0, 1) := by decide +kernel
theorem dX12_goes_87 : decode cX12_goes 87 = .ok (.getfield 84, 3) := by decide +kernel
theorem dX12_goes_90 : decode cX12_goes 90 = .ok (.iload 8, 2) := by decide +kernel
theorem dX12_goes_92 : decode cX12_goes 92 = .ok (.iaload, 1) := by decide +kernel
theorem dX12_goes_93 : decode cX12_goes 93 = .ok (.istore 9, 2) := by decide +kernel
theorem dX12_goes_95 : decode cX12_goes 95 = .ok (.iload 4, 2) := by decide +kernel
theorem dX12_goes_97 : decode cX12_goes 97 = .ok (.ifCond .eq 17, 3) := by decide +kernel
theorem dX12_goes_100 : decode cX12_goes 100 = .ok (.iload 9, 2) := by decide +kernel
theorem dX12_goes_102 : decode cX12_goes 102 = .ok (.sipush 1024, 3) := by decide +kernel
theorem dX12_goes_105 : decode cX12_goes 105 = .ok (.irem, 1) := by decide +kernel
theorem dX12_goes_106 : decode cX12_goes 106 = .ok (.iload 5, 2) := by decide +kernel
theorem dX12_goes_108 : decode cX12_goes 108 = .ok (.if_icmp .ne 24, 3) := by decide +kernel
theorem dX12_goes_111 : decode cX12_goes 111 = .ok (.goto 13, 3) := by decide +kernel
theorem dX12_goes_114 : decode cX12_goes 114 = .ok (.iload 9, 2) := by decide +kernel
theorem dX12_goes_116 : decode cX12_goes 116 = .ok (.sipush 1024, 3) := by decide +kernel
theorem dX12_goes_119 : decode cX12_goes 119 = .ok (.idiv, 1) := by decide +kernel
theorem dX12_goes_120 : decode cX12_goes 120 = .ok (.iload_n 3, 1) := by decide +kernel
theorem dX12_goes_121 : decode cX12_goes 121 = .ok (.if_icmp .ne 11, 3) := by decide +kernel
theorem dX12_goes_124 : decode cX12_goes 124 = .ok (.aload_n 0, 1) := by decide +kernel
theorem dX12_goes_125 : decode cX12_goes 125 = .ok (.getfield 81, 3) := by decide +kernel
theorem dX12_goes_128 : decode cX12_goes 128 = .ok (.iload 9, 2) := by decide +kernel
theorem dX12_goes_130 : decode cX12_goes 130 = .ok (.iaload, 1) := by decide +kernel
theorem dX12_goes_131 : decode cX12_goes 131 = .ok (.ireturn, 1) := by decide +kernel
theorem dX12_goes_132 : decode cX12_goes 132 = .ok (.iconst 0, 1) := by decide +kernel
theorem dX12_goes_133 : decode cX12_goes 133 = .ok (.istore 10, 2) := by decide +kernel
theorem dX12_goes_135 : decode cX12_goes 135 = .ok (.iload 10, 2) := by decide +kernel
theorem dX12_goes_137 : decode cX12_goes 137 = .ok (.iconst 4, 1) := by decide +kernel
theorem dX12_goes_138 : decode cX12_goes 138 = .ok (.if_icmp .ge 110, 3) := by decide +kernel
theorem dX12_goes_141 : decode cX12_goes 141 = .ok (.aload_n 0, 1) := by decide +kernel
theorem dX12_goes_142 : decode cX12_goes 142 = .ok (.iload_n 1, 1) := by decide +kernel
theorem dX12_goes_143 : decode cX12_goes 143 = .ok (.iload 9, 2) := by decide +kernel
theorem dX12_goes_145 : decode cX12_goes 145 = .ok (.sipush 1024, 3) := by decide +kernel
theorem dX12_goes_148 : decode cX12_goes 148 = .ok (.idiv, 1) := by decide +kernel
theorem dX12_goes_149 : decode cX12_goes 149 = .ok (.iload 10, 2) := by decide +kernel
theorem dX12_goes_151 : decode cX12_goes 151 = .ok (.invokevirtual 170, 3) := by decide +kernel
theorem dX12_goes_154 : decode cX12_goes 154 = .ok (.istore 11, 2) := by decide +kernel
theorem dX12_goes_156 : decode cX12_goes 156 = .ok (.iload 11, 2) := by decide +kernel
theorem dX12_goes_158 : decode cX12_goes 158 = .ok (.iconst (-1), 1) := by decide +kernel
theorem dX12_goes_159 : decode cX12_goes 159 = .ok (.if_icmp .ne 6, 3) := by decide +kernel
theorem dX12_goes_162 : decode cX12_goes 162 = .ok (.goto 80, 3) := by decide +kernel
theorem dX12_goes_165 : decode cX12_goes 165 = .ok (.sipush 1024, 3) := by decide +kernel
theorem dX12_goes_168 : decode cX12_goes 168 = .ok (.iload 11, 2) := by decide +kernel
theorem dX12_goes_170 : decode cX12_goes 170 = .ok (.bipush 10, 2) := by decide +kernel
theorem dX12_goes_172 : decode cX12_goes 172 = .ok (.idiv, 1) := by decide +kernel
theorem dX12_goes_173 : decode cX12_goes 173 = .ok (.imul, 1) := by decide +kernel
theorem dX12_goes_174 : decode cX12_goes 174 = .ok (.iload 4, 2) := by decide +kernel
theorem dX12_goes_176 : decode cX12_goes 176 = .ok (.ifCond .eq 20, 3) := by decide +kernel
theorem dX12_goes_179 : decode cX12_goes 179 = .ok (.iload 9, 2) := by decide +kernel
theorem dX12_goes_181 : decode cX12_goes 181 = .ok (.sipush 1024, 3) := by decide +kernel
theorem dX12_goes_184 : decode cX12_goes 184 = .ok (.irem, 1) := by decide +kernel
theorem dX12_goes_185 : decode cX12_goes 185 = .ok (.iconst 1, 1) := by decide +kernel
theorem dX12_goes_186 : decode cX12_goes 186 = .ok (.iload 11, 2) := by decide +kernel
theorem dX12_goes_188 : decode cX12_goes 188 = .ok (.bipush 10, 2) := by decide +kernel
theorem dX12_goes_190 : decode cX12_goes 190 = .ok (.idiv, 1) := by decide +kernel
theorem dX12_goes_191 : decode cX12_goes 191 = .ok (.ishl, 1) := by decide +kernel
theorem dX12_goes_192 : decode cX12_goes 192 = .ok (.ior, 1) := by decide +kernel
theorem dX12_goes_193 : decode cX12_goes 193 = .ok (.goto 4, 3) := by decide +kernel
theorem dX12_goes_196 : decode cX12_goes 196 = .ok (.iconst 0, 1) := by decide +kernel
theorem dX12_goes_197 : decode cX12_goes 197 = .ok (.iadd, 1) := by decide +kernel
theorem dX12_goes_198 : decode cX12_goes 198 = .ok (.istore 12, 2) := by decide +kernel
theorem dX12_goes_200 : decode cX12_goes 200 = .ok (.aload_n 0, 1) := by decide +kernel
theorem dX12_goes_201 : decode cX12_goes 201 = .ok (.getfield 81, 3) := by decide +kernel
theorem dX12_goes_204 : decode cX12_goes 204 = .ok (.iload 12, 2) := by decide +kernel
theorem dX12_goes_206 : decode cX12_goes 206 = .ok (.iaload, 1) := by decide +kernel
theorem dX12_goes_207 : decode cX12_goes 207 = .ok (.iconst (-1), 1) := by decide +kernel
theorem dX12_goes_208 : decode cX12_goes 208 = .ok (.if_icmp .eq 6, 3) := by decide +kernel
theorem dX12_goes_211 : decode cX12_goes 211 = .ok (.goto 31, 3) := by decide +kernel
theorem dX12_goes_214 : decode cX12_goes 214 = .ok (.aload_n 0, 1) := by decide +kernel
theorem dX12_goes_215 : decode cX12_goes 215 = .ok (.getfield 81, 3) := by decide +kernel
theorem dX12_goes_218 : decode cX12_goes 218 = .ok (.iload 12, 2) := by decide +kernel
theorem dX12_goes_220 : decode cX12_goes 220 = .ok (.aload_n 0, 1) := by decide +kernel
theorem dX12_goes_221 : decode cX12_goes 221 = .ok (.getfield 81, 3) := by decide +kernel
theorem dX12_goes_224 : decode cX12_goes 224 = .ok (.iload 9, 2) := by decide +kernel
theorem dX12_goes_226 : decode cX12_goes 226 = .ok (.iaload, 1) := by decide +kernel
theorem dX12_goes_227 : decode cX12_goes 227 = .ok (.iconst 1, 1) := by decide +kernel
theorem dX12_goes_228 : decode cX12_goes 228 = .ok (.iadd, 1) := by decide +kernel
theorem dX12_goes_229 : decode cX12_goes 229 = .ok (.iastore, 1) := by decide +kernel
theorem dX12_goes_230 : decode cX12_goes 230 = .ok (.aload_n 0, 1) := by decide +kernel
theorem dX12_goes_231 : decode cX12_goes 231 = .ok (.getfield 84, 3) := by decide +kernel
theorem dX12_goes_234 : decode cX12_goes 234 = .ok (.iload 7, 2) := by decide +kernel
theorem dX12_goes_236 : decode cX12_goes 236 = .ok (.iload 12, 2) := by decide +kernel
theorem dX12_goes_238 : decode cX12_goes 238 = .ok (.iastore, 1) := by decide +kernel
theorem dX12_goes_239 : decode cX12_goes 239 = .ok (.iinc 7 1, 3) := by decide +kernel
theorem dX12_goes_242 : decode cX12_goes 242 = .ok (.iinc 10 1, 3) := by decide +kernel
theorem dX12_goes_245 : decode cX12_goes 245 = .ok (.goto (-110), 3) := by decide +kernel
theorem dX12_goes_248 : decode cX12_goes 248 = .ok (.iinc 8 1, 3) := by decide +kernel
theorem dX12_goes_251 : decode cX12_goes 251 = .ok (.goto (-172), 3) := by decide +kernel
theorem dX12_goes_254 : decode cX12_goes 254 = .ok (.iconst (-1), 1) := by decide +kernel
theorem dX12_goes_255 : decode cX12_goes 255 = .ok (.ireturn, 1) := by decide +kernel
theorem dX12_way_0 : decode cX12_way 0 = .ok (.iload_n 2, 1) := by decide +kernel
theorem dX12_way_1 : decode cX12_way 1 = .ok (.ifCond .lt 44, 3) := by decide +kernel
theorem dX12_way_4 : decode cX12_way 4 = .ok (.aload_n 0, 1) := by decide +kernel
theorem dX12_way_5 : decode cX12_way 5 = .ok (.iload_n 1, 1) := by decide +kernel
theorem dX12_way_6 : decode cX12_way 6 = .ok (.iload_n 2, 1) := by decide +kernel
theorem dX12_way_7 : decode cX12_way 7 = .ok (.bipush 10, 2) := by decide +kernel
theorem dX12_way_9 : decode cX12_way 9 = .ok (.idiv, 1) := by decide +kernel
theorem dX12_way_10 : decode cX12_way 10 = .ok (.invokevirtual 165, 3) := by decide +kernel
theorem dX12_way_13 : decode cX12_way 13 = .ok (.ifCond .eq 32, 3) := by decide +kernel
theorem dX12_way_16 : decode cX12_way 16 = .ok (.aload_n 0, 1) := by decide +kernel
theorem dX12_way_17 : decode cX12_way 17 = .ok (.iload_n 1, 1) := by decide +kernel
theorem dX12_way_18 : decode cX12_way 18 = .ok (.iload_n 2, 1) := by decide +kernel
theorem dX12_way_19 : decode cX12_way 19 = .ok (.bipush 10, 2) := by decide +kernel
theorem dX12_way_21 : decode cX12_way 21 = .ok (.irem, 1) := by decide +kernel
theorem dX12_way_22 : decode cX12_way 22 = .ok (.invokevirtual 165, 3) := by decide +kernel
theorem dX12_way_25 : decode cX12_way 25 = .ok (.ifCond .eq 20, 3) := by decide +kernel
theorem dX12_way_28 : decode cX12_way 28 = .ok (.aload_n 0, 1) := by decide +kernel
theorem dX12_way_29 : decode cX12_way 29 = .ok (.iload_n 1, 1) := by decide +kernel
theorem dX12_way_30 : decode cX12_way 30 = .ok (.iload_n 2, 1) := by decide +kernel
theorem dX12_way_31 : decode cX12_way 31 = .ok (.bipush 10, 2) := by decide +kernel
theorem dX12_way_33 : decode cX12_way 33 = .ok (.idiv, 1) := by decide +kernel
theorem dX12_way_34 : decode cX12_way 34 = .ok (.iload_n 2, 1) := by decide +kernel
theorem dX12_way_35 : decode cX12_way 35 = .ok (.bipush 10, 2) := by decide +kernel
theorem dX12_way_37 : decode cX12_way 37 = .ok (.irem, 1) := by decide +kernel
theorem dX12_way_38 : decode cX12_way 38 = .ok (.iconst 0, 1) := by decide +kernel
theorem dX12_way_39 : decode cX12_way 39 = .ok (.invokevirtual 380, 3) := by decide +kernel
theorem dX12_way_42 : decode cX12_way 42 = .ok (.goto 5, 3) := by decide +kernel
theorem dX12_way_45 : decode cX12_way 45 = .ok (.bipush (-2), 2) := by decide +kernel
theorem dX12_way_47 : decode cX12_way 47 = .ok (.ireturn, 1) := by decide +kernel
theorem dX12_all_0 : decode cX12_all 0 = .ok (.aload_n 0, 1) := by decide +kernel
theorem dX12_all_1 : decode cX12_all 1 = .ok (.iload_n 1, 1) := by decide +kernel
theorem dX12_all_2 : decode cX12_all 2 = .ok (.iload_n 2, 1) := by decide +kernel
theorem dX12_all_3 : decode cX12_all 3 = .ok (.invokevirtual 165, 3) := by decide +kernel
theorem dX12_all_6 : decode cX12_all 6 = .ok (.ifCond .eq 14, 3) := by decide +kernel
theorem dX12_all_9 : decode cX12_all 9 = .ok (.aload_n 0, 1) := by decide +kernel
theorem dX12_all_10 : decode cX12_all 10 = .ok (.iload_n 1, 1) := by decide +kernel
theorem dX12_all_11 : decode cX12_all 11 = .ok (.iload_n 2, 1) := by decide +kernel
theorem dX12_all_12 : decode cX12_all 12 = .ok (.iconst 0, 1) := by decide +kernel
theorem dX12_all_13 : decode cX12_all 13 = .ok (.iconst 1, 1) := by decide +kernel
theorem dX12_all_14 : decode cX12_all 14 = .ok (.invokevirtual 380, 3) := by decide +kernel
theorem dX12_all_17 : decode cX12_all 17 = .ok (.goto 5, 3) := by decide +kernel
theorem dX12_all_20 : decode cX12_all 20 = .ok (.bipush (-2), 2) := by decide +kernel
theorem dX12_all_22 : decode cX12_all 22 = .ok (.ireturn, 1) := by decide +kernel
theorem dX12_free_0 : decode cX12_free 0 = .ok (.aload_n 0, 1) := by decide +kernel
theorem dX12_free_1 : decode cX12_free 1 = .ok (.iload_n 1, 1) := by decide +kernel
theorem dX12_free_2 : decode cX12_free 2 = .ok (.invokevirtual 137, 3) := by decide +kernel
theorem dX12_free_5 : decode cX12_free 5 = .ok (.ifCond .ne 6, 3) := by decide +kernel
theorem dX12_free_8 : decode cX12_free 8 = .ok (.bipush (-2), 2) := by decide +kernel
theorem dX12_free_10 : decode cX12_free 10 = .ok (.ireturn, 1) := by decide +kernel
theorem dX12_free_11 : decode cX12_free 11 = .ok (.iconst 0, 1) := by decide +kernel
theorem dX12_free_12 : decode cX12_free 12 = .ok (.istore_n 2, 1) := by decide +kernel
theorem dX12_free_13 : decode cX12_free 13 = .ok (.iconst 0, 1) := by decide +kernel
theorem dX12_free_14 : decode cX12_free 14 = .ok (.istore_n 3, 1) := by decide +kernel
theorem dX12_free_15 : decode cX12_free 15 = .ok (.iload_n 3, 1) := by decide +kernel
theorem dX12_free_16 : decode cX12_free 16 = .ok (.aload_n 0, 1) := by decide +kernel
theorem dX12_free_17 : decode cX12_free 17 = .ok (.getfield 26, 3) := by decide +kernel
theorem dX12_free_20 : decode cX12_free 20 = .ok (.iload_n 1, 1) := by decide +kernel
theorem dX12_free_21 : decode cX12_free 21 = .ok (.iaload, 1) := by decide +kernel
theorem dX12_free_22 : decode cX12_free 22 = .ok (.if_icmp .ge 72, 3) := by decide +kernel
theorem dX12_free_25 : decode cX12_free 25 = .ok (.iconst 1, 1) := by decide +kernel
theorem dX12_free_26 : decode cX12_free 26 = .ok (.istore 4, 2) := by decide +kernel
theorem dX12_free_28 : decode cX12_free 28 = .ok (.iconst 0, 1) := by decide +kernel
theorem dX12_free_29 : decode cX12_free 29 = .ok (.istore 5, 2) := by decide +kernel
theorem dX12_free_31 : decode cX12_free 31 = .ok (.iload 5, 2) := by decide +kernel
theorem dX12_free_33 : decode cX12_free 33 = .ok (.aload_n 0, 1) := by decide +kernel
theorem dX12_free_34 : decode cX12_free 34 = .ok (.getfield 26, 3) := by decide +kernel
theorem dX12_free_37 : decode cX12_free 37 = .ok (.iload_n 1, 1) := by decide +kernel
theorem dX12_free_38 : decode cX12_free 38 = .ok (.iaload, 1) := by decide +kernel
theorem dX12_free_39 : decode cX12_free 39 = .ok (.if_icmp .ge 34, 3) := by decide +kernel
theorem dX12_free_42 : decode cX12_free 42 = .ok (.iload 4, 2) := by decide +kernel
theorem dX12_free_44 : decode cX12_free 44 = .ok (.ifCond .eq 20, 3) := by decide +kernel
theorem dX12_free_47 : decode cX12_free 47 = .ok (.aload_n 0, 1) := by decide +kernel
theorem dX12_free_48 : decode cX12_free 48 = .ok (.iload_n 1, 1) := by decide +kernel
theorem dX12_free_49 : decode cX12_free 49 = .ok (.iload_n 3, 1) := by decide +kernel
theorem dX12_free_50 : decode cX12_free 50 = .ok (.iload 5, 2) := by decide +kernel
theorem dX12_free_52 : decode cX12_free 52 = .ok (.iconst 0, 1) := by decide +kernel
theorem dX12_free_53 : decode cX12_free 53 = .ok (.invokevirtual 380, 3) := by decide +kernel
theorem dX12_free_56 : decode cX12_free 56 = .ok (.iconst (-1), 1) := by decide +kernel
theorem dX12_free_57 : decode cX12_free 57 = .ok (.if_icmp .eq 7, 3) := by decide +kernel
theorem dX12_free_60 : decode cX12_free 60 = .ok (.iconst 1, 1) := by decide +kernel
theorem dX12_free_61 : decode cX12_free 61 = .ok (.goto 4, 3) := by decide +kernel
theorem dX12_free_64 : decode cX12_free 64 = .ok (.iconst 0, 1) := by decide +kernel
theorem dX12_free_65 : decode cX12_free 65 = .ok (.istore 4, 2) := by decide +kernel
theorem dX12_free_67 : decode cX12_free 67 = .ok (.iinc 5 1, 3) := by decide +kernel
theorem dX12_free_70 : decode cX12_free 70 = .ok (.goto (-39), 3) := by decide +kernel
theorem dX12_free_73 : decode cX12_free 73 = .ok (.iload_n 2, 1) := by decide +kernel
theorem dX12_free_74 : decode cX12_free 74 = .ok (.iload 4, 2) := by decide +kernel
theorem dX12_free_76 : decode cX12_free 76 = .ok (.ifCond .eq 9, 3) := by decide +kernel
theorem dX12_free_79 : decode cX12_free 79 = .ok (.iconst 1, 1) := by decide +kernel
theorem dX12_free_80 : decode cX12_free 80 = .ok (.iload_n 3, 1) := by decide +kernel
theorem dX12_free_81 : decode cX12_free 81 = .ok (.ishl, 1) := by decide +kernel
theorem dX12_free_82 : decode cX12_free 82 = .ok (.goto 4, 3) := by decide +kernel
theorem dX12_free_85 : decode cX12_free 85 = .ok (.iconst 0, 1) := by decide +kernel
theorem dX12_free_86 : decode cX12_free 86 = .ok (.ior, 1) := by decide +kernel
theorem dX12_free_87 : decode cX12_free 87 = .ok (.istore_n 2, 1) := by decide +kernel
theorem dX12_free_88 : decode cX12_free 88 = .ok (.iinc 3 1, 3) := by decide +kernel
theorem dX12_free_91 : decode cX12_free 91 = .ok (.goto (-76), 3) := by decide +kernel
theorem dX12_free_94 : decode cX12_free 94 = .ok (.iload_n 2, 1) := by decide +kernel
theorem dX12_free_95 : decode cX12_free 95 = .ok (.ireturn, 1) := by decide +kernel
theorem dX12_begins_0 : decode cX12_begins 0 = .ok (.aload_n 0, 1) := by decide +kernel
theorem dX12_begins_1 : decode cX12_begins 1 = .ok (.iload_n 1, 1) := by decide +kernel
theorem dX12_begins_2 : decode cX12_begins 2 = .ok (.invokevirtual 137, 3) := by decide +kernel
theorem dX12_begins_5 : decode cX12_begins 5 = .ok (.ifCond .eq 20, 3) := by decide +kernel
theorem dX12_begins_8 : decode cX12_begins 8 = .ok (.iload_n 2, 1) := by decide +kernel
theorem dX12_begins_9 : decode cX12_begins 9 = .ok (.invokestatic 384, 3) := by decide +kernel
theorem dX12_begins_12 : decode cX12_begins 12 = .ok (.ifCond .eq 13, 3) := by decide +kernel
theorem dX12_begins_15 : decode cX12_begins 15 = .ok (.iload_n 3, 1) := by decide +kernel
theorem dX12_begins_16 : decode cX12_begins 16 = .ok (.i2l, 1) := by decide +kernel
theorem dX12_begins_17 : decode cX12_begins 17 = .ok (.lconst 0, 1) := by decide +kernel
theorem dX12_begins_18 : decode cX12_begins 18 = .ok (.lconst 1, 1) := by decide +kernel
theorem dX12_begins_19 : decode cX12_begins 19 = .ok (.invokestatic 133, 3) := by decide +kernel
theorem dX12_begins_22 : decode cX12_begins 22 = .ok (.ifCond .ne 6, 3) := by decide +kernel
theorem dX12_begins_25 : decode cX12_begins 25 = .ok (.bipush (-2), 2) := by decide +kernel
theorem dX12_begins_27 : decode cX12_begins 27 = .ok (.ireturn, 1) := by decide +kernel
theorem dX12_begins_28 : decode cX12_begins 28 = .ok (.aload_n 0, 1) := by decide +kernel
theorem dX12_begins_29 : decode cX12_begins 29 = .ok (.getfield 99, 3) := by decide +kernel
theorem dX12_begins_32 : decode cX12_begins 32 = .ok (.iload_n 2, 1) := by decide +kernel
theorem dX12_begins_33 : decode cX12_begins 33 = .ok (.baload, 1) := by decide +kernel
theorem dX12_begins_34 : decode cX12_begins 34 = .ok (.ifCond .ne 6, 3) := by decide +kernel
theorem dX12_begins_37 : decode cX12_begins 37 = .ok (.bipush (-11), 2) := by decide +kernel
theorem dX12_begins_39 : decode cX12_begins 39 = .ok (.ireturn, 1) := by decide +kernel
theorem dX12_begins_40 : decode cX12_begins 40 = .ok (.aload_n 0, 1) := by decide +kernel
theorem dX12_begins_41 : decode cX12_begins 41 = .ok (.getfield 105, 3) := by decide +kernel
theorem dX12_begins_44 : decode cX12_begins 44 = .ok (.iload_n 2, 1) := by decide +kernel
theorem dX12_begins_45 : decode cX12_begins 45 = .ok (.iaload, 1) := by decide +kernel
theorem dX12_begins_46 : decode cX12_begins 46 = .ok (.iconst 2, 1) := by decide +kernel
theorem dX12_begins_47 : decode cX12_begins 47 = .ok (.irem, 1) := by decide +kernel
theorem dX12_begins_48 : decode cX12_begins 48 = .ok (.iconst 1, 1) := by decide +kernel
theorem dX12_begins_49 : decode cX12_begins 49 = .ok (.if_icmp .ne 6, 3) := by decide +kernel
theorem dX12_begins_52 : decode cX12_begins 52 = .ok (.bipush (-2), 2) := by decide +kernel
theorem dX12_begins_54 : decode cX12_begins 54 = .ok (.ireturn, 1) := by decide +kernel
theorem dX12_begins_55 : decode cX12_begins 55 = .ok (.iconst 0, 1) := by decide +kernel
theorem dX12_begins_56 : decode cX12_begins 56 = .ok (.istore 4, 2) := by decide +kernel
theorem dX12_begins_58 : decode cX12_begins 58 = .ok (.iload 4, 2) := by decide +kernel
theorem dX12_begins_60 : decode cX12_begins 60 = .ok (.aload_n 0, 1) := by decide +kernel
theorem dX12_begins_61 : decode cX12_begins 61 = .ok (.getfield 105, 3) := by decide +kernel
theorem dX12_begins_64 : decode cX12_begins 64 = .ok (.iload_n 2, 1) := by decide +kernel
theorem dX12_begins_65 : decode cX12_begins 65 = .ok (.iaload, 1) := by decide +kernel
theorem dX12_begins_66 : decode cX12_begins 66 = .ok (.if_icmp .ge 35, 3) := by decide +kernel
theorem dX12_begins_69 : decode cX12_begins 69 = .ok (.aload_n 0, 1) := by decide +kernel
theorem dX12_begins_70 : decode cX12_begins 70 = .ok (.getfield 108, 3) := by decide +kernel
theorem dX12_begins_73 : decode cX12_begins 73 = .ok (.bipush 40, 2) := by decide +kernel
theorem dX12_begins_75 : decode cX12_begins 75 = .ok (.iload_n 2, 1) := by decide +kernel
theorem dX12_begins_76 : decode cX12_begins 76 = .ok (.imul, 1) := by decide +kernel
theorem dX12_begins_77 : decode cX12_begins 77 = .ok (.iload 4, 2) := by decide +kernel
theorem dX12_begins_79 : decode cX12_begins 79 = .ok (.iadd, 1) := by decide +kernel
theorem dX12_begins_80 : decode cX12_begins 80 = .ok (.iaload, 1) := by decide +kernel
theorem dX12_begins_81 : decode cX12_begins 81 = .ok (.i2l, 1) := by decide +kernel
theorem dX12_begins_82 : decode cX12_begins 82 = .ok (.lconst 0, 1) := by decide +kernel
theorem dX12_begins_83 : decode cX12_begins 83 = .ok (.ldc2_w 168, 3) := by decide +kernel
theorem dX12_begins_86 : decode cX12_begins 86 = .ok (.invokestatic 133, 3) := by decide +kernel
theorem dX12_begins_89 : decode cX12_begins 89 = .ok (.ifCond .ne 6, 3) := by decide +kernel
theorem dX12_begins_92 : decode cX12_begins 92 = .ok (.bipush (-2), 2) := by decide +kernel
theorem dX12_begins_94 : decode cX12_begins 94 = .ok (.ireturn, 1) := by decide +kernel
theorem dX12_begins_95 : decode cX12_begins 95 = .ok (.iinc 4 1, 3) := by decide +kernel
theorem dX12_begins_98 : decode cX12_begins 98 = .ok (.goto (-40), 3) := by decide +kernel
theorem dX12_begins_101 : decode cX12_begins 101 = .ok (.iconst 0, 1) := by decide +kernel
theorem dX12_begins_102 : decode cX12_begins 102 = .ok (.istore 4, 2) := by decide +kernel
theorem dX12_begins_104 : decode cX12_begins 104 = .ok (.iload 4, 2) := by decide +kernel
theorem dX12_begins_106 : decode cX12_begins 106 = .ok (.aload_n 0, 1) := by decide +kernel
theorem dX12_begins_107 : decode cX12_begins 107 = .ok (.getfield 26, 3) := by decide +kernel
theorem dX12_begins_110 : decode cX12_begins 110 = .ok (.iload_n 1, 1) := by decide +kernel
theorem dX12_begins_111 : decode cX12_begins 111 = .ok (.iaload, 1) := by decide +kernel
theorem dX12_begins_112 : decode cX12_begins 112 = .ok (.if_icmp .ge 18, 3) := by decide +kernel
theorem dX12_begins_115 : decode cX12_begins 115 = .ok (.aload_n 0, 1) := by decide +kernel
theorem dX12_begins_116 : decode cX12_begins 116 = .ok (.getfield 87, 3) := by decide +kernel
theorem dX12_begins_119 : decode cX12_begins 119 = .ok (.iload 4, 2) := by decide +kernel
theorem dX12_begins_121 : decode cX12_begins 121 = .ok (.iload 4, 2) := by decide +kernel
theorem dX12_begins_123 : decode cX12_begins 123 = .ok (.iastore, 1) := by decide +kernel
theorem dX12_begins_124 : decode cX12_begins 124 = .ok (.iinc 4 1, 3) := by decide +kernel
theorem dX12_begins_127 : decode cX12_begins 127 = .ok (.goto (-23), 3) := by decide +kernel
theorem dX12_begins_130 : decode cX12_begins 130 = .ok (.iconst (-1), 1) := by decide +kernel
theorem dX12_begins_131 : decode cX12_begins 131 = .ok (.istore 4, 2) := by decide +kernel
theorem dX12_begins_133 : decode cX12_begins 133 = .ok (.iconst 0, 1) := by decide +kernel
theorem dX12_begins_134 : decode cX12_begins 134 = .ok (.istore 5, 2) := by decide +kernel
theorem dX12_begins_136 : decode cX12_begins 136 = .ok (.iload 5, 2) := by decide +kernel
theorem dX12_begins_138 : decode cX12_begins 138 = .ok (.aload_n 0, 1) := by decide +kernel
theorem dX12_begins_139 : decode cX12_begins 139 = .ok (.getfield 105, 3) := by decide +kernel
theorem dX12_begins_142 : decode cX12_begins 142 = .ok (.iload_n 2, 1) := by decide +kernel
theorem dX12_begins_143 : decode cX12_begins 143 = .ok (.iaload, 1) := by decide +kernel
theorem dX12_begins_144 : decode cX12_begins 144 = .ok (.if_icmp .ge 169, 3) := by decide +kernel
theorem dX12_begins_147 : decode cX12_begins 147 = .ok (.iload 4, 2) := by decide +kernel
theorem dX12_begins_149 : decode cX12_begins 149 = .ok (.iconst (-1), 1) := by decide +kernel
theorem dX12_begins_150 : decode cX12_begins 150 = .ok (.if_icmp .ne 163, 3) := by decide +kernel
theorem dX12_begins_153 : decode cX12_begins 153 = .ok (.aload_n 0, 1) := by decide +kernel
theorem dX12_begins_154 : decode cX12_begins 154 = .ok (.getfield 108, 3) := by decide +kernel
theorem dX12_begins_157 : decode cX12_begins 157 = .ok (.bipush 40, 2) := by decide +kernel
theorem dX12_begins_159 : decode cX12_begins 159 = .ok (.iload_n 2, 1) := by decide +kernel
theorem dX12_begins_160 : decode cX12_begins 160 = .ok (.imul, 1) := by decide +kernel
theorem dX12_begins_161 : decode cX12_begins 161 = .ok (.iload 5, 2) := by decide +kernel
theorem dX12_begins_163 : decode cX12_begins 163 = .ok (.iadd, 1) := by decide +kernel
theorem dX12_begins_164 : decode cX12_begins 164 = .ok (.iaload, 1) := by decide +kernel
theorem dX12_begins_165 : decode cX12_begins 165 = .ok (.istore 6, 2) := by decide +kernel
theorem dX12_begins_167 : decode cX12_begins 167 = .ok (.iconst 0, 1) := by decide +kernel
theorem dX12_begins_168 : decode cX12_begins 168 = .ok (.istore 7, 2) := by decide +kernel
theorem dX12_begins_170 : decode cX12_begins 170 = .ok (.iconst 0, 1) := by decide +kernel
theorem dX12_begins_171 : decode cX12_begins 171 = .ok (.istore 8, 2) := by decide +kernel
theorem dX12_begins_173 : decode cX12_begins 173 = .ok (.iload 8, 2) := by decide +kernel
theorem dX12_begins_175 : decode cX12_begins 175 = .ok (.aload_n 0, 1) := by decide +kernel
theorem dX12_begins_176 : decode cX12_begins 176 = .ok (.getfield 26, 3) := by decide +kernel
theorem dX12_begins_179 : decode cX12_begins 179 = .ok (.iload_n 1, 1) := by decide +kernel
theorem dX12_begins_180 : decode cX12_begins 180 = .ok (.iaload, 1) := by decide +kernel
theorem dX12_begins_181 : decode cX12_begins 181 = .ok (.if_icmp .ge 113, 3) := by decide +kernel
theorem dX12_begins_184 : decode cX12_begins 184 = .ok (.aload_n 0, 1) := by decide +kernel
theorem dX12_begins_185 : decode cX12_begins 185 = .ok (.getfield 87, 3) := by decide +kernel
theorem dX12_begins_188 : decode cX12_begins 188 = .ok (.iload 8, 2) := by decide +kernel
theorem dX12_begins_190 : decode cX12_begins 190 = .ok (.iaload, 1) := by decide +kernel
theorem dX12_begins_191 : decode cX12_begins 191 = .ok (.iconst (-1), 1) := by decide +kernel
theorem dX12_begins_192 : decode cX12_begins 192 = .ok (.if_icmp .ne 6, 3) := by decide +kernel
theorem dX12_begins_195 : decode cX12_begins 195 = .ok (.goto 93, 3) := by decide +kernel
theorem dX12_begins_198 : decode cX12_begins 198 = .ok (.iload 5, 2) := by decide +kernel
theorem dX12_begins_200 : decode cX12_begins 200 = .ok (.iconst 2, 1) := by decide +kernel
theorem dX12_begins_201 : decode cX12_begins 201 = .ok (.irem, 1) := by decide +kernel
theorem dX12_begins_202 : decode cX12_begins 202 = .ok (.ifCond .ne 27, 3) := by decide +kernel
theorem dX12_begins_205 : decode cX12_begins 205 = .ok (.aload_n 0, 1) := by decide +kernel
theorem dX12_begins_206 : decode cX12_begins 206 = .ok (.getfield 87, 3) := by decide +kernel
theorem dX12_begins_209 : decode cX12_begins 209 = .ok (.iload 8, 2) := by decide +kernel
theorem dX12_begins_211 : decode cX12_begins 211 = .ok (.aload_n 0, 1) := by decide +kernel
theorem dX12_begins_212 : decode cX12_begins 212 = .ok (.iload_n 1, 1) := by decide +kernel
theorem dX12_begins_213 : decode cX12_begins 213 = .ok (.aload_n 0, 1) := by decide +kernel
theorem dX12_begins_214 : decode cX12_begins 214 = .ok (.getfield 87, 3) := by decide +kernel
theorem dX12_begins_217 : decode cX12_begins 217 = .ok (.iload 8, 2) := by decide +kernel
theorem dX12_begins_219 : decode cX12_begins 219 = .ok (.iaload, 1) := by decide +kernel
theorem dX12_begins_220 : decode cX12_begins 220 = .ok (.iload 6, 2) := by decide +kernel
theorem dX12_begins_222 : decode cX12_begins 222 = .ok (.invokevirtual 170, 3) := by decide +kernel
theorem dX12_begins_225 : decode cX12_begins 225 = .ok (.iastore, 1) := by decide +kernel
theorem dX12_begins_226 : decode cX12_begins 226 = .ok (.goto 39, 3) := by decide +kernel
theorem dX12_begins_229 : decode cX12_begins 229 = .ok (.aload_n 0, 1) := by decide +kernel
theorem dX12_begins_230 : decode cX12_begins 230 = .ok (.getfield 87, 3) := by decide +kernel
theorem dX12_begins_233 : decode cX12_begins 233 = .ok (.iload 8, 2) := by decide +kernel
theorem dX12_begins_235 : decode cX12_begins 235 = .ok (.aload_n 0, 1) := by decide +kernel
theorem dX12_begins_236 : decode cX12_begins 236 = .ok (.getfield 87, 3) := by decide +kernel
theorem dX12_begins_239 : decode cX12_begins 239 = .ok (.iload 8, 2) := by decide +kernel
theorem dX12_begins_241 : decode cX12_begins 241 = .ok (.iaload, 1) := by decide +kernel
theorem dX12_begins_242 : decode cX12_begins 242 = .ok (.bipush 10, 2) := by decide +kernel
theorem dX12_begins_244 : decode cX12_begins 244 = .ok (.irem, 1) := by decide +kernel
theorem dX12_begins_245 : decode cX12_begins 245 = .ok (.iload 6, 2) := by decide +kernel
theorem dX12_begins_247 : decode cX12_begins 247 = .ok (.if_icmp .ne 16, 3) := by decide +kernel
theorem dX12_begins_250 : decode cX12_begins 250 = .ok (.aload_n 0, 1) := by decide +kernel
theorem dX12_begins_251 : decode cX12_begins 251 = .ok (.getfield 87, 3) := by decide +kernel
theorem dX12_begins_254 : decode cX12_begins 254 = .ok (.iload 8, 2) := by decide +kernel
theorem dX12_begins_256 : decode cX12_begins 256 = .ok (.iaload, 1) := by decide +kernel
theorem dX12_begins_257 : decode cX12_begins 257 = .ok (.bipush 10, 2) := by decide +kernel
theorem dX12_begins_259 : decode cX12_begins 259 = .ok (.idiv, 1) := by decide +kernel
theorem dX12_begins_260 : decode cX12_begins 260 = .ok (.goto 4, 3) := by decide +kernel
theorem dX12_begins_263 : decode cX12_begins 263 = .ok (.iconst (-1), 1) := by decide +kernel
theorem dX12_begins_264 : decode cX12_begins 264 = .ok (.iastore, 1) := by decide +kernel
theorem dX12_begins_265 : decode cX12_begins 265 = .ok (.iload 7, 2) := by decide +kernel
theorem dX12_begins_267 : decode cX12_begins 267 = .ok (.ifCond .ne 14, 3) := by decide +kernel
theorem dX12_begins_270 : decode cX12_begins 270 = .ok (.aload_n 0, 1) := by decide +kernel
theorem dX12_begins_271 : decode cX12_begins 271 = .ok (.getfield 87, 3) := by decide +kernel
theorem dX12_begins_274 : decode cX12_begins 274 = .ok (.iload 8, 2) := by decide +kernel
theorem dX12_begins_276 : decode cX12_begins 276 = .ok (.iaload, 1) := by decide +kernel
theorem dX12_begins_277 : decode cX12_begins 277 = .ok (.iconst (-1), 1) := by decide +kernel
theorem dX12_begins_278 : decode cX12_begins 278 = .ok (.if_icmp .eq 7, 3) := by decide +kernel
theorem dX12_begins_281 : decode cX12_begins 281 = .ok (.iconst 1, 1) := by decide +kernel
theorem dX12_begins_282 : decode cX12_begins 282 = .ok (.goto 4, 3) := by decide +kernel
theorem dX12_begins_285 : decode cX12_begins 285 = .ok (.iconst 0, 1) := by decide +kernel
theorem dX12_begins_286 : decode cX12_begins 286 = .ok (.istore 7, 2) := by decide +kernel
theorem dX12_begins_288 : decode cX12_begins 288 = .ok (.iinc 8 1, 3) := by decide +kernel
theorem dX12_begins_291 : decode cX12_begins 291 = .ok (.goto (-118), 3) := by decide +kernel
theorem dX12_begins_294 : decode cX12_begins 294 = .ok (.iload 7, 2) := by decide +kernel
theorem dX12_begins_296 : decode cX12_begins 296 = .ok (.ifCond .eq 7, 3) := by decide +kernel
theorem dX12_begins_299 : decode cX12_begins 299 = .ok (.iconst (-1), 1) := by decide +kernel
theorem dX12_begins_300 : decode cX12_begins 300 = .ok (.goto 5, 3) := by decide +kernel
theorem dX12_begins_303 : decode cX12_begins 303 = .ok (.iload 5, 2) := by decide +kernel
theorem dX12_begins_305 : decode cX12_begins 305 = .ok (.istore 4, 2) := by decide +kernel
theorem dX12_begins_307 : decode cX12_begins 307 = .ok (.iinc 5 1, 3) := by decide +kernel
theorem dX12_begins_310 : decode cX12_begins 310 = .ok (.goto (-174), 3) := by decide +kernel
theorem dX12_begins_313 : decode cX12_begins 313 = .ok (.iconst 0, 1) := by decide +kernel
theorem dX12_begins_314 : decode cX12_begins 314 = .ok (.istore 5, 2) := by decide +kernel
theorem dX12_begins_316 : decode cX12_begins 316 = .ok (.iconst 0, 1) := by decide +kernel
theorem dX12_begins_317 : decode cX12_begins 317 = .ok (.istore 6, 2) := by decide +kernel
theorem dX12_begins_319 : decode cX12_begins 319 = .ok (.iload 6, 2) := by decide +kernel
theorem dX12_begins_321 : decode cX12_begins 321 = .ok (.aload_n 0, 1) := by decide +kernel
theorem dX12_begins_322 : decode cX12_begins 322 = .ok (.getfield 26, 3) := by decide +kernel
theorem dX12_begins_325 : decode cX12_begins 325 = .ok (.iload_n 1, 1) := by decide +kernel
theorem dX12_begins_326 : decode cX12_begins 326 = .ok (.iaload, 1) := by decide +kernel
theorem dX12_begins_327 : decode cX12_begins 327 = .ok (.if_icmp .ge 39, 3) := by decide +kernel
theorem dX12_begins_330 : decode cX12_begins 330 = .ok (.iload 5, 2) := by decide +kernel
theorem dX12_begins_332 : decode cX12_begins 332 = .ok (.iload 4, 2) := by decide +kernel
theorem dX12_begins_334 : decode cX12_begins 334 = .ok (.iconst (-1), 1) := by decide +kernel
theorem dX12_begins_335 : decode cX12_begins 335 = .ok (.if_icmp .ne 21, 3) := by decide +kernel
theorem dX12_begins_338 : decode cX12_begins 338 = .ok (.aload_n 0, 1) := by decide +kernel
theorem dX12_begins_339 : decode cX12_begins 339 = .ok (.getfield 87, 3) := by decide +kernel
theorem dX12_begins_342 : decode cX12_begins 342 = .ok (.iload 6, 2) := by decide +kernel
theorem dX12_begins_344 : decode cX12_begins 344 = .ok (.iaload, 1) := by decide +kernel
theorem dX12_begins_345 : decode cX12_begins 345 = .ok (.iconst (-1), 1) := by decide +kernel
theorem dX12_begins_346 : decode cX12_begins 346 = .ok (.if_icmp .eq 10, 3) := by decide +kernel
theorem dX12_begins_349 : decode cX12_begins 349 = .ok (.iconst 1, 1) := by decide +kernel
theorem dX12_begins_350 : decode cX12_begins 350 = .ok (.iload 6, 2) := by decide +kernel
theorem dX12_begins_352 : decode cX12_begins 352 = .ok (.ishl, 1) := by decide +kernel
theorem dX12_begins_353 : decode cX12_begins 353 = .ok (.goto 4, 3) := by decide +kernel
theorem dX12_begins_356 : decode cX12_begins 356 = .ok (.iconst 0, 1) := by decide +kernel
theorem dX12_begins_357 : decode cX12_begins 357 = .ok (.ior, 1) := by decide +kernel
theorem dX12_begins_358 : decode cX12_begins 358 = .ok (.istore 5, 2) := by decide +kernel
theorem dX12_begins_360 : decode cX12_begins 360 = .ok (.iinc 6 1, 3) := by decide +kernel
theorem dX12_begins_363 : decode cX12_begins 363 = .ok (.goto (-44), 3) := by decide +kernel
theorem dX12_begins_366 : decode cX12_begins 366 = .ok (.iload_n 3, 1) := by decide +kernel
theorem dX12_begins_367 : decode cX12_begins 367 = .ok (.ifCond .ne 8, 3) := by decide +kernel
theorem dX12_begins_370 : decode cX12_begins 370 = .ok (.iload 5, 2) := by decide +kernel
theorem dX12_begins_372 : decode cX12_begins 372 = .ok (.goto 5, 3) := by decide +kernel
theorem dX12_begins_375 : decode cX12_begins 375 = .ok (.iload 4, 2) := by decide +kernel
theorem dX12_begins_377 : decode cX12_begins 377 = .ok (.ireturn, 1) := by decide +kernel
theorem dX12_image_0 : decode cX12_image 0 = .ok (.aload_n 0, 1) := by decide +kernel
theorem dX12_image_1 : decode cX12_image 1 = .ok (.iconst 1, 1) := by decide +kernel
theorem dX12_image_2 : decode cX12_image 2 = .ok (.putfield 387, 3) := by decide +kernel
theorem dX12_image_5 : decode cX12_image 5 = .ok (.aload_n 0, 1) := by decide +kernel
theorem dX12_image_6 : decode cX12_image 6 = .ok (.aload_n 0, 1) := by decide +kernel
theorem dX12_image_7 : decode cX12_image 7 = .ok (.getfield 130, 3) := by decide +kernel
theorem dX12_image_10 : decode cX12_image 10 = .ok (.putfield 390, 3) := by decide +kernel
theorem dX12_image_13 : decode cX12_image 13 = .ok (.aload_n 0, 1) := by decide +kernel
theorem dX12_image_14 : decode cX12_image 14 = .ok (.aload_n 0, 1) := by decide +kernel
theorem dX12_image_15 : decode cX12_image 15 = .ok (.getfield 176, 3) := by decide +kernel
theorem dX12_image_18 : decode cX12_image 18 = .ok (.putfield 393, 3) := by decide +kernel
theorem dX12_image_21 : decode cX12_image 21 = .ok (.aload_n 0, 1) := by decide +kernel
theorem dX12_image_22 : decode cX12_image 22 = .ok (.aload_n 0, 1) := by decide +kernel
theorem dX12_image_23 : decode cX12_image 23 = .ok (.getfield 227, 3) := by decide +kernel
theorem dX12_image_26 : decode cX12_image 26 = .ok (.putfield 396, 3) := by decide +kernel
theorem dX12_image_29 : decode cX12_image 29 = .ok (.iconst 0, 1) := by decide +kernel
theorem dX12_image_30 : decode cX12_image 30 = .ok (.istore_n 1, 1) := by decide +kernel
theorem dX12_image_31 : decode cX12_image 31 = .ok (.iload_n 1, 1) := by decide +kernel
theorem dX12_image_32 : decode cX12_image 32 = .ok (.aload_n 0, 1) := by decide +kernel
theorem dX12_image_33 : decode cX12_image 33 = .ok (.getfield 176, 3) := by decide +kernel
theorem dX12_image_36 : decode cX12_image 36 = .ok (.if_icmp .ge 34, 3) := by decide +kernel
theorem dX12_image_39 : decode cX12_image 39 = .ok (.aload_n 0, 1) := by decide +kernel
theorem dX12_image_40 : decode cX12_image 40 = .ok (.iload_n 1, 1) := by decide +kernel
theorem dX12_image_41 : decode cX12_image 41 = .ok (.aload_n 0, 1) := by decide +kernel
theorem dX12_image_42 : decode cX12_image 42 = .ok (.getfield 90, 3) := by decide +kernel
theorem dX12_image_45 : decode cX12_image 45 = .ok (.bipush 23, 2) := by decide +kernel
theorem dX12_image_47 : decode cX12_image 47 = .ok (.iload_n 1, 1) := by decide +kernel
theorem dX12_image_48 : decode cX12_image 48 = .ok (.imul, 1) := by decide +kernel
theorem dX12_image_49 : decode cX12_image 49 = .ok (.invokevirtual 365, 3) := by decide +kernel
theorem dX12_image_52 : decode cX12_image 52 = .ok (.aload_n 0, 1) := by decide +kernel
theorem dX12_image_53 : decode cX12_image 53 = .ok (.getfield 93, 3) := by decide +kernel
theorem dX12_image_56 : decode cX12_image 56 = .ok (.iload_n 1, 1) := by decide +kernel
theorem dX12_image_57 : decode cX12_image 57 = .ok (.aload_n 0, 1) := by decide +kernel
theorem dX12_image_58 : decode cX12_image 58 = .ok (.getfield 50, 3) := by decide +kernel
theorem dX12_image_61 : decode cX12_image 61 = .ok (.iload_n 1, 1) := by decide +kernel
theorem dX12_image_62 : decode cX12_image 62 = .ok (.iaload, 1) := by decide +kernel
theorem dX12_image_63 : decode cX12_image 63 = .ok (.iastore, 1) := by decide +kernel
theorem dX12_image_64 : decode cX12_image 64 = .ok (.iinc 1 1, 3) := by decide +kernel
theorem dX12_image_67 : decode cX12_image 67 = .ok (.goto (-36), 3) := by decide +kernel
theorem dX12_image_70 : decode cX12_image 70 = .ok (.iconst 0, 1) := by decide +kernel
theorem dX12_image_71 : decode cX12_image 71 = .ok (.istore_n 1, 1) := by decide +kernel
theorem dX12_image_72 : decode cX12_image 72 = .ok (.iload_n 1, 1) := by decide +kernel
theorem dX12_image_73 : decode cX12_image 73 = .ok (.bipush 10, 2) := by decide +kernel
theorem dX12_image_75 : decode cX12_image 75 = .ok (.aload_n 0, 1) := by decide +kernel
theorem dX12_image_76 : decode cX12_image 76 = .ok (.getfield 130, 3) := by decide +kernel
theorem dX12_image_79 : decode cX12_image 79 = .ok (.imul, 1) := by decide +kernel
theorem dX12_image_80 : decode cX12_image 80 = .ok (.if_icmp .ge 21, 3) := by decide +kernel
theorem dX12_image_83 : decode cX12_image 83 = .ok (.aload_n 0, 1) := by decide +kernel
theorem dX12_image_84 : decode cX12_image 84 = .ok (.getfield 96, 3) := by decide +kernel
theorem dX12_image_87 : decode cX12_image 87 = .ok (.iload_n 1, 1) := by decide +kernel
theorem dX12_image_88 : decode cX12_image 88 = .ok (.aload_n 0, 1) := by decide +kernel
theorem dX12_image_89 : decode cX12_image 89 = .ok (.getfield 29, 3) := by decide +kernel
theorem dX12_image_92 : decode cX12_image 92 = .ok (.iload_n 1, 1) := by decide +kernel
theorem dX12_image_93 : decode cX12_image 93 = .ok (.iaload, 1) := by decide +kernel
theorem dX12_image_94 : decode cX12_image 94 = .ok (.iastore, 1) := by decide +kernel
theorem dX12_image_95 : decode cX12_image 95 = .ok (.iinc 1 1, 3) := by decide +kernel
theorem dX12_image_98 : decode cX12_image 98 = .ok (.goto (-26), 3) := by decide +kernel
theorem dX12_image_101 : decode cX12_image 101 = .ok (.aload_n 0, 1) := by decide +kernel
theorem dX12_image_102 : decode cX12_image 102 = .ok (.getfield 176, 3) := by decide +kernel
theorem dX12_image_105 : decode cX12_image 105 = .ok (.ireturn, 1) := by decide +kernel
theorem dX12_back_0 : decode cX12_back 0 = .ok (.aload_n 0, 1) := by decide +kernel
theorem dX12_back_1 : decode cX12_back 1 = .ok (.getfield 387, 3) := by decide +kernel
theorem dX12_back_4 : decode cX12_back 4 = .ok (.ifCond .ne 6, 3) := by decide +kernel
theorem dX12_back_7 : decode cX12_back 7 = .ok (.bipush (-3), 2) := by decide +kernel
theorem dX12_back_9 : decode cX12_back 9 = .ok (.ireturn, 1) := by decide +kernel
theorem dX12_back_10 : decode cX12_back 10 = .ok (.aload_n 0, 1) := by decide +kernel
theorem dX12_back_11 : decode cX12_back 11 = .ok (.aload_n 0, 1) := by decide +kernel
theorem dX12_back_12 : decode cX12_back 12 = .ok (.getfield 396, 3) := by decide +kernel
theorem dX12_back_15 : decode cX12_back 15 = .ok (.putfield 227, 3) := by decide +kernel
theorem dX12_back_18 : decode cX12_back 18 = .ok (.iconst 0, 1) := by decide +kernel
theorem dX12_back_19 : decode cX12_back 19 = .ok (.istore_n 1, 1) := by decide +kernel
theorem dX12_back_20 : decode cX12_back 20 = .ok (.iload_n 1, 1) := by decide +kernel
theorem dX12_back_21 : decode cX12_back 21 = .ok (.aload_n 0, 1) := by decide +kernel
theorem dX12_back_22 : decode cX12_back 22 = .ok (.getfield 393, 3) := by decide +kernel
theorem dX12_back_25 : decode cX12_back 25 = .ok (.if_icmp .ge 28, 3) := by decide +kernel
theorem dX12_back_28 : decode cX12_back 28 = .ok (.aload_n 0, 1) := by decide +kernel
theorem dX12_back_29 : decode cX12_back 29 = .ok (.iload_n 1, 1) := by decide +kernel
theorem dX12_back_30 : decode cX12_back 30 = .ok (.aload_n 0, 1) := by decide +kernel
theorem dX12_back_31 : decode cX12_back 31 = .ok (.getfield 90, 3) := by decide +kernel
theorem dX12_back_34 : decode cX12_back 34 = .ok (.bipush 23, 2) := by decide +kernel
theorem dX12_back_36 : decode cX12_back 36 = .ok (.iload_n 1, 1) := by decide +kernel
theorem dX12_back_37 : decode cX12_back 37 = .ok (.imul, 1) := by decide +kernel
theorem dX12_back_38 : decode cX12_back 38 = .ok (.aload_n 0, 1) := by decide +kernel
theorem dX12_back_39 : decode cX12_back 39 = .ok (.getfield 93, 3) := by decide +kernel
theorem dX12_back_42 : decode cX12_back 42 = .ok (.iload_n 1, 1) := by decide +kernel
theorem dX12_back_43 : decode cX12_back 43 = .ok (.iaload, 1) := by decide +kernel
theorem dX12_back_44 : decode cX12_back 44 = .ok (.invokevirtual 369, 3) := by decide +kernel
theorem dX12_back_47 : decode cX12_back 47 = .ok (.iinc 1 1, 3) := by decide +kernel
theorem dX12_back_50 : decode cX12_back 50 = .ok (.goto (-30), 3) := by decide +kernel
theorem dX12_back_53 : decode cX12_back 53 = .ok (.iconst 0, 1) := by decide +kernel
theorem dX12_back_54 : decode cX12_back 54 = .ok (.istore_n 1, 1) := by decide +kernel
theorem dX12_back_55 : decode cX12_back 55 = .ok (.iload_n 1, 1) := by decide +kernel
theorem dX12_back_56 : decode cX12_back 56 = .ok (.bipush 10, 2) := by decide +kernel
theorem dX12_back_58 : decode cX12_back 58 = .ok (.aload_n 0, 1) := by decide +kernel
theorem dX12_back_59 : decode cX12_back 59 = .ok (.getfield 390, 3) := by decide +kernel
theorem dX12_back_62 : decode cX12_back 62 = .ok (.imul, 1) := by decide +kernel
theorem dX12_back_63 : decode cX12_back 63 = .ok (.if_icmp .ge 21, 3) := by decide +kernel
theorem dX12_back_66 : decode cX12_back 66 = .ok (.aload_n 0, 1) := by decide +kernel
theorem dX12_back_67 : decode cX12_back 67 = .ok (.getfield 29, 3) := by decide +kernel
theorem dX12_back_70 : decode cX12_back 70 = .ok (.iload_n 1, 1) := by decide +kernel
theorem dX12_back_71 : decode cX12_back 71 = .ok (.aload_n 0, 1) := by decide +kernel
theorem dX12_back_72 : decode cX12_back 72 = .ok (.getfield 96, 3) := by decide +kernel
theorem dX12_back_75 : decode cX12_back 75 = .ok (.iload_n 1, 1) := by decide +kernel
theorem dX12_back_76 : decode cX12_back 76 = .ok (.iaload, 1) := by decide +kernel
theorem dX12_back_77 : decode cX12_back 77 = .ok (.iastore, 1) := by decide +kernel
theorem dX12_back_78 : decode cX12_back 78 = .ok (.iinc 1 1, 3) := by decide +kernel
theorem dX12_back_81 : decode cX12_back 81 = .ok (.goto (-26), 3) := by decide +kernel
theorem dX12_back_84 : decode cX12_back 84 = .ok (.aload_n 0, 1) := by decide +kernel
theorem dX12_back_85 : decode cX12_back 85 = .ok (.getfield 176, 3) := by decide +kernel
theorem dX12_back_88 : decode cX12_back 88 = .ok (.ireturn, 1) := by decide +kernel
theorem dX12_count_0 : decode cX12_count 0 = .ok (.iconst 0, 1) := by decide +kernel
theorem dX12_count_1 : decode cX12_count 1 = .ok (.istore_n 2, 1) := by decide +kernel
theorem dX12_count_2 : decode cX12_count 2 = .ok (.iload_n 1, 1) := by decide +kernel
theorem dX12_count_3 : decode cX12_count 3 = .ok (.tableswitch 123 0 6 #[41, 46, 51, 56, 61, 66, 96], 41) := by decide +kernel
theorem dX12_count_44 : decode cX12_count 44 = .ok (.aload_n 0, 1) := by decide +kernel
theorem dX12_count_45 : decode cX12_count 45 = .ok (.getfield 130, 3) := by decide +kernel
theorem dX12_count_48 : decode cX12_count 48 = .ok (.ireturn, 1) := by decide +kernel
theorem dX12_count_49 : decode cX12_count 49 = .ok (.aload_n 0, 1) := by decide +kernel
theorem dX12_count_50 : decode cX12_count 50 = .ok (.getfield 176, 3) := by decide +kernel
theorem dX12_count_53 : decode cX12_count 53 = .ok (.ireturn, 1) := by decide +kernel
theorem dX12_count_54 : decode cX12_count 54 = .ok (.aload_n 0, 1) := by decide +kernel
theorem dX12_count_55 : decode cX12_count 55 = .ok (.getfield 125, 3) := by decide +kernel
theorem dX12_count_58 : decode cX12_count 58 = .ok (.ireturn, 1) := by decide +kernel
theorem dX12_count_59 : decode cX12_count 59 = .ok (.aload_n 0, 1) := by decide +kernel
theorem dX12_count_60 : decode cX12_count 60 = .ok (.getfield 141, 3) := by decide +kernel
theorem dX12_count_63 : decode cX12_count 63 = .ok (.ireturn, 1) := by decide +kernel
theorem dX12_count_64 : decode cX12_count 64 = .ok (.aload_n 0, 1) := by decide +kernel
theorem dX12_count_65 : decode cX12_count 65 = .ok (.getfield 227, 3) := by decide +kernel
theorem dX12_count_68 : decode cX12_count 68 = .ok (.ireturn, 1) := by decide +kernel
theorem dX12_count_69 : decode cX12_count 69 = .ok (.iconst 0, 1) := by decide +kernel
theorem dX12_count_70 : decode cX12_count 70 = .ok (.istore_n 3, 1) := by decide +kernel
theorem dX12_count_71 : decode cX12_count 71 = .ok (.iload_n 3, 1) := by decide +kernel
theorem dX12_count_72 : decode cX12_count 72 = .ok (.bipush 10, 2) := by decide +kernel
theorem dX12_count_74 : decode cX12_count 74 = .ok (.aload_n 0, 1) := by decide +kernel
theorem dX12_count_75 : decode cX12_count 75 = .ok (.getfield 130, 3) := by decide +kernel
theorem dX12_count_78 : decode cX12_count 78 = .ok (.imul, 1) := by decide +kernel
theorem dX12_count_79 : decode cX12_count 79 = .ok (.if_icmp .ge 18, 3) := by decide +kernel
theorem dX12_count_82 : decode cX12_count 82 = .ok (.iload_n 2, 1) := by decide +kernel
theorem dX12_count_83 : decode cX12_count 83 = .ok (.aload_n 0, 1) := by decide +kernel
theorem dX12_count_84 : decode cX12_count 84 = .ok (.getfield 29, 3) := by decide +kernel
theorem dX12_count_87 : decode cX12_count 87 = .ok (.iload_n 3, 1) := by decide +kernel
theorem dX12_count_88 : decode cX12_count 88 = .ok (.iaload, 1) := by decide +kernel
theorem dX12_count_89 : decode cX12_count 89 = .ok (.iadd, 1) := by decide +kernel
theorem dX12_count_90 : decode cX12_count 90 = .ok (.istore_n 2, 1) := by decide +kernel
theorem dX12_count_91 : decode cX12_count 91 = .ok (.iinc 3 1, 3) := by decide +kernel
theorem dX12_count_94 : decode cX12_count 94 = .ok (.goto (-23), 3) := by decide +kernel
theorem dX12_count_97 : decode cX12_count 97 = .ok (.iload_n 2, 1) := by decide +kernel
theorem dX12_count_98 : decode cX12_count 98 = .ok (.ireturn, 1) := by decide +kernel
theorem dX12_count_99 : decode cX12_count 99 = .ok (.iconst 0, 1) := by decide +kernel
theorem dX12_count_100 : decode cX12_count 100 = .ok (.istore_n 3, 1) := by decide +kernel
theorem dX12_count_101 : decode cX12_count 101 = .ok (.iload_n 3, 1) := by decide +kernel
theorem dX12_count_102 : decode cX12_count 102 = .ok (.aload_n 0, 1) := by decide +kernel
theorem dX12_count_103 : decode cX12_count 103 = .ok (.getfield 176, 3) := by decide +kernel
theorem dX12_count_106 : decode cX12_count 106 = .ok (.if_icmp .ge 18, 3) := by decide +kernel
theorem dX12_count_109 : decode cX12_count 109 = .ok (.iload_n 2, 1) := by decide +kernel
theorem dX12_count_110 : decode cX12_count 110 = .ok (.aload_n 0, 1) := by decide +kernel
theorem dX12_count_111 : decode cX12_count 111 = .ok (.getfield 47, 3) := by decide +kernel
theorem dX12_count_114 : decode cX12_count 114 = .ok (.iload_n 3, 1) := by decide +kernel
theorem dX12_count_115 : decode cX12_count 115 = .ok (.iaload, 1) := by decide +kernel
theorem dX12_count_116 : decode cX12_count 116 = .ok (.iadd, 1) := by decide +kernel
theorem dX12_count_117 : decode cX12_count 117 = .ok (.istore_n 2, 1) := by decide +kernel
theorem dX12_count_118 : decode cX12_count 118 = .ok (.iinc 3 1, 3) := by decide +kernel
theorem dX12_count_121 : decode cX12_count 121 = .ok (.goto (-20), 3) := by decide +kernel
theorem dX12_count_124 : decode cX12_count 124 = .ok (.iload_n 2, 1) := by decide +kernel
theorem dX12_count_125 : decode cX12_count 125 = .ok (.ireturn, 1) := by decide +kernel
theorem dX12_count_126 : decode cX12_count 126 = .ok (.bipush (-2), 2) := by decide +kernel
theorem dX12_count_128 : decode cX12_count 128 = .ok (.ireturn, 1) := by decide +kernel
theorem dX12_isSheet_0 : decode cX12_isSheet 0 = .ok (.iload_n 0, 1) := by decide +kernel
theorem dX12_isSheet_1 : decode cX12_isSheet 1 = .ok (.i2l, 1) := by decide +kernel
theorem dX12_isSheet_2 : decode cX12_isSheet 2 = .ok (.lconst 0, 1) := by decide +kernel
theorem dX12_isSheet_3 : decode cX12_isSheet 3 = .ok (.ldc2_w 168, 3) := by decide +kernel
theorem dX12_isSheet_6 : decode cX12_isSheet 6 = .ok (.invokestatic 133, 3) := by decide +kernel
theorem dX12_isSheet_9 : decode cX12_isSheet 9 = .ok (.ireturn, 1) := by decide +kernel
theorem dX12_sheet_0 : decode cX12_sheet 0 = .ok (.iload_n 1, 1) := by decide +kernel
theorem dX12_sheet_1 : decode cX12_sheet 1 = .ok (.invokestatic 384, 3) := by decide +kernel
theorem dX12_sheet_4 : decode cX12_sheet 4 = .ok (.ifCond .eq 27, 3) := by decide +kernel
theorem dX12_sheet_7 : decode cX12_sheet 7 = .ok (.iload_n 2, 1) := by decide +kernel
theorem dX12_sheet_8 : decode cX12_sheet 8 = .ok (.i2l, 1) := by decide +kernel
theorem dX12_sheet_9 : decode cX12_sheet 9 = .ok (.ldc2_w 278, 3) := by decide +kernel
theorem dX12_sheet_12 : decode cX12_sheet 12 = .ok (.ldc2_w 239, 3) := by decide +kernel
theorem dX12_sheet_15 : decode cX12_sheet 15 = .ok (.invokestatic 133, 3) := by decide +kernel
theorem dX12_sheet_18 : decode cX12_sheet 18 = .ok (.ifCond .eq 13, 3) := by decide +kernel
theorem dX12_sheet_21 : decode cX12_sheet 21 = .ok (.iload_n 2, 1) := by decide +kernel
theorem dX12_sheet_22 : decode cX12_sheet 22 = .ok (.ifCond .lt 12, 3) := by decide +kernel
theorem dX12_sheet_25 : decode cX12_sheet 25 = .ok (.iload_n 3, 1) := by decide +kernel
theorem dX12_sheet_26 : decode cX12_sheet 26 = .ok (.bipush 40, 2) := by decide +kernel
theorem dX12_sheet_28 : decode cX12_sheet 28 = .ok (.if_icmp .le 6, 3) := by decide +kernel
theorem dX12_sheet_31 : decode cX12_sheet 31 = .ok (.bipush (-2), 2) := by decide +kernel
theorem dX12_sheet_33 : decode cX12_sheet 33 = .ok (.ireturn, 1) := by decide +kernel
theorem dX12_sheet_34 : decode cX12_sheet 34 = .ok (.iload_n 2, 1) := by decide +kernel
theorem dX12_sheet_35 : decode cX12_sheet 35 = .ok (.ifCond .lt 10, 3) := by decide +kernel
theorem dX12_sheet_38 : decode cX12_sheet 38 = .ok (.iload_n 3, 1) := by decide +kernel
theorem dX12_sheet_39 : decode cX12_sheet 39 = .ok (.ifCond .ge 6, 3) := by decide +kernel
theorem dX12_sheet_42 : decode cX12_sheet 42 = .ok (.bipush (-14), 2) := by decide +kernel
theorem dX12_sheet_44 : decode cX12_sheet 44 = .ok (.ireturn, 1) := by decide +kernel
theorem dX12_sheet_45 : decode cX12_sheet 45 = .ok (.aload_n 0, 1) := by decide +kernel
theorem dX12_sheet_46 : decode cX12_sheet 46 = .ok (.getfield 99, 3) := by decide +kernel
theorem dX12_sheet_49 : decode cX12_sheet 49 = .ok (.iload_n 1, 1) := by decide +kernel
theorem dX12_sheet_50 : decode cX12_sheet 50 = .ok (.iload_n 2, 1) := by decide +kernel
theorem dX12_sheet_51 : decode cX12_sheet 51 = .ok (.ifCond .lt 7, 3) := by decide +kernel
theorem dX12_sheet_54 : decode cX12_sheet 54 = .ok (.iconst 1, 1) := by decide +kernel
theorem dX12_sheet_55 : decode cX12_sheet 55 = .ok (.goto 4, 3) := by decide +kernel
theorem dX12_sheet_58 : decode cX12_sheet 58 = .ok (.iconst 0, 1) := by decide +kernel
theorem dX12_sheet_59 : decode cX12_sheet 59 = .ok (.bastore, 1) := by decide +kernel
theorem dX12_sheet_60 : decode cX12_sheet 60 = .ok (.aload_n 0, 1) := by decide +kernel
theorem dX12_sheet_61 : decode cX12_sheet 61 = .ok (.getfield 102, 3) := by decide +kernel
theorem dX12_sheet_64 : decode cX12_sheet 64 = .ok (.iload_n 1, 1) := by decide +kernel
theorem dX12_sheet_65 : decode cX12_sheet 65 = .ok (.iload_n 2, 1) := by decide +kernel
theorem dX12_sheet_66 : decode cX12_sheet 66 = .ok (.iastore, 1) := by decide +kernel
theorem dX12_sheet_67 : decode cX12_sheet 67 = .ok (.aload_n 0, 1) := by decide +kernel
theorem dX12_sheet_68 : decode cX12_sheet 68 = .ok (.getfield 105, 3) := by decide +kernel
theorem dX12_sheet_71 : decode cX12_sheet 71 = .ok (.iload_n 1, 1) := by decide +kernel
theorem dX12_sheet_72 : decode cX12_sheet 72 = .ok (.iload_n 3, 1) := by decide +kernel
theorem dX12_sheet_73 : decode cX12_sheet 73 = .ok (.iastore, 1) := by decide +kernel
theorem dX12_sheet_74 : decode cX12_sheet 74 = .ok (.iconst 0, 1) := by decide +kernel
theorem dX12_sheet_75 : decode cX12_sheet 75 = .ok (.istore 4, 2) := by decide +kernel
theorem dX12_sheet_77 : decode cX12_sheet 77 = .ok (.iload 4, 2) := by decide +kernel
theorem dX12_sheet_79 : decode cX12_sheet 79 = .ok (.iload_n 3, 1) := by decide +kernel
theorem dX12_sheet_80 : decode cX12_sheet 80 = .ok (.if_icmp .ge 26, 3) := by decide +kernel
theorem dX12_sheet_83 : decode cX12_sheet 83 = .ok (.iload_n 2, 1) := by decide +kernel
theorem dX12_sheet_84 : decode cX12_sheet 84 = .ok (.ifCond .lt 22, 3) := by decide +kernel
theorem dX12_sheet_87 : decode cX12_sheet 87 = .ok (.aload_n 0, 1) := by decide +kernel
theorem dX12_sheet_88 : decode cX12_sheet 88 = .ok (.getfield 108, 3) := by decide +kernel
theorem dX12_sheet_91 : decode cX12_sheet 91 = .ok (.bipush 40, 2) := by decide +kernel
theorem dX12_sheet_93 : decode cX12_sheet 93 = .ok (.iload_n 1, 1) := by decide +kernel
theorem dX12_sheet_94 : decode cX12_sheet 94 = .ok (.imul, 1) := by decide +kernel
theorem dX12_sheet_95 : decode cX12_sheet 95 = .ok (.iload 4, 2) := by decide +kernel
theorem dX12_sheet_97 : decode cX12_sheet 97 = .ok (.iadd, 1) := by decide +kernel
theorem dX12_sheet_98 : decode cX12_sheet 98 = .ok (.iconst 0, 1) := by decide +kernel
theorem dX12_sheet_99 : decode cX12_sheet 99 = .ok (.iastore, 1) := by decide +kernel
theorem dX12_sheet_100 : decode cX12_sheet 100 = .ok (.iinc 4 1, 3) := by decide +kernel
theorem dX12_sheet_103 : decode cX12_sheet 103 = .ok (.goto (-26), 3) := by decide +kernel
theorem dX12_sheet_106 : decode cX12_sheet 106 = .ok (.iconst 1, 1) := by decide +kernel
theorem dX12_sheet_107 : decode cX12_sheet 107 = .ok (.ireturn, 1) := by decide +kernel
theorem dX12_cell_0 : decode cX12_cell 0 = .ok (.iload_n 1, 1) := by decide +kernel
theorem dX12_cell_1 : decode cX12_cell 1 = .ok (.invokestatic 384, 3) := by decide +kernel
theorem dX12_cell_4 : decode cX12_cell 4 = .ok (.ifCond .ne 6, 3) := by decide +kernel
theorem dX12_cell_7 : decode cX12_cell 7 = .ok (.bipush (-2), 2) := by decide +kernel
theorem dX12_cell_9 : decode cX12_cell 9 = .ok (.ireturn, 1) := by decide +kernel
theorem dX12_cell_10 : decode cX12_cell 10 = .ok (.aload_n 0, 1) := by decide +kernel
theorem dX12_cell_11 : decode cX12_cell 11 = .ok (.getfield 99, 3) := by decide +kernel
theorem dX12_cell_14 : decode cX12_cell 14 = .ok (.iload_n 1, 1) := by decide +kernel
theorem dX12_cell_15 : decode cX12_cell 15 = .ok (.baload, 1) := by decide +kernel
theorem dX12_cell_16 : decode cX12_cell 16 = .ok (.ifCond .ne 6, 3) := by decide +kernel
theorem dX12_cell_19 : decode cX12_cell 19 = .ok (.bipush (-11), 2) := by decide +kernel
theorem dX12_cell_21 : decode cX12_cell 21 = .ok (.ireturn, 1) := by decide +kernel
theorem dX12_cell_22 : decode cX12_cell 22 = .ok (.iload_n 2, 1) := by decide +kernel
theorem dX12_cell_23 : decode cX12_cell 23 = .ok (.i2l, 1) := by decide +kernel
theorem dX12_cell_24 : decode cX12_cell 24 = .ok (.lconst 0, 1) := by decide +kernel
theorem dX12_cell_25 : decode cX12_cell 25 = .ok (.aload_n 0, 1) := by decide +kernel
theorem dX12_cell_26 : decode cX12_cell 26 = .ok (.getfield 105, 3) := by decide +kernel
theorem dX12_cell_29 : decode cX12_cell 29 = .ok (.iload_n 1, 1) := by decide +kernel
theorem dX12_cell_30 : decode cX12_cell 30 = .ok (.iaload, 1) := by decide +kernel
theorem dX12_cell_31 : decode cX12_cell 31 = .ok (.iconst 1, 1) := by decide +kernel
theorem dX12_cell_32 : decode cX12_cell 32 = .ok (.isub, 1) := by decide +kernel
theorem dX12_cell_33 : decode cX12_cell 33 = .ok (.i2l, 1) := by decide +kernel
theorem dX12_cell_34 : decode cX12_cell 34 = .ok (.invokestatic 133, 3) := by decide +kernel
theorem dX12_cell_37 : decode cX12_cell 37 = .ok (.ifCond .ne 6, 3) := by decide +kernel
theorem dX12_cell_40 : decode cX12_cell 40 = .ok (.bipush (-12), 2) := by decide +kernel
theorem dX12_cell_42 : decode cX12_cell 42 = .ok (.ireturn, 1) := by decide +kernel
theorem dX12_cell_43 : decode cX12_cell 43 = .ok (.aload_n 0, 1) := by decide +kernel
theorem dX12_cell_44 : decode cX12_cell 44 = .ok (.getfield 108, 3) := by decide +kernel
theorem dX12_cell_47 : decode cX12_cell 47 = .ok (.bipush 40, 2) := by decide +kernel
theorem dX12_cell_49 : decode cX12_cell 49 = .ok (.iload_n 1, 1) := by decide +kernel
theorem dX12_cell_50 : decode cX12_cell 50 = .ok (.imul, 1) := by decide +kernel
theorem dX12_cell_51 : decode cX12_cell 51 = .ok (.iload_n 2, 1) := by decide +kernel
theorem dX12_cell_52 : decode cX12_cell 52 = .ok (.iadd, 1) := by decide +kernel
theorem dX12_cell_53 : decode cX12_cell 53 = .ok (.aload_n 0, 1) := by decide +kernel
theorem dX12_cell_54 : decode cX12_cell 54 = .ok (.getfield 102, 3) := by decide +kernel
theorem dX12_cell_57 : decode cX12_cell 57 = .ok (.iload_n 1, 1) := by decide +kernel
theorem dX12_cell_58 : decode cX12_cell 58 = .ok (.iaload, 1) := by decide +kernel
theorem dX12_cell_59 : decode cX12_cell 59 = .ok (.ifCond .ne 8, 3) := by decide +kernel
theorem dX12_cell_62 : decode cX12_cell 62 = .ok (.iload_n 3, 1) := by decide +kernel
theorem dX12_cell_63 : decode cX12_cell 63 = .ok (.i2b, 1) := by decide +kernel
theorem dX12_cell_64 : decode cX12_cell 64 = .ok (.goto 19, 3) := by decide +kernel
theorem dX12_cell_67 : decode cX12_cell 67 = .ok (.aload_n 0, 1) := by decide +kernel
theorem dX12_cell_68 : decode cX12_cell 68 = .ok (.getfield 102, 3) := by decide +kernel
theorem dX12_cell_71 : decode cX12_cell 71 = .ok (.iload_n 1, 1) := by decide +kernel
theorem dX12_cell_72 : decode cX12_cell 72 = .ok (.iaload, 1) := by decide +kernel
theorem dX12_cell_73 : decode cX12_cell 73 = .ok (.iconst 1, 1) := by decide +kernel
theorem dX12_cell_74 : decode cX12_cell 74 = .ok (.if_icmp .ne 8, 3) := by decide +kernel
theorem dX12_cell_77 : decode cX12_cell 77 = .ok (.iload_n 3, 1) := by decide +kernel
theorem dX12_cell_78 : decode cX12_cell 78 = .ok (.i2s, 1) := by decide +kernel
theorem dX12_cell_79 : decode cX12_cell 79 = .ok (.goto 4, 3) := by decide +kernel
theorem dX12_cell_82 : decode cX12_cell 82 = .ok (.iload_n 3, 1) := by decide +kernel
theorem dX12_cell_83 : decode cX12_cell 83 = .ok (.iastore, 1) := by decide +kernel
theorem dX12_cell_84 : decode cX12_cell 84 = .ok (.iconst 1, 1) := by decide +kernel
theorem dX12_cell_85 : decode cX12_cell 85 = .ok (.ireturn, 1) := by decide +kernel
theorem dX12_copy_0 : decode cX12_copy 0 = .ok (.iload_n 1, 1) := by decide +kernel
theorem dX12_copy_1 : decode cX12_copy 1 = .ok (.invokestatic 384, 3) := by decide +kernel
theorem dX12_copy_4 : decode cX12_copy 4 = .ok (.ifCond .eq 10, 3) := by decide +kernel
theorem dX12_copy_7 : decode cX12_copy 7 = .ok (.iload_n 3, 1) := by decide +kernel
theorem dX12_copy_8 : decode cX12_copy 8 = .ok (.invokestatic 384, 3) := by decide +kernel
theorem dX12_copy_11 : decode cX12_copy 11 = .ok (.ifCond .ne 6, 3) := by decide +kernel
theorem dX12_copy_14 : decode cX12_copy 14 = .ok (.bipush (-2), 2) := by decide +kernel
theorem dX12_copy_16 : decode cX12_copy 16 = .ok (.ireturn, 1) := by decide +kernel
theorem dX12_copy_17 : decode cX12_copy 17 = .ok (.aload_n 0, 1) := by decide +kernel
theorem dX12_copy_18 : decode cX12_copy 18 = .ok (.getfield 99, 3) := by decide +kernel
theorem dX12_copy_21 : decode cX12_copy 21 = .ok (.iload_n 1, 1) := by decide +kernel
theorem dX12_copy_22 : decode cX12_copy 22 = .ok (.baload, 1) := by decide +kernel
theorem dX12_copy_23 : decode cX12_copy 23 = .ok (.ifCond .eq 12, 3) := by decide +kernel
theorem dX12_copy_26 : decode cX12_copy 26 = .ok (.aload_n 0, 1) := by decide +kernel
theorem dX12_copy_27 : decode cX12_copy 27 = .ok (.getfield 99, 3) := by decide +kernel
theorem dX12_copy_30 : decode cX12_copy 30 = .ok (.iload_n 3, 1) := by decide +kernel
theorem dX12_copy_31 : decode cX12_copy 31 = .ok (.baload, 1) := by decide +kernel
theorem dX12_copy_32 : decode cX12_copy 32 = .ok (.ifCond .ne 6, 3) := by decide +kernel
theorem dX12_copy_35 : decode cX12_copy 35 = .ok (.bipush (-11), 2) := by decide +kernel
theorem dX12_copy_37 : decode cX12_copy 37 = .ok (.ireturn, 1) := by decide +kernel
theorem dX12_copy_38 : decode cX12_copy 38 = .ok (.aload_n 0, 1) := by decide +kernel
theorem dX12_copy_39 : decode cX12_copy 39 = .ok (.getfield 102, 3) := by decide +kernel
theorem dX12_copy_42 : decode cX12_copy 42 = .ok (.iload_n 1, 1) := by decide +kernel
theorem dX12_copy_43 : decode cX12_copy 43 = .ok (.iaload, 1) := by decide +kernel
theorem dX12_copy_44 : decode cX12_copy 44 = .ok (.aload_n 0, 1) := by decide +kernel
theorem dX12_copy_45 : decode cX12_copy 45 = .ok (.getfield 102, 3) := by decide +kernel
theorem dX12_copy_48 : decode cX12_copy 48 = .ok (.iload_n 3, 1) := by decide +kernel
theorem dX12_copy_49 : decode cX12_copy 49 = .ok (.iaload, 1) := by decide +kernel
theorem dX12_copy_50 : decode cX12_copy 50 = .ok (.if_icmp .eq 6, 3) := by decide +kernel
theorem dX12_copy_53 : decode cX12_copy 53 = .ok (.bipush (-13), 2) := by decide +kernel
theorem dX12_copy_55 : decode cX12_copy 55 = .ok (.ireturn, 1) := by decide +kernel
theorem dX12_copy_56 : decode cX12_copy 56 = .ok (.iload 5, 2) := by decide +kernel
theorem dX12_copy_58 : decode cX12_copy 58 = .ok (.ifCond .lt 39, 3) := by decide +kernel
theorem dX12_copy_61 : decode cX12_copy 61 = .ok (.iload_n 2, 1) := by decide +kernel
theorem dX12_copy_62 : decode cX12_copy 62 = .ok (.ifCond .lt 35, 3) := by decide +kernel
theorem dX12_copy_65 : decode cX12_copy 65 = .ok (.iload 4, 2) := by decide +kernel
theorem dX12_copy_67 : decode cX12_copy 67 = .ok (.ifCond .lt 30, 3) := by decide +kernel
theorem dX12_copy_70 : decode cX12_copy 70 = .ok (.iload_n 2, 1) := by decide +kernel
theorem dX12_copy_71 : decode cX12_copy 71 = .ok (.aload_n 0, 1) := by decide +kernel
theorem dX12_copy_72 : decode cX12_copy 72 = .ok (.getfield 105, 3) := by decide +kernel
theorem dX12_copy_75 : decode cX12_copy 75 = .ok (.iload_n 1, 1) := by decide +kernel
theorem dX12_copy_76 : decode cX12_copy 76 = .ok (.iaload, 1) := by decide +kernel
theorem dX12_copy_77 : decode cX12_copy 77 = .ok (.iload 5, 2) := by decide +kernel
theorem dX12_copy_79 : decode cX12_copy 79 = .ok (.isub, 1) := by decide +kernel
theorem dX12_copy_80 : decode cX12_copy 80 = .ok (.if_icmp .gt 17, 3) := by decide +kernel
theorem dX12_copy_83 : decode cX12_copy 83 = .ok (.iload 4, 2) := by decide +kernel
theorem dX12_copy_85 : decode cX12_copy 85 = .ok (.aload_n 0, 1) := by decide +kernel
theorem dX12_copy_86 : decode cX12_copy 86 = .ok (.getfield 105, 3) := by decide +kernel
theorem dX12_copy_89 : decode cX12_copy 89 = .ok (.iload_n 3, 1) := by decide +kernel
theorem dX12_copy_90 : decode cX12_copy 90 = .ok (.iaload, 1) := by decide +kernel
theorem dX12_copy_91 : decode cX12_copy 91 = .ok (.iload 5, 2) := by decide +kernel
theorem dX12_copy_93 : decode cX12_copy 93 = .ok (.isub, 1) := by decide +kernel
theorem dX12_copy_94 : decode cX12_copy 94 = .ok (.if_icmp .le 6, 3) := by decide +kernel
theorem dX12_copy_97 : decode cX12_copy 97 = .ok (.bipush (-12), 2) := by decide +kernel
theorem dX12_copy_99 : decode cX12_copy 99 = .ok (.ireturn, 1) := by decide +kernel
theorem dX12_copy_100 : decode cX12_copy 100 = .ok (.iload_n 1, 1) := by decide +kernel
theorem dX12_copy_101 : decode cX12_copy 101 = .ok (.iload_n 3, 1) := by decide +kernel
theorem dX12_copy_102 : decode cX12_copy 102 = .ok (.if_icmp .ne 13, 3) := by decide +kernel
theorem dX12_copy_105 : decode cX12_copy 105 = .ok (.iload_n 2, 1) := by decide +kernel
theorem dX12_copy_106 : decode cX12_copy 106 = .ok (.iload 4, 2) := by decide +kernel
theorem dX12_copy_108 : decode cX12_copy 108 = .ok (.if_icmp .ge 7, 3) := by decide +kernel
theorem dX12_copy_111 : decode cX12_copy 111 = .ok (.iconst 1, 1) := by decide +kernel
theorem dX12_copy_112 : decode cX12_copy 112 = .ok (.goto 4, 3) := by decide +kernel
theorem dX12_copy_115 : decode cX12_copy 115 = .ok (.iconst 0, 1) := by decide +kernel
theorem dX12_copy_116 : decode cX12_copy 116 = .ok (.istore 6, 2) := by decide +kernel
theorem dX12_copy_118 : decode cX12_copy 118 = .ok (.iconst 0, 1) := by decide +kernel
theorem dX12_copy_119 : decode cX12_copy 119 = .ok (.istore 7, 2) := by decide +kernel
theorem dX12_copy_121 : decode cX12_copy 121 = .ok (.iload 7, 2) := by decide +kernel
theorem dX12_copy_123 : decode cX12_copy 123 = .ok (.iload 5, 2) := by decide +kernel
theorem dX12_copy_125 : decode cX12_copy 125 = .ok (.if_icmp .ge 57, 3) := by decide +kernel
theorem dX12_copy_128 : decode cX12_copy 128 = .ok (.iload 6, 2) := by decide +kernel
theorem dX12_copy_130 : decode cX12_copy 130 = .ok (.ifCond .eq 13, 3) := by decide +kernel
theorem dX12_copy_133 : decode cX12_copy 133 = .ok (.iload 5, 2) := by decide +kernel
theorem dX12_copy_135 : decode cX12_copy 135 = .ok (.iconst 1, 1) := by decide +kernel
theorem dX12_copy_136 : decode cX12_copy 136 = .ok (.isub, 1) := by decide +kernel
theorem dX12_copy_137 : decode cX12_copy 137 = .ok (.iload 7, 2) := by decide +kernel
theorem dX12_copy_139 : decode cX12_copy 139 = .ok (.isub, 1) := by decide +kernel
theorem dX12_copy_140 : decode cX12_copy 140 = .ok (.goto 5, 3) := by decide +kernel
theorem dX12_copy_143 : decode cX12_copy 143 = .ok (.iload 7, 2) := by decide +kernel
theorem dX12_copy_145 : decode cX12_copy 145 = .ok (.istore 8, 2) := by decide +kernel
theorem dX12_copy_147 : decode cX12_copy 147 = .ok (.aload_n 0, 1) := by decide +kernel
theorem dX12_copy_148 : decode cX12_copy 148 = .ok (.getfield 108, 3) := by decide +kernel
theorem dX12_copy_151 : decode cX12_copy 151 = .ok (.bipush 40, 2) := by decide +kernel
theorem dX12_copy_153 : decode cX12_copy 153 = .ok (.iload_n 3, 1) := by decide +kernel
theorem dX12_copy_154 : decode cX12_copy 154 = .ok (.imul, 1) := by decide +kernel
theorem dX12_copy_155 : decode cX12_copy 155 = .ok (.iload 4, 2) := by decide +kernel
theorem dX12_copy_157 : decode cX12_copy 157 = .ok (.iadd, 1) := by decide +kernel
theorem dX12_copy_158 : decode cX12_copy 158 = .ok (.iload 8, 2) := by decide +kernel
theorem dX12_copy_160 : decode cX12_copy 160 = .ok (.iadd, 1) := by decide +kernel
theorem dX12_copy_161 : decode cX12_copy 161 = .ok (.aload_n 0, 1) := by decide +kernel
theorem dX12_copy_162 : decode cX12_copy 162 = .ok (.getfield 108, 3) := by decide +kernel
theorem dX12_copy_165 : decode cX12_copy 165 = .ok (.bipush 40, 2) := by decide +kernel
theorem dX12_copy_167 : decode cX12_copy 167 = .ok (.iload_n 1, 1) := by decide +kernel
theorem dX12_copy_168 : decode cX12_copy 168 = .ok (.imul, 1) := by decide +kernel
theorem dX12_copy_169 : decode cX12_copy 169 = .ok (.iload_n 2, 1) := by decide +kernel
theorem dX12_copy_170 : decode cX12_copy 170 = .ok (.iadd, 1) := by decide +kernel
theorem dX12_copy_171 : decode cX12_copy 171 = .ok (.iload 8, 2) := by decide +kernel
theorem dX12_copy_173 : decode cX12_copy 173 = .ok (.iadd, 1) := by decide +kernel
theorem dX12_copy_174 : decode cX12_copy 174 = .ok (.iaload, 1) := by decide +kernel
theorem dX12_copy_175 : decode cX12_copy 175 = .ok (.iastore, 1) := by decide +kernel
theorem dX12_copy_176 : decode cX12_copy 176 = .ok (.iinc 7 1, 3) := by decide +kernel
theorem dX12_copy_179 : decode cX12_copy 179 = .ok (.goto (-58), 3) := by decide +kernel
theorem dX12_copy_182 : decode cX12_copy 182 = .ok (.iload 5, 2) := by decide +kernel

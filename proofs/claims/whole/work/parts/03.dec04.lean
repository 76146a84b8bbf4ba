theorem dX12_reads_238 : decode cX12_reads 238 = .ok (.iload_n 3, 1) := by decide +kernel
theorem dX12_reads_239 : decode cX12_reads 239 = .ok (.iconst 4, 1) := by decide +kernel
theorem dX12_reads_240 : decode cX12_reads 240 = .ok (.iadd, 1) := by decide +kernel
theorem dX12_reads_241 : decode cX12_reads 241 = .ok (.iaload, 1) := by decide +kernel
theorem dX12_reads_242 : decode cX12_reads 242 = .ok (.bipush 97, 2) := by decide +kernel
theorem dX12_reads_244 : decode cX12_reads 244 = .ok (.isub, 1) := by decide +kernel
theorem dX12_reads_245 : decode cX12_reads 245 = .ok (.imul, 1) := by decide +kernel
theorem dX12_reads_246 : decode cX12_reads 246 = .ok (.aload_n 0, 1) := by decide +kernel
theorem dX12_reads_247 : decode cX12_reads 247 = .ok (.getfield 20, 3) := by decide +kernel
theorem dX12_reads_250 : decode cX12_reads 250 = .ok (.iload_n 3, 1) := by decide +kernel
theorem dX12_reads_251 : decode cX12_reads 251 = .ok (.iconst 5, 1) := by decide +kernel
theorem dX12_reads_252 : decode cX12_reads 252 = .ok (.iadd, 1) := by decide +kernel
theorem dX12_reads_253 : decode cX12_reads 253 = .ok (.iaload, 1) := by decide +kernel
theorem dX12_reads_254 : decode cX12_reads 254 = .ok (.iadd, 1) := by decide +kernel
theorem dX12_reads_255 : decode cX12_reads 255 = .ok (.bipush 48, 2) := by decide +kernel
theorem dX12_reads_257 : decode cX12_reads 257 = .ok (.isub, 1) := by decide +kernel
theorem dX12_reads_258 : decode cX12_reads 258 = .ok (.istore 7, 2) := by decide +kernel
theorem dX12_reads_260 : decode cX12_reads 260 = .ok (.iload_n 2, 1) := by decide +kernel
theorem dX12_reads_261 : decode cX12_reads 261 = .ok (.iconst 4, 1) := by decide +kernel
theorem dX12_reads_262 : decode cX12_reads 262 = .ok (.iload 7, 2) := by decide +kernel
theorem dX12_reads_264 : decode cX12_reads 264 = .ok (.bipush 10, 2) := by decide +kernel
theorem dX12_reads_266 : decode cX12_reads 266 = .ok (.idiv, 1) := by decide +kernel
theorem dX12_reads_267 : decode cX12_reads 267 = .ok (.imul, 1) := by decide +kernel
theorem dX12_reads_268 : decode cX12_reads 268 = .ok (.iadd, 1) := by decide +kernel
theorem dX12_reads_269 : decode cX12_reads 269 = .ok (.iload 7, 2) := by decide +kernel
theorem dX12_reads_271 : decode cX12_reads 271 = .ok (.bipush 10, 2) := by decide +kernel
theorem dX12_reads_273 : decode cX12_reads 273 = .ok (.irem, 1) := by decide +kernel
theorem dX12_reads_274 : decode cX12_reads 274 = .ok (.iadd, 1) := by decide +kernel
theorem dX12_reads_275 : decode cX12_reads 275 = .ok (.istore 8, 2) := by decide +kernel
theorem dX12_reads_277 : decode cX12_reads 277 = .ok (.iload 6, 2) := by decide +kernel
theorem dX12_reads_279 : decode cX12_reads 279 = .ok (.bipush 45, 2) := by decide +kernel
theorem dX12_reads_281 : decode cX12_reads 281 = .ok (.if_icmp .ne 18, 3) := by decide +kernel
theorem dX12_reads_284 : decode cX12_reads 284 = .ok (.aload_n 0, 1) := by decide +kernel
theorem dX12_reads_285 : decode cX12_reads 285 = .ok (.getfield 23, 3) := by decide +kernel
theorem dX12_reads_288 : decode cX12_reads 288 = .ok (.iload 8, 2) := by decide +kernel
theorem dX12_reads_290 : decode cX12_reads 290 = .ok (.iaload, 1) := by decide +kernel
theorem dX12_reads_291 : decode cX12_reads 291 = .ok (.iconst (-1), 1) := by decide +kernel
theorem dX12_reads_292 : decode cX12_reads 292 = .ok (.if_icmp .eq 7, 3) := by decide +kernel
theorem dX12_reads_295 : decode cX12_reads 295 = .ok (.iload_n 3, 1) := by decide +kernel
theorem dX12_reads_296 : decode cX12_reads 296 = .ok (.iconst 5, 1) := by decide +kernel
theorem dX12_reads_297 : decode cX12_reads 297 = .ok (.iadd, 1) := by decide +kernel
theorem dX12_reads_298 : decode cX12_reads 298 = .ok (.ireturn, 1) := by decide +kernel
theorem dX12_reads_299 : decode cX12_reads 299 = .ok (.aload_n 0, 1) := by decide +kernel
theorem dX12_reads_300 : decode cX12_reads 300 = .ok (.getfield 23, 3) := by decide +kernel
theorem dX12_reads_303 : decode cX12_reads 303 = .ok (.iload 5, 2) := by decide +kernel
theorem dX12_reads_305 : decode cX12_reads 305 = .ok (.iload 7, 2) := by decide +kernel
theorem dX12_reads_307 : decode cX12_reads 307 = .ok (.iastore, 1) := by decide +kernel
theorem dX12_reads_308 : decode cX12_reads 308 = .ok (.iload 6, 2) := by decide +kernel
theorem dX12_reads_310 : decode cX12_reads 310 = .ok (.bipush 45, 2) := by decide +kernel
theorem dX12_reads_312 : decode cX12_reads 312 = .ok (.if_icmp .ne 12, 3) := by decide +kernel
theorem dX12_reads_315 : decode cX12_reads 315 = .ok (.aload_n 0, 1) := by decide +kernel
theorem dX12_reads_316 : decode cX12_reads 316 = .ok (.getfield 23, 3) := by decide +kernel
theorem dX12_reads_319 : decode cX12_reads 319 = .ok (.iload 8, 2) := by decide +kernel
theorem dX12_reads_321 : decode cX12_reads 321 = .ok (.iload 4, 2) := by decide +kernel
theorem dX12_reads_323 : decode cX12_reads 323 = .ok (.iastore, 1) := by decide +kernel
theorem dX12_reads_324 : decode cX12_reads 324 = .ok (.iinc 3 6, 3) := by decide +kernel
theorem dX12_reads_327 : decode cX12_reads 327 = .ok (.goto (-260), 3) := by decide +kernel
theorem dX12_reads_330 : decode cX12_reads 330 = .ok (.iconst (-1), 1) := by decide +kernel
theorem dX12_reads_331 : decode cX12_reads 331 = .ok (.ireturn, 1) := by decide +kernel
theorem dX12_leads_0 : decode cX12_leads 0 = .ok (.aload_n 0, 1) := by decide +kernel
theorem dX12_leads_1 : decode cX12_leads 1 = .ok (.iload_n 1, 1) := by decide +kernel
theorem dX12_leads_2 : decode cX12_leads 2 = .ok (.invokevirtual 137, 3) := by decide +kernel
theorem dX12_leads_5 : decode cX12_leads 5 = .ok (.ifCond .ne 6, 3) := by decide +kernel
theorem dX12_leads_8 : decode cX12_leads 8 = .ok (.bipush (-2), 2) := by decide +kernel
theorem dX12_leads_10 : decode cX12_leads 10 = .ok (.ireturn, 1) := by decide +kernel
theorem dX12_leads_11 : decode cX12_leads 11 = .ok (.iload_n 2, 1) := by decide +kernel
theorem dX12_leads_12 : decode cX12_leads 12 = .ok (.iconst (-1), 1) := by decide +kernel
theorem dX12_leads_13 : decode cX12_leads 13 = .ok (.if_icmp .ne 10, 3) := by decide +kernel
theorem dX12_leads_16 : decode cX12_leads 16 = .ok (.aload_n 0, 1) := by decide +kernel
theorem dX12_leads_17 : decode cX12_leads 17 = .ok (.getfield 26, 3) := by decide +kernel
theorem dX12_leads_20 : decode cX12_leads 20 = .ok (.iload_n 1, 1) := by decide +kernel
theorem dX12_leads_21 : decode cX12_leads 21 = .ok (.iaload, 1) := by decide +kernel
theorem dX12_leads_22 : decode cX12_leads 22 = .ok (.ireturn, 1) := by decide +kernel
theorem dX12_leads_23 : decode cX12_leads 23 = .ok (.aload_n 0, 1) := by decide +kernel
theorem dX12_leads_24 : decode cX12_leads 24 = .ok (.iload_n 1, 1) := by decide +kernel
theorem dX12_leads_25 : decode cX12_leads 25 = .ok (.iload_n 2, 1) := by decide +kernel
theorem dX12_leads_26 : decode cX12_leads 26 = .ok (.invokevirtual 165, 3) := by decide +kernel
theorem dX12_leads_29 : decode cX12_leads 29 = .ok (.ifCond .eq 25, 3) := by decide +kernel
theorem dX12_leads_32 : decode cX12_leads 32 = .ok (.iload_n 3, 1) := by decide +kernel
theorem dX12_leads_33 : decode cX12_leads 33 = .ok (.i2l, 1) := by decide +kernel
theorem dX12_leads_34 : decode cX12_leads 34 = .ok (.lconst 0, 1) := by decide +kernel
theorem dX12_leads_35 : decode cX12_leads 35 = .ok (.ldc2_w 168, 3) := by decide +kernel
theorem dX12_leads_38 : decode cX12_leads 38 = .ok (.invokestatic 133, 3) := by decide +kernel
theorem dX12_leads_41 : decode cX12_leads 41 = .ok (.ifCond .eq 13, 3) := by decide +kernel
theorem dX12_leads_44 : decode cX12_leads 44 = .ok (.aload_n 0, 1) := by decide +kernel
theorem dX12_leads_45 : decode cX12_leads 45 = .ok (.iload_n 1, 1) := by decide +kernel
theorem dX12_leads_46 : decode cX12_leads 46 = .ok (.iload_n 2, 1) := by decide +kernel
theorem dX12_leads_47 : decode cX12_leads 47 = .ok (.iload_n 3, 1) := by decide +kernel
theorem dX12_leads_48 : decode cX12_leads 48 = .ok (.invokevirtual 170, 3) := by decide +kernel
theorem dX12_leads_51 : decode cX12_leads 51 = .ok (.goto 5, 3) := by decide +kernel
theorem dX12_leads_54 : decode cX12_leads 54 = .ok (.bipush (-2), 2) := by decide +kernel
theorem dX12_leads_56 : decode cX12_leads 56 = .ok (.ireturn, 1) := by decide +kernel
theorem dX12_pebbles_0 : decode cX12_pebbles 0 = .ok (.aload_n 0, 1) := by decide +kernel
theorem dX12_pebbles_1 : decode cX12_pebbles 1 = .ok (.iload_n 1, 1) := by decide +kernel
theorem dX12_pebbles_2 : decode cX12_pebbles 2 = .ok (.iload_n 2, 1) := by decide +kernel
theorem dX12_pebbles_3 : decode cX12_pebbles 3 = .ok (.invokevirtual 165, 3) := by decide +kernel
theorem dX12_pebbles_6 : decode cX12_pebbles 6 = .ok (.ifCond .eq 15, 3) := by decide +kernel
theorem dX12_pebbles_9 : decode cX12_pebbles 9 = .ok (.iload_n 3, 1) := by decide +kernel
theorem dX12_pebbles_10 : decode cX12_pebbles 10 = .ok (.i2l, 1) := by decide +kernel
theorem dX12_pebbles_11 : decode cX12_pebbles 11 = .ok (.lconst 0, 1) := by decide +kernel
theorem dX12_pebbles_12 : decode cX12_pebbles 12 = .ok (.ldc2_w 174, 3) := by decide +kernel
theorem dX12_pebbles_15 : decode cX12_pebbles 15 = .ok (.invokestatic 133, 3) := by decide +kernel
theorem dX12_pebbles_18 : decode cX12_pebbles 18 = .ok (.ifCond .ne 6, 3) := by decide +kernel
theorem dX12_pebbles_21 : decode cX12_pebbles 21 = .ok (.bipush (-2), 2) := by decide +kernel
theorem dX12_pebbles_23 : decode cX12_pebbles 23 = .ok (.ireturn, 1) := by decide +kernel
theorem dX12_pebbles_24 : decode cX12_pebbles 24 = .ok (.aload_n 0, 1) := by decide +kernel
theorem dX12_pebbles_25 : decode cX12_pebbles 25 = .ok (.getfield 29, 3) := by decide +kernel
theorem dX12_pebbles_28 : decode cX12_pebbles 28 = .ok (.bipush 10, 2) := by decide +kernel
theorem dX12_pebbles_30 : decode cX12_pebbles 30 = .ok (.iload_n 1, 1) := by decide +kernel
theorem dX12_pebbles_31 : decode cX12_pebbles 31 = .ok (.imul, 1) := by decide +kernel
theorem dX12_pebbles_32 : decode cX12_pebbles 32 = .ok (.iload_n 2, 1) := by decide +kernel
theorem dX12_pebbles_33 : decode cX12_pebbles 33 = .ok (.iadd, 1) := by decide +kernel
theorem dX12_pebbles_34 : decode cX12_pebbles 34 = .ok (.iaload, 1) := by decide +kernel
theorem dX12_pebbles_35 : decode cX12_pebbles 35 = .ok (.istore 4, 2) := by decide +kernel
theorem dX12_pebbles_37 : decode cX12_pebbles 37 = .ok (.aload_n 0, 1) := by decide +kernel
theorem dX12_pebbles_38 : decode cX12_pebbles 38 = .ok (.getfield 29, 3) := by decide +kernel
theorem dX12_pebbles_41 : decode cX12_pebbles 41 = .ok (.bipush 10, 2) := by decide +kernel
theorem dX12_pebbles_43 : decode cX12_pebbles 43 = .ok (.iload_n 1, 1) := by decide +kernel
theorem dX12_pebbles_44 : decode cX12_pebbles 44 = .ok (.imul, 1) := by decide +kernel
theorem dX12_pebbles_45 : decode cX12_pebbles 45 = .ok (.iload_n 2, 1) := by decide +kernel
theorem dX12_pebbles_46 : decode cX12_pebbles 46 = .ok (.iadd, 1) := by decide +kernel
theorem dX12_pebbles_47 : decode cX12_pebbles 47 = .ok (.iload_n 3, 1) := by decide +kernel
theorem dX12_pebbles_48 : decode cX12_pebbles 48 = .ok (.iastore, 1) := by decide +kernel
theorem dX12_pebbles_49 : decode cX12_pebbles 49 = .ok (.iload 4, 2) := by decide +kernel
theorem dX12_pebbles_51 : decode cX12_pebbles 51 = .ok (.ireturn, 1) := by decide +kernel
theorem dX12_isWalker_0 : decode cX12_isWalker 0 = .ok (.iload_n 1, 1) := by decide +kernel
theorem dX12_isWalker_1 : decode cX12_isWalker 1 = .ok (.i2l, 1) := by decide +kernel
theorem dX12_isWalker_2 : decode cX12_isWalker 2 = .ok (.lconst 0, 1) := by decide +kernel
theorem dX12_isWalker_3 : decode cX12_isWalker 3 = .ok (.aload_n 0, 1) := by decide +kernel
theorem dX12_isWalker_4 : decode cX12_isWalker 4 = .ok (.getfield 176, 3) := by decide +kernel
theorem dX12_isWalker_7 : decode cX12_isWalker 7 = .ok (.iconst 1, 1) := by decide +kernel
theorem dX12_isWalker_8 : decode cX12_isWalker 8 = .ok (.isub, 1) := by decide +kernel
theorem dX12_isWalker_9 : decode cX12_isWalker 9 = .ok (.i2l, 1) := by decide +kernel
theorem dX12_isWalker_10 : decode cX12_isWalker 10 = .ok (.invokestatic 133, 3) := by decide +kernel
theorem dX12_isWalker_13 : decode cX12_isWalker 13 = .ok (.ireturn, 1) := by decide +kernel
theorem dX12_walker_0 : decode cX12_walker 0 = .ok (.iload_n 1, 1) := by decide +kernel
theorem dX12_walker_1 : decode cX12_walker 1 = .ok (.i2l, 1) := by decide +kernel
theorem dX12_walker_2 : decode cX12_walker 2 = .ok (.lconst 0, 1) := by decide +kernel
theorem dX12_walker_3 : decode cX12_walker 3 = .ok (.ldc2_w 179, 3) := by decide +kernel
theorem dX12_walker_6 : decode cX12_walker 6 = .ok (.invokestatic 133, 3) := by decide +kernel
theorem dX12_walker_9 : decode cX12_walker 9 = .ok (.ifCond .eq 43, 3) := by decide +kernel
theorem dX12_walker_12 : decode cX12_walker 12 = .ok (.iload_n 2, 1) := by decide +kernel
theorem dX12_walker_13 : decode cX12_walker 13 = .ok (.ifCond .lt 39, 3) := by decide +kernel
theorem dX12_walker_16 : decode cX12_walker 16 = .ok (.aload_n 0, 1) := by decide +kernel
theorem dX12_walker_17 : decode cX12_walker 17 = .ok (.iload_n 2, 1) := by decide +kernel
theorem dX12_walker_18 : decode cX12_walker 18 = .ok (.bipush 10, 2) := by decide +kernel
theorem dX12_walker_20 : decode cX12_walker 20 = .ok (.idiv, 1) := by decide +kernel
theorem dX12_walker_21 : decode cX12_walker 21 = .ok (.iload_n 2, 1) := by decide +kernel
theorem dX12_walker_22 : decode cX12_walker 22 = .ok (.bipush 10, 2) := by decide +kernel
theorem dX12_walker_24 : decode cX12_walker 24 = .ok (.irem, 1) := by decide +kernel
theorem dX12_walker_25 : decode cX12_walker 25 = .ok (.invokevirtual 165, 3) := by decide +kernel
theorem dX12_walker_28 : decode cX12_walker 28 = .ok (.ifCond .eq 24, 3) := by decide +kernel
theorem dX12_walker_31 : decode cX12_walker 31 = .ok (.iload_n 3, 1) := by decide +kernel
theorem dX12_walker_32 : decode cX12_walker 32 = .ok (.i2l, 1) := by decide +kernel
theorem dX12_walker_33 : decode cX12_walker 33 = .ok (.lconst 0, 1) := by decide +kernel
theorem dX12_walker_34 : decode cX12_walker 34 = .ok (.ldc2_w 181, 3) := by decide +kernel
theorem dX12_walker_37 : decode cX12_walker 37 = .ok (.invokestatic 133, 3) := by decide +kernel
theorem dX12_walker_40 : decode cX12_walker 40 = .ok (.ifCond .eq 12, 3) := by decide +kernel
theorem dX12_walker_43 : decode cX12_walker 43 = .ok (.iload_n 3, 1) := by decide +kernel
theorem dX12_walker_44 : decode cX12_walker 44 = .ok (.bipush 100, 2) := by decide +kernel
theorem dX12_walker_46 : decode cX12_walker 46 = .ok (.irem, 1) := by decide +kernel
theorem dX12_walker_47 : decode cX12_walker 47 = .ok (.bipush 11, 2) := by decide +kernel
theorem dX12_walker_49 : decode cX12_walker 49 = .ok (.if_icmp .le 6, 3) := by decide +kernel
theorem dX12_walker_52 : decode cX12_walker 52 = .ok (.bipush (-2), 2) := by decide +kernel
theorem dX12_walker_54 : decode cX12_walker 54 = .ok (.ireturn, 1) := by decide +kernel
theorem dX12_walker_55 : decode cX12_walker 55 = .ok (.aload_n 0, 1) := by decide +kernel
theorem dX12_walker_56 : decode cX12_walker 56 = .ok (.getfield 176, 3) := by decide +kernel
theorem dX12_walker_59 : decode cX12_walker 59 = .ok (.bipush 8, 2) := by decide +kernel
theorem dX12_walker_61 : decode cX12_walker 61 = .ok (.if_icmp .ne 6, 3) := by decide +kernel
theorem dX12_walker_64 : decode cX12_walker 64 = .ok (.bipush (-4), 2) := by decide +kernel
theorem dX12_walker_66 : decode cX12_walker 66 = .ok (.ireturn, 1) := by decide +kernel
theorem dX12_walker_67 : decode cX12_walker 67 = .ok (.aload_n 0, 1) := by decide +kernel
theorem dX12_walker_68 : decode cX12_walker 68 = .ok (.getfield 32, 3) := by decide +kernel
theorem dX12_walker_71 : decode cX12_walker 71 = .ok (.aload_n 0, 1) := by decide +kernel
theorem dX12_walker_72 : decode cX12_walker 72 = .ok (.getfield 176, 3) := by decide +kernel
theorem dX12_walker_75 : decode cX12_walker 75 = .ok (.iload_n 1, 1) := by decide +kernel
theorem dX12_walker_76 : decode cX12_walker 76 = .ok (.iastore, 1) := by decide +kernel
theorem dX12_walker_77 : decode cX12_walker 77 = .ok (.aload_n 0, 1) := by decide +kernel
theorem dX12_walker_78 : decode cX12_walker 78 = .ok (.getfield 35, 3) := by decide +kernel
theorem dX12_walker_81 : decode cX12_walker 81 = .ok (.aload_n 0, 1) := by decide +kernel
theorem dX12_walker_82 : decode cX12_walker 82 = .ok (.getfield 176, 3) := by decide +kernel
theorem dX12_walker_85 : decode cX12_walker 85 = .ok (.iload_n 2, 1) := by decide +kernel
theorem dX12_walker_86 : decode cX12_walker 86 = .ok (.bipush 10, 2) := by decide +kernel
theorem dX12_walker_88 : decode cX12_walker 88 = .ok (.idiv, 1) := by decide +kernel
theorem dX12_walker_89 : decode cX12_walker 89 = .ok (.iastore, 1) := by decide +kernel
theorem dX12_walker_90 : decode cX12_walker 90 = .ok (.aload_n 0, 1) := by decide +kernel
theorem dX12_walker_91 : decode cX12_walker 91 = .ok (.getfield 38, 3) := by decide +kernel
theorem dX12_walker_94 : decode cX12_walker 94 = .ok (.aload_n 0, 1) := by decide +kernel
theorem dX12_walker_95 : decode cX12_walker 95 = .ok (.getfield 176, 3) := by decide +kernel
theorem dX12_walker_98 : decode cX12_walker 98 = .ok (.iload_n 2, 1) := by decide +kernel
theorem dX12_walker_99 : decode cX12_walker 99 = .ok (.bipush 10, 2) := by decide +kernel
theorem dX12_walker_101 : decode cX12_walker 101 = .ok (.irem, 1) := by decide +kernel
theorem dX12_walker_102 : decode cX12_walker 102 = .ok (.iastore, 1) := by decide +kernel
theorem dX12_walker_103 : decode cX12_walker 103 = .ok (.aload_n 0, 1) := by decide +kernel
theorem dX12_walker_104 : decode cX12_walker 104 = .ok (.getfield 41, 3) := by decide +kernel
theorem dX12_walker_107 : decode cX12_walker 107 = .ok (.aload_n 0, 1) := by decide +kernel
theorem dX12_walker_108 : decode cX12_walker 108 = .ok (.getfield 176, 3) := by decide +kernel
theorem dX12_walker_111 : decode cX12_walker 111 = .ok (.iconst 0, 1) := by decide +kernel
theorem dX12_walker_112 : decode cX12_walker 112 = .ok (.iastore, 1) := by decide +kernel
theorem dX12_walker_113 : decode cX12_walker 113 = .ok (.aload_n 0, 1) := by decide +kernel
theorem dX12_walker_114 : decode cX12_walker 114 = .ok (.getfield 44, 3) := by decide +kernel
theorem dX12_walker_117 : decode cX12_walker 117 = .ok (.aload_n 0, 1) := by decide +kernel
theorem dX12_walker_118 : decode cX12_walker 118 = .ok (.getfield 176, 3) := by decide +kernel
theorem dX12_walker_121 : decode cX12_walker 121 = .ok (.iload_n 3, 1) := by decide +kernel
theorem dX12_walker_122 : decode cX12_walker 122 = .ok (.bipush 100, 2) := by decide +kernel
theorem dX12_walker_124 : decode cX12_walker 124 = .ok (.idiv, 1) := by decide +kernel
theorem dX12_walker_125 : decode cX12_walker 125 = .ok (.iastore, 1) := by decide +kernel
theorem dX12_walker_126 : decode cX12_walker 126 = .ok (.aload_n 0, 1) := by decide +kernel
theorem dX12_walker_127 : decode cX12_walker 127 = .ok (.getfield 47, 3) := by decide +kernel
theorem dX12_walker_130 : decode cX12_walker 130 = .ok (.aload_n 0, 1) := by decide +kernel
theorem dX12_walker_131 : decode cX12_walker 131 = .ok (.getfield 176, 3) := by decide +kernel
theorem dX12_walker_134 : decode cX12_walker 134 = .ok (.iload_n 3, 1) := by decide +kernel
theorem dX12_walker_135 : decode cX12_walker 135 = .ok (.bipush 100, 2) := by decide +kernel
theorem dX12_walker_137 : decode cX12_walker 137 = .ok (.irem, 1) := by decide +kernel
theorem dX12_walker_138 : decode cX12_walker 138 = .ok (.iastore, 1) := by decide +kernel
theorem dX12_walker_139 : decode cX12_walker 139 = .ok (.aload_n 0, 1) := by decide +kernel
theorem dX12_walker_140 : decode cX12_walker 140 = .ok (.getfield 50, 3) := by decide +kernel
theorem dX12_walker_143 : decode cX12_walker 143 = .ok (.aload_n 0, 1) := by decide +kernel
theorem dX12_walker_144 : decode cX12_walker 144 = .ok (.getfield 176, 3) := by decide +kernel
theorem dX12_walker_147 : decode cX12_walker 147 = .ok (.iconst 0, 1) := by decide +kernel
theorem dX12_walker_148 : decode cX12_walker 148 = .ok (.iastore, 1) := by decide +kernel
theorem dX12_walker_149 : decode cX12_walker 149 = .ok (.iconst 0, 1) := by decide +kernel
theorem dX12_walker_150 : decode cX12_walker 150 = .ok (.istore 4, 2) := by decide +kernel
theorem dX12_walker_152 : decode cX12_walker 152 = .ok (.iload 4, 2) := by decide +kernel
theorem dX12_walker_154 : decode cX12_walker 154 = .ok (.bipush 10, 2) := by decide +kernel
theorem dX12_walker_156 : decode cX12_walker 156 = .ok (.if_icmp .ge 25, 3) := by decide +kernel
theorem dX12_walker_159 : decode cX12_walker 159 = .ok (.aload_n 0, 1) := by decide +kernel
theorem dX12_walker_160 : decode cX12_walker 160 = .ok (.getfield 53, 3) := by decide +kernel
theorem dX12_walker_163 : decode cX12_walker 163 = .ok (.bipush 10, 2) := by decide +kernel
theorem dX12_walker_165 : decode cX12_walker 165 = .ok (.aload_n 0, 1) := by decide +kernel
theorem dX12_walker_166 : decode cX12_walker 166 = .ok (.getfield 176, 3) := by decide +kernel
theorem dX12_walker_169 : decode cX12_walker 169 = .ok (.imul, 1) := by decide +kernel
theorem dX12_walker_170 : decode cX12_walker 170 = .ok (.iload 4, 2) := by decide +kernel
theorem dX12_walker_172 : decode cX12_walker 172 = .ok (.iadd, 1) := by decide +kernel
theorem dX12_walker_173 : decode cX12_walker 173 = .ok (.iconst 0, 1) := by decide +kernel
theorem dX12_walker_174 : decode cX12_walker 174 = .ok (.iastore, 1) := by decide +kernel
theorem dX12_walker_175 : decode cX12_walker 175 = .ok (.iinc 4 1, 3) := by decide +kernel
theorem dX12_walker_178 : decode cX12_walker 178 = .ok (.goto (-26), 3) := by decide +kernel
theorem dX12_walker_181 : decode cX12_walker 181 = .ok (.aload_n 0, 1) := by decide +kernel
theorem dX12_walker_182 : decode cX12_walker 182 = .ok (.dup, 1) := by decide +kernel
theorem dX12_walker_183 : decode cX12_walker 183 = .ok (.getfield 176, 3) := by decide +kernel
theorem dX12_walker_186 : decode cX12_walker 186 = .ok (.iconst 1, 1) := by decide +kernel
theorem dX12_walker_187 : decode cX12_walker 187 = .ok (.iadd, 1) := by decide +kernel
theorem dX12_walker_188 : decode cX12_walker 188 = .ok (.putfield 176, 3) := by decide +kernel
theorem dX12_walker_191 : decode cX12_walker 191 = .ok (.aload_n 0, 1) := by decide +kernel
theorem dX12_walker_192 : decode cX12_walker 192 = .ok (.getfield 176, 3) := by decide +kernel
theorem dX12_walker_195 : decode cX12_walker 195 = .ok (.iconst 1, 1) := by decide +kernel
theorem dX12_walker_196 : decode cX12_walker 196 = .ok (.isub, 1) := by decide +kernel
theorem dX12_walker_197 : decode cX12_walker 197 = .ok (.ireturn, 1) := by decide +kernel
theorem dX12_doorsOf_0 : decode cX12_doorsOf 0 = .ok (.iconst 0, 1) := by decide +kernel
theorem dX12_doorsOf_1 : decode cX12_doorsOf 1 = .ok (.istore_n 3, 1) := by decide +kernel
theorem dX12_doorsOf_2 : decode cX12_doorsOf 2 = .ok (.iconst 0, 1) := by decide +kernel
theorem dX12_doorsOf_3 : decode cX12_doorsOf 3 = .ok (.istore 4, 2) := by decide +kernel
theorem dX12_doorsOf_5 : decode cX12_doorsOf 5 = .ok (.iload 4, 2) := by decide +kernel
theorem dX12_doorsOf_7 : decode cX12_doorsOf 7 = .ok (.iconst 4, 1) := by decide +kernel
theorem dX12_doorsOf_8 : decode cX12_doorsOf 8 = .ok (.if_icmp .ge 32, 3) := by decide +kernel
theorem dX12_doorsOf_11 : decode cX12_doorsOf 11 = .ok (.iload_n 3, 1) := by decide +kernel
theorem dX12_doorsOf_12 : decode cX12_doorsOf 12 = .ok (.aload_n 0, 1) := by decide +kernel
theorem dX12_doorsOf_13 : decode cX12_doorsOf 13 = .ok (.iload_n 1, 1) := by decide +kernel
theorem dX12_doorsOf_14 : decode cX12_doorsOf 14 = .ok (.iload_n 2, 1) := by decide +kernel
theorem dX12_doorsOf_15 : decode cX12_doorsOf 15 = .ok (.iload 4, 2) := by decide +kernel
theorem dX12_doorsOf_17 : decode cX12_doorsOf 17 = .ok (.invokevirtual 170, 3) := by decide +kernel
theorem dX12_doorsOf_20 : decode cX12_doorsOf 20 = .ok (.iconst (-1), 1) := by decide +kernel
theorem dX12_doorsOf_21 : decode cX12_doorsOf 21 = .ok (.if_icmp .eq 10, 3) := by decide +kernel
theorem dX12_doorsOf_24 : decode cX12_doorsOf 24 = .ok (.iconst 1, 1) := by decide +kernel
theorem dX12_doorsOf_25 : decode cX12_doorsOf 25 = .ok (.iload 4, 2) := by decide +kernel
theorem dX12_doorsOf_27 : decode cX12_doorsOf 27 = .ok (.ishl, 1) := by decide +kernel
theorem dX12_doorsOf_28 : decode cX12_doorsOf 28 = .ok (.goto 4, 3) := by decide +kernel
theorem dX12_doorsOf_31 : decode cX12_doorsOf 31 = .ok (.iconst 0, 1) := by decide +kernel
theorem dX12_doorsOf_32 : decode cX12_doorsOf 32 = .ok (.ior, 1) := by decide +kernel
theorem dX12_doorsOf_33 : decode cX12_doorsOf 33 = .ok (.istore_n 3, 1) := by decide +kernel
theorem dX12_doorsOf_34 : decode cX12_doorsOf 34 = .ok (.iinc 4 1, 3) := by decide +kernel
theorem dX12_doorsOf_37 : decode cX12_doorsOf 37 = .ok (.goto (-32), 3) := by decide +kernel
theorem dX12_doorsOf_40 : decode cX12_doorsOf 40 = .ok (.iload_n 3, 1) := by decide +kernel
theorem dX12_doorsOf_41 : decode cX12_doorsOf 41 = .ok (.ireturn, 1) := by decide +kernel
theorem dX12_bitsOf_0 : decode cX12_bitsOf 0 = .ok (.iconst 0, 1) := by decide +kernel
theorem dX12_bitsOf_1 : decode cX12_bitsOf 1 = .ok (.istore_n 1, 1) := by decide +kernel
theorem dX12_bitsOf_2 : decode cX12_bitsOf 2 = .ok (.iload_n 0, 1) := by decide +kernel
theorem dX12_bitsOf_3 : decode cX12_bitsOf 3 = .ok (.istore_n 2, 1) := by decide +kernel
theorem dX12_bitsOf_4 : decode cX12_bitsOf 4 = .ok (.iload_n 2, 1) := by decide +kernel
theorem dX12_bitsOf_5 : decode cX12_bitsOf 5 = .ok (.ifCond .eq 15, 3) := by decide +kernel
theorem dX12_bitsOf_8 : decode cX12_bitsOf 8 = .ok (.iinc 1 1, 3) := by decide +kernel
theorem dX12_bitsOf_11 : decode cX12_bitsOf 11 = .ok (.iload_n 2, 1) := by decide +kernel
theorem dX12_bitsOf_12 : decode cX12_bitsOf 12 = .ok (.iload_n 2, 1) := by decide +kernel
theorem dX12_bitsOf_13 : decode cX12_bitsOf 13 = .ok (.iconst 1, 1) := by decide +kernel
theorem dX12_bitsOf_14 : decode cX12_bitsOf 14 = .ok (.isub, 1) := by decide +kernel
theorem dX12_bitsOf_15 : decode cX12_bitsOf 15 = .ok (.iand, 1) := by decide +kernel
theorem dX12_bitsOf_16 : decode cX12_bitsOf 16 = .ok (.istore_n 2, 1) := by decide +kernel
theorem dX12_bitsOf_17 : decode cX12_bitsOf 17 = .ok (.goto (-13), 3) := by decide +kernel
theorem dX12_bitsOf_20 : decode cX12_bitsOf 20 = .ok (.iload_n 1, 1) := by decide +kernel
theorem dX12_bitsOf_21 : decode cX12_bitsOf 21 = .ok (.ireturn, 1) := by decide +kernel
theorem dX12_round_0 : decode cX12_round 0 = .ok (.iconst 0, 1) := by decide +kernel
theorem dX12_round_1 : decode cX12_round 1 = .ok (.istore_n 3, 1) := by decide +kernel
theorem dX12_round_2 : decode cX12_round 2 = .ok (.iload_n 3, 1) := by decide +kernel
theorem dX12_round_3 : decode cX12_round 3 = .ok (.iconst 4, 1) := by decide +kernel
theorem dX12_round_4 : decode cX12_round 4 = .ok (.if_icmp .ge 45, 3) := by decide +kernel
theorem dX12_round_7 : decode cX12_round 7 = .ok (.iload_n 2, 1) := by decide +kernel
theorem dX12_round_8 : decode cX12_round 8 = .ok (.iconst 4, 1) := by decide +kernel
theorem dX12_round_9 : decode cX12_round 9 = .ok (.irem, 1) := by decide +kernel
theorem dX12_round_10 : decode cX12_round 10 = .ok (.iconst 4, 1) := by decide +kernel
theorem dX12_round_11 : decode cX12_round 11 = .ok (.iadd, 1) := by decide +kernel
theorem dX12_round_12 : decode cX12_round 12 = .ok (.iload_n 3, 1) := by decide +kernel
theorem dX12_round_13 : decode cX12_round 13 = .ok (.iadd, 1) := by decide +kernel
theorem dX12_round_14 : decode cX12_round 14 = .ok (.iconst 4, 1) := by decide +kernel
theorem dX12_round_15 : decode cX12_round 15 = .ok (.irem, 1) := by decide +kernel
theorem dX12_round_16 : decode cX12_round 16 = .ok (.istore 4, 2) := by decide +kernel
theorem dX12_round_18 : decode cX12_round 18 = .ok (.aload_n 0, 1) := by decide +kernel
theorem dX12_round_19 : decode cX12_round 19 = .ok (.aload_n 0, 1) := by decide +kernel
theorem dX12_round_20 : decode cX12_round 20 = .ok (.getfield 35, 3) := by decide +kernel
theorem dX12_round_23 : decode cX12_round 23 = .ok (.iload_n 1, 1) := by decide +kernel
theorem dX12_round_24 : decode cX12_round 24 = .ok (.iaload, 1) := by decide +kernel
theorem dX12_round_25 : decode cX12_round 25 = .ok (.aload_n 0, 1) := by decide +kernel
theorem dX12_round_26 : decode cX12_round 26 = .ok (.getfield 38, 3) := by decide +kernel
theorem dX12_round_29 : decode cX12_round 29 = .ok (.iload_n 1, 1) := by decide +kernel
theorem dX12_round_30 : decode cX12_round 30 = .ok (.iaload, 1) := by decide +kernel
theorem dX12_round_31 : decode cX12_round 31 = .ok (.iload 4, 2) := by decide +kernel
theorem dX12_round_33 : decode cX12_round 33 = .ok (.invokevirtual 170, 3) := by decide +kernel
theorem dX12_round_36 : decode cX12_round 36 = .ok (.iconst (-1), 1) := by decide +kernel
theorem dX12_round_37 : decode cX12_round 37 = .ok (.if_icmp .eq 6, 3) := by decide +kernel
theorem dX12_round_40 : decode cX12_round 40 = .ok (.iload 4, 2) := by decide +kernel
theorem dX12_round_42 : decode cX12_round 42 = .ok (.ireturn, 1) := by decide +kernel
theorem dX12_round_43 : decode cX12_round 43 = .ok (.iinc 3 1, 3) := by decide +kernel
theorem dX12_round_46 : decode cX12_round 46 = .ok (.goto (-44), 3) := by decide +kernel
theorem dX12_round_49 : decode cX12_round 49 = .ok (.iconst (-1), 1) := by decide +kernel
theorem dX12_round_50 : decode cX12_round 50 = .ok (.ireturn, 1) := by decide +kernel
theorem dX12_plainly_0 : decode cX12_plainly 0 = .ok (.aload_n 0, 1) := by decide +kernel
theorem dX12_plainly_1 : decode cX12_plainly 1 = .ok (.iload_n 1, 1) := by decide +kernel
theorem dX12_plainly_2 : decode cX12_plainly 2 = .ok (.aload_n 0, 1) := by decide +kernel
theorem dX12_plainly_3 : decode cX12_plainly 3 = .ok (.getfield 41, 3) := by decide +kernel
theorem dX12_plainly_6 : decode cX12_plainly 6 = .ok (.iload_n 1, 1) := by decide +kernel
theorem dX12_plainly_7 : decode cX12_plainly 7 = .ok (.iaload, 1) := by decide +kernel
theorem dX12_plainly_8 : decode cX12_plainly 8 = .ok (.aload_n 0, 1) := by decide +kernel
theorem dX12_plainly_9 : decode cX12_plainly 9 = .ok (.iload_n 1, 1) := by decide +kernel
theorem dX12_plainly_10 : decode cX12_plainly 10 = .ok (.iconst 0, 1) := by decide +kernel
theorem dX12_plainly_11 : decode cX12_plainly 11 = .ok (.invokevirtual 183, 3) := by decide +kernel
theorem dX12_plainly_14 : decode cX12_plainly 14 = .ok (.iadd, 1) := by decide +kernel
theorem dX12_plainly_15 : decode cX12_plainly 15 = .ok (.invokevirtual 187, 3) := by decide +kernel
theorem dX12_plainly_18 : decode cX12_plainly 18 = .ok (.ireturn, 1) := by decide +kernel
theorem dX12_wants_0 : decode cX12_wants 0 = .ok (.aload_n 0, 1) := by decide +kernel
theorem dX12_wants_1 : decode cX12_wants 1 = .ok (.aload_n 0, 1) := by decide +kernel
theorem dX12_wants_2 : decode cX12_wants 2 = .ok (.getfield 35, 3) := by decide +kernel
theorem dX12_wants_5 : decode cX12_wants 5 = .ok (.iload_n 1, 1) := by decide +kernel
theorem dX12_wants_6 : decode cX12_wants 6 = .ok (.iaload, 1) := by decide +kernel
theorem dX12_wants_7 : decode cX12_wants 7 = .ok (.aload_n 0, 1) := by decide +kernel
theorem dX12_wants_8 : decode cX12_wants 8 = .ok (.getfield 38, 3) := by decide +kernel
theorem dX12_wants_11 : decode cX12_wants 11 = .ok (.iload_n 1, 1) := by decide +kernel
theorem dX12_wants_12 : decode cX12_wants 12 = .ok (.iaload, 1) := by decide +kernel
theorem dX12_wants_13 : decode cX12_wants 13 = .ok (.invokevirtual 190, 3) := by decide +kernel
theorem dX12_wants_16 : decode cX12_wants 16 = .ok (.istore_n 2, 1) := by decide +kernel
theorem dX12_wants_17 : decode cX12_wants 17 = .ok (.iload_n 2, 1) := by decide +kernel
theorem dX12_wants_18 : decode cX12_wants 18 = .ok (.aload_n 0, 1) := by decide +kernel
theorem dX12_wants_19 : decode cX12_wants 19 = .ok (.getfield 53, 3) := by decide +kernel
theorem dX12_wants_22 : decode cX12_wants 22 = .ok (.bipush 10, 2) := by decide +kernel
theorem dX12_wants_24 : decode cX12_wants 24 = .ok (.iload_n 1, 1) := by decide +kernel
theorem dX12_wants_25 : decode cX12_wants 25 = .ok (.imul, 1) := by decide +kernel
theorem dX12_wants_26 : decode cX12_wants 26 = .ok (.aload_n 0, 1) := by decide +kernel
theorem dX12_wants_27 : decode cX12_wants 27 = .ok (.getfield 38, 3) := by decide +kernel
theorem dX12_wants_30 : decode cX12_wants 30 = .ok (.iload_n 1, 1) := by decide +kernel
theorem dX12_wants_31 : decode cX12_wants 31 = .ok (.iaload, 1) := by decide +kernel
theorem dX12_wants_32 : decode cX12_wants 32 = .ok (.iadd, 1) := by decide +kernel
theorem dX12_wants_33 : decode cX12_wants 33 = .ok (.iaload, 1) := by decide +kernel
theorem dX12_wants_34 : decode cX12_wants 34 = .ok (.iconst (-1), 1) := by decide +kernel
theorem dX12_wants_35 : decode cX12_wants 35 = .ok (.ixor, 1) := by decide +kernel
theorem dX12_wants_36 : decode cX12_wants 36 = .ok (.iand, 1) := by decide +kernel
theorem dX12_wants_37 : decode cX12_wants 37 = .ok (.istore_n 3, 1) := by decide +kernel
theorem dX12_wants_38 : decode cX12_wants 38 = .ok (.aload_n 0, 1) := by decide +kernel
theorem dX12_wants_39 : decode cX12_wants 39 = .ok (.getfield 29, 3) := by decide +kernel
theorem dX12_wants_42 : decode cX12_wants 42 = .ok (.bipush 10, 2) := by decide +kernel
theorem dX12_wants_44 : decode cX12_wants 44 = .ok (.aload_n 0, 1) := by decide +kernel
theorem dX12_wants_45 : decode cX12_wants 45 = .ok (.getfield 35, 3) := by decide +kernel
theorem dX12_wants_48 : decode cX12_wants 48 = .ok (.iload_n 1, 1) := by decide +kernel
theorem dX12_wants_49 : decode cX12_wants 49 = .ok (.iaload, 1) := by decide +kernel
theorem dX12_wants_50 : decode cX12_wants 50 = .ok (.imul, 1) := by decide +kernel
theorem dX12_wants_51 : decode cX12_wants 51 = .ok (.aload_n 0, 1) := by decide +kernel
theorem dX12_wants_52 : decode cX12_wants 52 = .ok (.getfield 38, 3) := by decide +kernel
theorem dX12_wants_55 : decode cX12_wants 55 = .ok (.iload_n 1, 1) := by decide +kernel
theorem dX12_wants_56 : decode cX12_wants 56 = .ok (.iaload, 1) := by decide +kernel
theorem dX12_wants_57 : decode cX12_wants 57 = .ok (.iadd, 1) := by decide +kernel
theorem dX12_wants_58 : decode cX12_wants 58 = .ok (.iaload, 1) := by decide +kernel
theorem dX12_wants_59 : decode cX12_wants 59 = .ok (.ifCond .le 7, 3) := by decide +kernel
theorem dX12_wants_62 : decode cX12_wants 62 = .ok (.iconst 1, 1) := by decide +kernel
theorem dX12_wants_63 : decode cX12_wants 63 = .ok (.goto 4, 3) := by decide +kernel
theorem dX12_wants_66 : decode cX12_wants 66 = .ok (.iconst 0, 1) := by decide +kernel
theorem dX12_wants_67 : decode cX12_wants 67 = .ok (.istore 4, 2) := by decide +kernel
theorem dX12_wants_69 : decode cX12_wants 69 = .ok (.aload_n 0, 1) := by decide +kernel
theorem dX12_wants_70 : decode cX12_wants 70 = .ok (.getfield 32, 3) := by decide +kernel
theorem dX12_wants_73 : decode cX12_wants 73 = .ok (.iload_n 1, 1) := by decide +kernel
theorem dX12_wants_74 : decode cX12_wants 74 = .ok (.iaload, 1) := by decide +kernel
theorem dX12_wants_75 : decode cX12_wants 75 = .ok (.tableswitch 152 1 5 #[33, 118, 47, 75, 135], 33) := by decide +kernel
theorem dX12_wants_108 : decode cX12_wants 108 = .ok (.aload_n 0, 1) := by decide +kernel
theorem dX12_wants_109 : decode cX12_wants 109 = .ok (.iload_n 1, 1) := by decide +kernel
theorem dX12_wants_110 : decode cX12_wants 110 = .ok (.aload_n 0, 1) := by decide +kernel
theorem dX12_wants_111 : decode cX12_wants 111 = .ok (.getfield 41, 3) := by decide +kernel
theorem dX12_wants_114 : decode cX12_wants 114 = .ok (.iload_n 1, 1) := by decide +kernel
theorem dX12_wants_115 : decode cX12_wants 115 = .ok (.iaload, 1) := by decide +kernel
theorem dX12_wants_116 : decode cX12_wants 116 = .ok (.iconst 1, 1) := by decide +kernel
theorem dX12_wants_117 : decode cX12_wants 117 = .ok (.iadd, 1) := by decide +kernel
theorem dX12_wants_118 : decode cX12_wants 118 = .ok (.invokevirtual 187, 3) := by decide +kernel
theorem dX12_wants_121 : decode cX12_wants 121 = .ok (.ireturn, 1) := by decide +kernel
theorem dX12_wants_122 : decode cX12_wants 122 = .ok (.aload_n 0, 1) := by decide +kernel
theorem dX12_wants_123 : decode cX12_wants 123 = .ok (.iload_n 1, 1) := by decide +kernel
theorem dX12_wants_124 : decode cX12_wants 124 = .ok (.aload_n 0, 1) := by decide +kernel
theorem dX12_wants_125 : decode cX12_wants 125 = .ok (.getfield 41, 3) := by decide +kernel
theorem dX12_wants_128 : decode cX12_wants 128 = .ok (.iload_n 1, 1) := by decide +kernel
theorem dX12_wants_129 : decode cX12_wants 129 = .ok (.iaload, 1) := by decide +kernel
theorem dX12_wants_130 : decode cX12_wants 130 = .ok (.iload 4, 2) := by decide +kernel
theorem dX12_wants_132 : decode cX12_wants 132 = .ok (.ifCond .eq 12, 3) := by decide +kernel
theorem dX12_wants_135 : decode cX12_wants 135 = .ok (.aload_n 0, 1) := by decide +kernel
theorem dX12_wants_136 : decode cX12_wants 136 = .ok (.getfield 44, 3) := by decide +kernel
theorem dX12_wants_139 : decode cX12_wants 139 = .ok (.iload_n 1, 1) := by decide +kernel
theorem dX12_wants_140 : decode cX12_wants 140 = .ok (.iaload, 1) := by decide +kernel
theorem dX12_wants_141 : decode cX12_wants 141 = .ok (.goto 4, 3) := by decide +kernel
theorem dX12_wants_144 : decode cX12_wants 144 = .ok (.iconst 1, 1) := by decide +kernel
theorem dX12_wants_145 : decode cX12_wants 145 = .ok (.iadd, 1) := by decide +kernel
theorem dX12_wants_146 : decode cX12_wants 146 = .ok (.invokevirtual 187, 3) := by decide +kernel
theorem dX12_wants_149 : decode cX12_wants 149 = .ok (.ireturn, 1) := by decide +kernel
theorem dX12_wants_150 : decode cX12_wants 150 = .ok (.iload 4, 2) := by decide +kernel
theorem dX12_wants_152 : decode cX12_wants 152 = .ok (.ifCond .eq 24, 3) := by decide +kernel
theorem dX12_wants_155 : decode cX12_wants 155 = .ok (.iload_n 2, 1) := by decide +kernel
theorem dX12_wants_156 : decode cX12_wants 156 = .ok (.aload_n 0, 1) := by decide +kernel
theorem dX12_wants_157 : decode cX12_wants 157 = .ok (.getfield 41, 3) := by decide +kernel
theorem dX12_wants_160 : decode cX12_wants 160 = .ok (.iload_n 1, 1) := by decide +kernel
theorem dX12_wants_161 : decode cX12_wants 161 = .ok (.iaload, 1) := by decide +kernel
theorem dX12_wants_162 : decode cX12_wants 162 = .ok (.ishr, 1) := by decide +kernel
theorem dX12_wants_163 : decode cX12_wants 163 = .ok (.iconst 1, 1) := by decide +kernel
theorem dX12_wants_164 : decode cX12_wants 164 = .ok (.iand, 1) := by decide +kernel
theorem dX12_wants_165 : decode cX12_wants 165 = .ok (.iconst 1, 1) := by decide +kernel
theorem dX12_wants_166 : decode cX12_wants 166 = .ok (.if_icmp .ne 10, 3) := by decide +kernel
theorem dX12_wants_169 : decode cX12_wants 169 = .ok (.aload_n 0, 1) := by decide +kernel
theorem dX12_wants_170 : decode cX12_wants 170 = .ok (.getfield 41, 3) := by decide +kernel
theorem dX12_wants_173 : decode cX12_wants 173 = .ok (.iload_n 1, 1) := by decide +kernel
theorem dX12_wants_174 : decode cX12_wants 174 = .ok (.iaload, 1) := by decide +kernel
theorem dX12_wants_175 : decode cX12_wants 175 = .ok (.ireturn, 1) := by decide +kernel
theorem dX12_wants_176 : decode cX12_wants 176 = .ok (.iload_n 3, 1) := by decide +kernel
theorem dX12_wants_177 : decode cX12_wants 177 = .ok (.ifCond .ne 11, 3) := by decide +kernel
theorem dX12_wants_180 : decode cX12_wants 180 = .ok (.aload_n 0, 1) := by decide +kernel
theorem dX12_wants_181 : decode cX12_wants 181 = .ok (.iload_n 1, 1) := by decide +kernel
theorem dX12_wants_182 : decode cX12_wants 182 = .ok (.invokevirtual 193, 3) := by decide +kernel
theorem dX12_wants_185 : decode cX12_wants 185 = .ok (.goto 7, 3) := by decide +kernel
theorem dX12_wants_188 : decode cX12_wants 188 = .ok (.iload_n 3, 1) := by decide +kernel
theorem dX12_wants_189 : decode cX12_wants 189 = .ok (.invokestatic 196, 3) := by decide +kernel
theorem dX12_wants_192 : decode cX12_wants 192 = .ok (.ireturn, 1) := by decide +kernel
theorem dX12_wants_193 : decode cX12_wants 193 = .ok (.iload_n 3, 1) := by decide +kernel
theorem dX12_wants_194 : decode cX12_wants 194 = .ok (.ifCond .ne 11, 3) := by decide +kernel
theorem dX12_wants_197 : decode cX12_wants 197 = .ok (.aload_n 0, 1) := by decide +kernel
theorem dX12_wants_198 : decode cX12_wants 198 = .ok (.iload_n 1, 1) := by decide +kernel
theorem dX12_wants_199 : decode cX12_wants 199 = .ok (.invokevirtual 193, 3) := by decide +kernel
theorem dX12_wants_202 : decode cX12_wants 202 = .ok (.goto 7, 3) := by decide +kernel
theorem dX12_wants_205 : decode cX12_wants 205 = .ok (.iload_n 3, 1) := by decide +kernel
theorem dX12_wants_206 : decode cX12_wants 206 = .ok (.invokestatic 196, 3) := by decide +kernel
theorem dX12_wants_209 : decode cX12_wants 209 = .ok (.ireturn, 1) := by decide +kernel
theorem dX12_wants_210 : decode cX12_wants 210 = .ok (.iload_n 3, 1) := by decide +kernel
theorem dX12_wants_211 : decode cX12_wants 211 = .ok (.ifCond .ne 11, 3) := by decide +kernel
theorem dX12_wants_214 : decode cX12_wants 214 = .ok (.aload_n 0, 1) := by decide +kernel
theorem dX12_wants_215 : decode cX12_wants 215 = .ok (.iload_n 1, 1) := by decide +kernel
theorem dX12_wants_216 : decode cX12_wants 216 = .ok (.invokevirtual 193, 3) := by decide +kernel
theorem dX12_wants_219 : decode cX12_wants 219 = .ok (.goto 7, 3) := by decide +kernel
theorem dX12_wants_222 : decode cX12_wants 222 = .ok (.iload_n 3, 1) := by decide +kernel
theorem dX12_wants_223 : decode cX12_wants 223 = .ok (.invokestatic 199, 3) := by decide +kernel
theorem dX12_wants_226 : decode cX12_wants 226 = .ok (.ireturn, 1) := by decide +kernel
theorem dX12_wants_227 : decode cX12_wants 227 = .ok (.aload_n 0, 1) := by decide +kernel
theorem dX12_wants_228 : decode cX12_wants 228 = .ok (.iload_n 1, 1) := by decide +kernel
theorem dX12_wants_229 : decode cX12_wants 229 = .ok (.invokevirtual 193, 3) := by decide +kernel
theorem dX12_wants_232 : decode cX12_wants 232 = .ok (.ireturn, 1) := by decide +kernel
theorem dX12_least_0 : decode cX12_least 0 = .ok (.iconst 0, 1) := by decide +kernel
theorem dX12_least_1 : decode cX12_least 1 = .ok (.istore_n 1, 1) := by decide +kernel
theorem dX12_least_2 : decode cX12_least 2 = .ok (.iload_n 0, 1) := by decide +kernel
theorem dX12_least_3 : decode cX12_least 3 = .ok (.iload_n 1, 1) := by decide +kernel
theorem dX12_least_4 : decode cX12_least 4 = .ok (.ishr, 1) := by decide +kernel
theorem dX12_least_5 : decode cX12_least 5 = .ok (.iconst 1, 1) := by decide +kernel
theorem dX12_least_6 : decode cX12_least 6 = .ok (.iand, 1) := by decide +kernel
theorem dX12_least_7 : decode cX12_least 7 = .ok (.ifCond .ne 9, 3) := by decide +kernel
theorem dX12_least_10 : decode cX12_least 10 = .ok (.iinc 1 1, 3) := by decide +kernel
theorem dX12_least_13 : decode cX12_least 13 = .ok (.goto (-11), 3) := by decide +kernel
theorem dX12_least_16 : decode cX12_least 16 = .ok (.iload_n 1, 1) := by decide +kernel
theorem dX12_least_17 : decode cX12_least 17 = .ok (.ireturn, 1) := by decide +kernel
theorem dX12_greatest_0 : decode cX12_greatest 0 = .ok (.iconst 3, 1) := by decide +kernel
theorem dX12_greatest_1 : decode cX12_greatest 1 = .ok (.istore_n 1, 1) := by decide +kernel
theorem dX12_greatest_2 : decode cX12_greatest 2 = .ok (.iload_n 0, 1) := by decide +kernel
theorem dX12_greatest_3 : decode cX12_greatest 3 = .ok (.iload_n 1, 1) := by decide +kernel
theorem dX12_greatest_4 : decode cX12_greatest 4 = .ok (.ishr, 1) := by decide +kernel
theorem dX12_greatest_5 : decode cX12_greatest 5 = .ok (.iconst 1, 1) := by decide +kernel
theorem dX12_greatest_6 : decode cX12_greatest 6 = .ok (.iand, 1) := by decide +kernel
theorem dX12_greatest_7 : decode cX12_greatest 7 = .ok (.ifCond .ne 9, 3) := by decide +kernel
theorem dX12_greatest_10 : decode cX12_greatest 10 = .ok (.iinc 1 (-1), 3) := by decide +kernel
theorem dX12_greatest_13 : decode cX12_greatest 13 = .ok (.goto (-11), 3) := by decide +kernel
theorem dX12_greatest_16 : decode cX12_greatest 16 = .ok (.iload_n 1, 1) := by decide +kernel
theorem dX12_greatest_17 : decode cX12_greatest 17 = .ok (.ireturn, 1) := by decide +kernel
theorem dX12_says1_0 : decode cX12_says1 0 = .ok (.aload_n 0, 1) := by decide +kernel
theorem dX12_says1_1 : decode cX12_says1 1 = .ok (.aload_n 0, 1) := by decide +kernel
theorem dX12_says1_2 : decode cX12_says1 2 = .ok (.getfield 41, 3) := by decide +kernel
theorem dX12_says1_5 : decode cX12_says1 5 = .ok (.iload_n 1, 1) := by decide +kernel
theorem dX12_says1_6 : decode cX12_says1 6 = .ok (.iaload, 1) := by decide +kernel
theorem dX12_says1_7 : decode cX12_says1 7 = .ok (.putfield 202, 3) := by decide +kernel
theorem dX12_says1_10 : decode cX12_says1 10 = .ok (.aload_n 0, 1) := by decide +kernel
theorem dX12_says1_11 : decode cX12_says1 11 = .ok (.aload_n 0, 1) := by decide +kernel
theorem dX12_says1_12 : decode cX12_says1 12 = .ok (.aload_n 0, 1) := by decide +kernel
theorem dX12_says1_13 : decode cX12_says1 13 = .ok (.getfield 35, 3) := by decide +kernel
theorem dX12_says1_16 : decode cX12_says1 16 = .ok (.iload_n 1, 1) := by decide +kernel
theorem dX12_says1_17 : decode cX12_says1 17 = .ok (.iaload, 1) := by decide +kernel
theorem dX12_says1_18 : decode cX12_says1 18 = .ok (.aload_n 0, 1) := by decide +kernel
theorem dX12_says1_19 : decode cX12_says1 19 = .ok (.getfield 38, 3) := by decide +kernel
theorem dX12_says1_22 : decode cX12_says1 22 = .ok (.iload_n 1, 1) := by decide +kernel
theorem dX12_says1_23 : decode cX12_says1 23 = .ok (.iaload, 1) := by decide +kernel
theorem dX12_says1_24 : decode cX12_says1 24 = .ok (.invokevirtual 190, 3) := by decide +kernel
theorem dX12_says1_27 : decode cX12_says1 27 = .ok (.invokestatic 205, 3) := by decide +kernel
theorem dX12_says1_30 : decode cX12_says1 30 = .ok (.putfield 208, 3) := by decide +kernel
theorem dX12_says1_33 : decode cX12_says1 33 = .ok (.aload_n 0, 1) := by decide +kernel
theorem dX12_says1_34 : decode cX12_says1 34 = .ok (.aload_n 0, 1) := by decide +kernel
theorem dX12_says1_35 : decode cX12_says1 35 = .ok (.getfield 29, 3) := by decide +kernel
theorem dX12_says1_38 : decode cX12_says1 38 = .ok (.bipush 10, 2) := by decide +kernel
theorem dX12_says1_40 : decode cX12_says1 40 = .ok (.aload_n 0, 1) := by decide +kernel
theorem dX12_says1_41 : decode cX12_says1 41 = .ok (.getfield 35, 3) := by decide +kernel
theorem dX12_says1_44 : decode cX12_says1 44 = .ok (.iload_n 1, 1) := by decide +kernel
theorem dX12_says1_45 : decode cX12_says1 45 = .ok (.iaload, 1) := by decide +kernel
theorem dX12_says1_46 : decode cX12_says1 46 = .ok (.imul, 1) := by decide +kernel
theorem dX12_says1_47 : decode cX12_says1 47 = .ok (.aload_n 0, 1) := by decide +kernel
theorem dX12_says1_48 : decode cX12_says1 48 = .ok (.getfield 38, 3) := by decide +kernel
theorem dX12_says1_51 : decode cX12_says1 51 = .ok (.iload_n 1, 1) := by decide +kernel
theorem dX12_says1_52 : decode cX12_says1 52 = .ok (.iaload, 1) := by decide +kernel
theorem dX12_says1_53 : decode cX12_says1 53 = .ok (.iadd, 1) := by decide +kernel
theorem dX12_says1_54 : decode cX12_says1 54 = .ok (.iaload, 1) := by decide +kernel
theorem dX12_says1_55 : decode cX12_says1 55 = .ok (.putfield 211, 3) := by decide +kernel
theorem dX12_says1_58 : decode cX12_says1 58 = .ok (.aload_n 0, 1) := by decide +kernel
theorem dX12_says1_59 : decode cX12_says1 59 = .ok (.aload_n 0, 1) := by decide +kernel
theorem dX12_says1_60 : decode cX12_says1 60 = .ok (.getfield 47, 3) := by decide +kernel
theorem dX12_says1_63 : decode cX12_says1 63 = .ok (.iload_n 1, 1) := by decide +kernel
theorem dX12_says1_64 : decode cX12_says1 64 = .ok (.iaload, 1) := by decide +kernel
theorem dX12_says1_65 : decode cX12_says1 65 = .ok (.putfield 214, 3) := by decide +kernel
theorem dX12_says1_68 : decode cX12_says1 68 = .ok (.aload_n 0, 1) := by decide +kernel
theorem dX12_says1_69 : decode cX12_says1 69 = .ok (.aload_n 0, 1) := by decide +kernel
theorem dX12_says1_70 : decode cX12_says1 70 = .ok (.getfield 217, 3) := by decide +kernel
theorem dX12_says1_73 : decode cX12_says1 73 = .ok (.ifCond .eq 7, 3) := by decide +kernel
theorem dX12_says1_76 : decode cX12_says1 76 = .ok (.iconst 0, 1) := by decide +kernel
theorem dX12_says1_77 : decode cX12_says1 77 = .ok (.goto 9, 3) := by decide +kernel
theorem dX12_says1_80 : decode cX12_says1 80 = .ok (.aload_n 0, 1) := by decide +kernel
theorem dX12_says1_81 : decode cX12_says1 81 = .ok (.getfield 50, 3) := by decide +kernel
theorem dX12_says1_84 : decode cX12_says1 84 = .ok (.iload_n 1, 1) := by decide +kernel
theorem dX12_says1_85 : decode cX12_says1 85 = .ok (.iaload, 1) := by decide +kernel
theorem dX12_says1_86 : decode cX12_says1 86 = .ok (.putfield 221, 3) := by decide +kernel
theorem dX12_says1_89 : decode cX12_says1 89 = .ok (.aload_n 0, 1) := by decide +kernel
theorem dX12_says1_90 : decode cX12_says1 90 = .ok (.aload_n 0, 1) := by decide +kernel
theorem dX12_says1_91 : decode cX12_says1 91 = .ok (.getfield 44, 3) := by decide +kernel
theorem dX12_says1_94 : decode cX12_says1 94 = .ok (.iload_n 1, 1) := by decide +kernel
theorem dX12_says1_95 : decode cX12_says1 95 = .ok (.iaload, 1) := by decide +kernel
theorem dX12_says1_96 : decode cX12_says1 96 = .ok (.putfield 224, 3) := by decide +kernel
theorem dX12_says1_99 : decode cX12_says1 99 = .ok (.aload_n 0, 1) := by decide +kernel
theorem dX12_says1_100 : decode cX12_says1 100 = .ok (.aload_n 0, 1) := by decide +kernel
theorem dX12_says1_101 : decode cX12_says1 101 = .ok (.getfield 227, 3) := by decide +kernel
theorem dX12_says1_104 : decode cX12_says1 104 = .ok (.iload_n 2, 1) := by decide +kernel
theorem dX12_says1_105 : decode cX12_says1 105 = .ok (.invokevirtual 230, 3) := by decide +kernel
theorem dX12_says1_108 : decode cX12_says1 108 = .ok (.ireturn, 1) := by decide +kernel
theorem dX12_steps1_0 : decode cX12_steps1 0 = .ok (.bipush 10, 2) := by decide +kernel
theorem dX12_steps1_2 : decode cX12_steps1 2 = .ok (.aload_n 0, 1) := by decide +kernel
theorem dX12_steps1_3 : decode cX12_steps1 3 = .ok (.getfield 35, 3) := by decide +kernel
theorem dX12_steps1_6 : decode cX12_steps1 6 = .ok (.iload_n 1, 1) := by decide +kernel
theorem dX12_steps1_7 : decode cX12_steps1 7 = .ok (.iaload, 1) := by decide +kernel
theorem dX12_steps1_8 : decode cX12_steps1 8 = .ok (.imul, 1) := by decide +kernel
theorem dX12_steps1_9 : decode cX12_steps1 9 = .ok (.aload_n 0, 1) := by decide +kernel
theorem dX12_steps1_10 : decode cX12_steps1 10 = .ok (.getfield 38, 3) := by decide +kernel
theorem dX12_steps1_13 : decode cX12_steps1 13 = .ok (.iload_n 1, 1) := by decide +kernel
theorem dX12_steps1_14 : decode cX12_steps1 14 = .ok (.iaload, 1) := by decide +kernel
theorem dX12_steps1_15 : decode cX12_steps1 15 = .ok (.iadd, 1) := by decide +kernel
theorem dX12_steps1_16 : decode cX12_steps1 16 = .ok (.istore_n 2, 1) := by decide +kernel
theorem dX12_steps1_17 : decode cX12_steps1 17 = .ok (.aload_n 0, 1) := by decide +kernel
theorem dX12_steps1_18 : decode cX12_steps1 18 = .ok (.getfield 29, 3) := by decide +kernel
theorem dX12_steps1_21 : decode cX12_steps1 21 = .ok (.iload_n 2, 1) := by decide +kernel
theorem dX12_steps1_22 : decode cX12_steps1 22 = .ok (.iaload, 1) := by decide +kernel
theorem dX12_steps1_23 : decode cX12_steps1 23 = .ok (.ifCond .le 35, 3) := by decide +kernel
theorem dX12_steps1_26 : decode cX12_steps1 26 = .ok (.aload_n 0, 1) := by decide +kernel
theorem dX12_steps1_27 : decode cX12_steps1 27 = .ok (.iload_n 1, 1) := by decide +kernel
theorem dX12_steps1_28 : decode cX12_steps1 28 = .ok (.iconst 2, 1) := by decide +kernel
theorem dX12_steps1_29 : decode cX12_steps1 29 = .ok (.invokevirtual 183, 3) := by decide +kernel
theorem dX12_steps1_32 : decode cX12_steps1 32 = .ok (.ifCond .eq 26, 3) := by decide +kernel
theorem dX12_steps1_35 : decode cX12_steps1 35 = .ok (.aload_n 0, 1) := by decide +kernel
theorem dX12_steps1_36 : decode cX12_steps1 36 = .ok (.getfield 29, 3) := by decide +kernel
theorem dX12_steps1_39 : decode cX12_steps1 39 = .ok (.iload_n 2, 1) := by decide +kernel
theorem dX12_steps1_40 : decode cX12_steps1 40 = .ok (.dup2, 1) := by decide +kernel
theorem dX12_steps1_41 : decode cX12_steps1 41 = .ok (.iaload, 1) := by decide +kernel
theorem dX12_steps1_42 : decode cX12_steps1 42 = .ok (.iconst 1, 1) := by decide +kernel
theorem dX12_steps1_43 : decode cX12_steps1 43 = .ok (.isub, 1) := by decide +kernel
theorem dX12_steps1_44 : decode cX12_steps1 44 = .ok (.iastore, 1) := by decide +kernel
theorem dX12_steps1_45 : decode cX12_steps1 45 = .ok (.aload_n 0, 1) := by decide +kernel
theorem dX12_steps1_46 : decode cX12_steps1 46 = .ok (.getfield 47, 3) := by decide +kernel
theorem dX12_steps1_49 : decode cX12_steps1 49 = .ok (.iload_n 1, 1) := by decide +kernel
theorem dX12_steps1_50 : decode cX12_steps1 50 = .ok (.dup2, 1) := by decide +kernel
theorem dX12_steps1_51 : decode cX12_steps1 51 = .ok (.iaload, 1) := by decide +kernel
theorem dX12_steps1_52 : decode cX12_steps1 52 = .ok (.iconst 1, 1) := by decide +kernel
theorem dX12_steps1_53 : decode cX12_steps1 53 = .ok (.iadd, 1) := by decide +kernel
theorem dX12_steps1_54 : decode cX12_steps1 54 = .ok (.iastore, 1) := by decide +kernel
theorem dX12_steps1_55 : decode cX12_steps1 55 = .ok (.goto 52, 3) := by decide +kernel
theorem dX12_steps1_58 : decode cX12_steps1 58 = .ok (.aload_n 0, 1) := by decide +kernel
theorem dX12_steps1_59 : decode cX12_steps1 59 = .ok (.getfield 47, 3) := by decide +kernel
theorem dX12_steps1_62 : decode cX12_steps1 62 = .ok (.iload_n 1, 1) := by decide +kernel
theorem dX12_steps1_63 : decode cX12_steps1 63 = .ok (.iaload, 1) := by decide +kernel
theorem dX12_steps1_64 : decode cX12_steps1 64 = .ok (.ifCond .le 43, 3) := by decide +kernel
theorem dX12_steps1_67 : decode cX12_steps1 67 = .ok (.aload_n 0, 1) := by decide +kernel
theorem dX12_steps1_68 : decode cX12_steps1 68 = .ok (.getfield 29, 3) := by decide +kernel
theorem dX12_steps1_71 : decode cX12_steps1 71 = .ok (.iload_n 2, 1) := by decide +kernel
theorem dX12_steps1_72 : decode cX12_steps1 72 = .ok (.iaload, 1) := by decide +kernel
theorem dX12_steps1_73 : decode cX12_steps1 73 = .ok (.bipush 99, 2) := by decide +kernel
theorem dX12_steps1_75 : decode cX12_steps1 75 = .ok (.if_icmp .ge 32, 3) := by decide +kernel
theorem dX12_steps1_78 : decode cX12_steps1 78 = .ok (.aload_n 0, 1) := by decide +kernel
theorem dX12_steps1_79 : decode cX12_steps1 79 = .ok (.iload_n 1, 1) := by decide +kernel
theorem dX12_steps1_80 : decode cX12_steps1 80 = .ok (.iconst 1, 1) := by decide +kernel
theorem dX12_steps1_81 : decode cX12_steps1 81 = .ok (.invokevirtual 183, 3) := by decide +kernel
theorem dX12_steps1_84 : decode cX12_steps1 84 = .ok (.ifCond .eq 23, 3) := by decide +kernel
theorem dX12_steps1_87 : decode cX12_steps1 87 = .ok (.aload_n 0, 1) := by decide +kernel
theorem dX12_steps1_88 : decode cX12_steps1 88 = .ok (.getfield 29, 3) := by decide +kernel
theorem dX12_steps1_91 : decode cX12_steps1 91 = .ok (.iload_n 2, 1) := by decide +kernel
theorem dX12_steps1_92 : decode cX12_steps1 92 = .ok (.dup2, 1) := by decide +kernel
theorem dX12_steps1_93 : decode cX12_steps1 93 = .ok (.iaload, 1) := by decide +kernel
theorem dX12_steps1_94 : decode cX12_steps1 94 = .ok (.iconst 1, 1) := by decide +kernel
theorem dX12_steps1_95 : decode cX12_steps1 95 = .ok (.iadd, 1) := by decide +kernel
theorem dX12_steps1_96 : decode cX12_steps1 96 = .ok (.iastore, 1) := by decide +kernel
theorem dX12_steps1_97 : decode cX12_steps1 97 = .ok (.aload_n 0, 1) := by decide +kernel
theorem dX12_steps1_98 : decode cX12_steps1 98 = .ok (.getfield 47, 3) := by decide +kernel
theorem dX12_steps1_101 : decode cX12_steps1 101 = .ok (.iload_n 1, 1) := by decide +kernel
theorem dX12_steps1_102 : decode cX12_steps1 102 = .ok (.dup2, 1) := by decide +kernel
theorem dX12_steps1_103 : decode cX12_steps1 103 = .ok (.iaload, 1) := by decide +kernel
theorem dX12_steps1_104 : decode cX12_steps1 104 = .ok (.iconst 1, 1) := by decide +kernel
theorem dX12_steps1_105 : decode cX12_steps1 105 = .ok (.isub, 1) := by decide +kernel
theorem dX12_steps1_106 : decode cX12_steps1 106 = .ok (.iastore, 1) := by decide +kernel
theorem dX12_steps1_107 : decode cX12_steps1 107 = .ok (.aload_n 0, 1) := by decide +kernel
theorem dX12_steps1_108 : decode cX12_steps1 108 = .ok (.iload_n 1, 1) := by decide +kernel
theorem dX12_steps1_109 : decode cX12_steps1 109 = .ok (.invokevirtual 233, 3) := by decide +kernel
theorem dX12_steps1_112 : decode cX12_steps1 112 = .ok (.istore_n 3, 1) := by decide +kernel
theorem dX12_steps1_113 : decode cX12_steps1 113 = .ok (.iload_n 3, 1) := by decide +kernel
theorem dX12_steps1_114 : decode cX12_steps1 114 = .ok (.iconst (-1), 1) := by decide +kernel
theorem dX12_steps1_115 : decode cX12_steps1 115 = .ok (.if_icmp .ne 4, 3) := by decide +kernel
theorem dX12_steps1_118 : decode cX12_steps1 118 = .ok (.return_, 1) := by decide +kernel
theorem dX12_steps1_119 : decode cX12_steps1 119 = .ok (.aload_n 0, 1) := by decide +kernel
theorem dX12_steps1_120 : decode cX12_steps1 120 = .ok (.aload_n 0, 1) := by decide +kernel
theorem dX12_steps1_121 : decode cX12_steps1 121 = .ok (.getfield 35, 3) := by decide +kernel
theorem dX12_steps1_124 : decode cX12_steps1 124 = .ok (.iload_n 1, 1) := by decide +kernel
theorem dX12_steps1_125 : decode cX12_steps1 125 = .ok (.iaload, 1) := by decide +kernel
theorem dX12_steps1_126 : decode cX12_steps1 126 = .ok (.aload_n 0, 1) := by decide +kernel
theorem dX12_steps1_127 : decode cX12_steps1 127 = .ok (.getfield 38, 3) := by decide +kernel
theorem dX12_steps1_130 : decode cX12_steps1 130 = .ok (.iload_n 1, 1) := by decide +kernel
theorem dX12_steps1_131 : decode cX12_steps1 131 = .ok (.iaload, 1) := by decide +kernel
theorem dX12_steps1_132 : decode cX12_steps1 132 = .ok (.iload_n 3, 1) := by decide +kernel
theorem dX12_steps1_133 : decode cX12_steps1 133 = .ok (.invokevirtual 170, 3) := by decide +kernel
theorem dX12_steps1_136 : decode cX12_steps1 136 = .ok (.istore 4, 2) := by decide +kernel
theorem dX12_steps1_138 : decode cX12_steps1 138 = .ok (.aload_n 0, 1) := by decide +kernel
theorem dX12_steps1_139 : decode cX12_steps1 139 = .ok (.getfield 53, 3) := by decide +kernel
theorem dX12_steps1_142 : decode cX12_steps1 142 = .ok (.bipush 10, 2) := by decide +kernel
theorem dX12_steps1_144 : decode cX12_steps1 144 = .ok (.iload_n 1, 1) := by decide +kernel
theorem dX12_steps1_145 : decode cX12_steps1 145 = .ok (.imul, 1) := by decide +kernel
theorem dX12_steps1_146 : decode cX12_steps1 146 = .ok (.aload_n 0, 1) := by decide +kernel
theorem dX12_steps1_147 : decode cX12_steps1 147 = .ok (.getfield 38, 3) := by decide +kernel
theorem dX12_steps1_150 : decode cX12_steps1 150 = .ok (.iload_n 1, 1) := by decide +kernel
theorem dX12_steps1_151 : decode cX12_steps1 151 = .ok (.iaload, 1) := by decide +kernel
theorem dX12_steps1_152 : decode cX12_steps1 152 = .ok (.iadd, 1) := by decide +kernel
theorem dX12_steps1_153 : decode cX12_steps1 153 = .ok (.dup2, 1) := by decide +kernel
theorem dX12_steps1_154 : decode cX12_steps1 154 = .ok (.iaload, 1) := by decide +kernel
theorem dX12_steps1_155 : decode cX12_steps1 155 = .ok (.iconst 1, 1) := by decide +kernel
theorem dX12_steps1_156 : decode cX12_steps1 156 = .ok (.iload_n 3, 1) := by decide +kernel
theorem dX12_steps1_157 : decode cX12_steps1 157 = .ok (.ishl, 1) := by decide +kernel
theorem dX12_steps1_158 : decode cX12_steps1 158 = .ok (.ior, 1) := by decide +kernel
theorem dX12_steps1_159 : decode cX12_steps1 159 = .ok (.iastore, 1) := by decide +kernel
theorem dX12_steps1_160 : decode cX12_steps1 160 = .ok (.aload_n 0, 1) := by decide +kernel
theorem dX12_steps1_161 : decode cX12_steps1 161 = .ok (.getfield 38, 3) := by decide +kernel
theorem dX12_steps1_164 : decode cX12_steps1 164 = .ok (.iload_n 1, 1) := by decide +kernel
theorem dX12_steps1_165 : decode cX12_steps1 165 = .ok (.iload 4, 2) := by decide +kernel
theorem dX12_steps1_167 : decode cX12_steps1 167 = .ok (.bipush 10, 2) := by decide +kernel
theorem dX12_steps1_169 : decode cX12_steps1 169 = .ok (.idiv, 1) := by decide +kernel
theorem dX12_steps1_170 : decode cX12_steps1 170 = .ok (.iastore, 1) := by decide +kernel
theorem dX12_steps1_171 : decode cX12_steps1 171 = .ok (.aload_n 0, 1) := by decide +kernel
theorem dX12_steps1_172 : decode cX12_steps1 172 = .ok (.getfield 41, 3) := by decide +kernel
theorem dX12_steps1_175 : decode cX12_steps1 175 = .ok (.iload_n 1, 1) := by decide +kernel
theorem dX12_steps1_176 : decode cX12_steps1 176 = .ok (.iload 4, 2) := by decide +kernel
theorem dX12_steps1_178 : decode cX12_steps1 178 = .ok (.bipush 10, 2) := by decide +kernel
theorem dX12_steps1_180 : decode cX12_steps1 180 = .ok (.irem, 1) := by decide +kernel
theorem dX12_steps1_181 : decode cX12_steps1 181 = .ok (.iastore, 1) := by decide +kernel
theorem dX12_steps1_182 : decode cX12_steps1 182 = .ok (.aload_n 0, 1) := by decide +kernel
theorem dX12_steps1_183 : decode cX12_steps1 183 = .ok (.getfield 50, 3) := by decide +kernel
theorem dX12_steps1_186 : decode cX12_steps1 186 = .ok (.iload_n 1, 1) := by decide +kernel
theorem dX12_steps1_187 : decode cX12_steps1 187 = .ok (.dup2, 1) := by decide +kernel
theorem dX12_steps1_188 : decode cX12_steps1 188 = .ok (.iaload, 1) := by decide +kernel
theorem dX12_steps1_189 : decode cX12_steps1 189 = .ok (.iconst 1, 1) := by decide +kernel
theorem dX12_steps1_190 : decode cX12_steps1 190 = .ok (.iadd, 1) := by decide +kernel
theorem dX12_steps1_191 : decode cX12_steps1 191 = .ok (.iastore, 1) := by decide +kernel
theorem dX12_steps1_192 : decode cX12_steps1 192 = .ok (.return_, 1) := by decide +kernel
theorem dX12_told_0 : decode cX12_told 0 = .ok (.aload_n 0, 1) := by decide +kernel
theorem dX12_told_1 : decode cX12_told 1 = .ok (.iload_n 1, 1) := by decide +kernel
theorem dX12_told_2 : decode cX12_told 2 = .ok (.invokevirtual 236, 3) := by decide +kernel
theorem dX12_told_5 : decode cX12_told 5 = .ok (.ifCond .ne 6, 3) := by decide +kernel
theorem dX12_told_8 : decode cX12_told 8 = .ok (.bipush (-5), 2) := by decide +kernel
theorem dX12_told_10 : decode cX12_told 10 = .ok (.ireturn, 1) := by decide +kernel
theorem dX12_told_11 : decode cX12_told 11 = .ok (.iload_n 2, 1) := by decide +kernel
theorem dX12_told_12 : decode cX12_told 12 = .ok (.tableswitch 124 0 8 #[52, 59, 66, 73, 80, 87, 94, 101, 107], 52) := by decide +kernel
theorem dX12_told_64 : decode cX12_told 64 = .ok (.aload_n 0, 1) := by decide +kernel
theorem dX12_told_65 : decode cX12_told 65 = .ok (.getfield 32, 3) := by decide +kernel
theorem dX12_told_68 : decode cX12_told 68 = .ok (.iload_n 1, 1) := by decide +kernel
theorem dX12_told_69 : decode cX12_told 69 = .ok (.iaload, 1) := by decide +kernel
theorem dX12_told_70 : decode cX12_told 70 = .ok (.ireturn, 1) := by decide +kernel
theorem dX12_told_71 : decode cX12_told 71 = .ok (.aload_n 0, 1) := by decide +kernel
theorem dX12_told_72 : decode cX12_told 72 = .ok (.getfield 35, 3) := by decide +kernel
theorem dX12_told_75 : decode cX12_told 75 = .ok (.iload_n 1, 1) := by decide +kernel
theorem dX12_told_76 : decode cX12_told 76 = .ok (.iaload, 1) := by decide +kernel
theorem dX12_told_77 : decode cX12_told 77 = .ok (.ireturn, 1) := by decide +kernel
theorem dX12_told_78 : decode cX12_told 78 = .ok (.aload_n 0, 1) := by decide +kernel
theorem dX12_told_79 : decode cX12_told 79 = .ok (.getfield 38, 3) := by decide +kernel
theorem dX12_told_82 : decode cX12_told 82 = .ok (.iload_n 1, 1) := by decide +kernel
theorem dX12_told_83 : decode cX12_told 83 = .ok (.iaload, 1) := by decide +kernel
theorem dX12_told_84 : decode cX12_told 84 = .ok (.ireturn, 1) := by decide +kernel
theorem dX12_told_85 : decode cX12_told 85 = .ok (.aload_n 0, 1) := by decide +kernel
theorem dX12_told_86 : decode cX12_told 86 = .ok (.getfield 41, 3) := by decide +kernel
theorem dX12_told_89 : decode cX12_told 89 = .ok (.iload_n 1, 1) := by decide +kernel
theorem dX12_told_90 : decode cX12_told 90 = .ok (.iaload, 1) := by decide +kernel
theorem dX12_told_91 : decode cX12_told 91 = .ok (.ireturn, 1) := by decide +kernel
theorem dX12_told_92 : decode cX12_told 92 = .ok (.aload_n 0, 1) := by decide +kernel
theorem dX12_told_93 : decode cX12_told 93 = .ok (.getfield 44, 3) := by decide +kernel
theorem dX12_told_96 : decode cX12_told 96 = .ok (.iload_n 1, 1) := by decide +kernel
theorem dX12_told_97 : decode cX12_told 97 = .ok (.iaload, 1) := by decide +kernel
theorem dX12_told_98 : decode cX12_told 98 = .ok (.ireturn, 1) := by decide +kernel
theorem dX12_told_99 : decode cX12_told 99 = .ok (.aload_n 0, 1) := by decide +kernel
theorem dX12_told_100 : decode cX12_told 100 = .ok (.getfield 47, 3) := by decide +kernel
theorem dX12_told_103 : decode cX12_told 103 = .ok (.iload_n 1, 1) := by decide +kernel
theorem dX12_told_104 : decode cX12_told 104 = .ok (.iaload, 1) := by decide +kernel
theorem dX12_told_105 : decode cX12_told 105 = .ok (.ireturn, 1) := by decide +kernel
theorem dX12_told_106 : decode cX12_told 106 = .ok (.aload_n 0, 1) := by decide +kernel
theorem dX12_told_107 : decode cX12_told 107 = .ok (.getfield 50, 3) := by decide +kernel
theorem dX12_told_110 : decode cX12_told 110 = .ok (.iload_n 1, 1) := by decide +kernel
theorem dX12_told_111 : decode cX12_told 111 = .ok (.iaload, 1) := by decide +kernel
theorem dX12_told_112 : decode cX12_told 112 = .ok (.ireturn, 1) := by decide +kernel
theorem dX12_told_113 : decode cX12_told 113 = .ok (.aload_n 0, 1) := by decide +kernel
theorem dX12_told_114 : decode cX12_told 114 = .ok (.iload_n 1, 1) := by decide +kernel
theorem dX12_told_115 : decode cX12_told 115 = .ok (.invokevirtual 233, 3) := by decide +kernel
theorem dX12_told_118 : decode cX12_told 118 = .ok (.ireturn, 1) := by decide +kernel
theorem dX12_told_119 : decode cX12_told 119 = .ok (.aload_n 0, 1) := by decide +kernel
theorem dX12_told_120 : decode cX12_told 120 = .ok (.getfield 53, 3) := by decide +kernel
theorem dX12_told_123 : decode cX12_told 123 = .ok (.bipush 10, 2) := by decide +kernel
theorem dX12_told_125 : decode cX12_told 125 = .ok (.iload_n 1, 1) := by decide +kernel
theorem dX12_told_126 : decode cX12_told 126 = .ok (.imul, 1) := by decide +kernel
theorem dX12_told_127 : decode cX12_told 127 = .ok (.aload_n 0, 1) := by decide +kernel
theorem dX12_told_128 : decode cX12_told 128 = .ok (.getfield 38, 3) := by decide +kernel
theorem dX12_told_131 : decode cX12_told 131 = .ok (.iload_n 1, 1) := by decide +kernel
theorem dX12_told_132 : decode cX12_told 132 = .ok (.iaload, 1) := by decide +kernel
theorem dX12_told_133 : decode cX12_told 133 = .ok (.iadd, 1) := by decide +kernel
theorem dX12_told_134 : decode cX12_told 134 = .ok (.iaload, 1) := by decide +kernel
theorem dX12_told_135 : decode cX12_told 135 = .ok (.ireturn, 1) := by decide +kernel
theorem dX12_told_136 : decode cX12_told 136 = .ok (.bipush (-5), 2) := by decide +kernel
theorem dX12_told_138 : decode cX12_told 138 = .ok (.ireturn, 1) := by decide +kernel
theorem dX12_says_0 : decode cX12_says 0 = .ok (.aload_n 0, 1) := by decide +kernel
theorem dX12_says_1 : decode cX12_says 1 = .ok (.iload_n 1, 1) := by decide +kernel
theorem dX12_says_2 : decode cX12_says 2 = .ok (.invokevirtual 236, 3) := by decide +kernel
theorem dX12_says_5 : decode cX12_says 5 = .ok (.ifCond .eq 24, 3) := by decide +kernel
theorem dX12_says_8 : decode cX12_says 8 = .ok (.iload_n 2, 1) := by decide +kernel
theorem dX12_says_9 : decode cX12_says 9 = .ok (.i2l, 1) := by decide +kernel
theorem dX12_says_10 : decode cX12_says 10 = .ok (.lconst 0, 1) := by decide +kernel
theorem dX12_says_11 : decode cX12_says 11 = .ok (.ldc2_w 239, 3) := by decide +kernel
theorem dX12_says_14 : decode cX12_says 14 = .ok (.invokestatic 133, 3) := by decide +kernel
theorem dX12_says_17 : decode cX12_says 17 = .ok (.ifCond .eq 12, 3) := by decide +kernel
theorem dX12_says_20 : decode cX12_says 20 = .ok (.aload_n 0, 1) := by decide +kernel
theorem dX12_says_21 : decode cX12_says 21 = .ok (.iload_n 1, 1) := by decide +kernel
theorem dX12_says_22 : decode cX12_says 22 = .ok (.iload_n 2, 1) := by decide +kernel
theorem dX12_says_23 : decode cX12_says 23 = .ok (.invokevirtual 183, 3) := by decide +kernel
theorem dX12_says_26 : decode cX12_says 26 = .ok (.goto 5, 3) := by decide +kernel
theorem dX12_says_29 : decode cX12_says 29 = .ok (.ldc 241, 2) := by decide +kernel
theorem dX12_says_31 : decode cX12_says 31 = .ok (.ireturn, 1) := by decide +kernel
theorem dX12_step_0 : decode cX12_step 0 = .ok (.aload_n 0, 1) := by decide +kernel
theorem dX12_step_1 : decode cX12_step 1 = .ok (.iload_n 1, 1) := by decide +kernel
theorem dX12_step_2 : decode cX12_step 2 = .ok (.invokevirtual 236, 3) := by decide +kernel
theorem dX12_step_5 : decode cX12_step 5 = .ok (.ifCond .eq 15, 3) := by decide +kernel
theorem dX12_step_8 : decode cX12_step 8 = .ok (.iload_n 2, 1) := by decide +kernel
theorem dX12_step_9 : decode cX12_step 9 = .ok (.i2l, 1) := by decide +kernel
theorem dX12_step_10 : decode cX12_step 10 = .ok (.lconst 1, 1) := by decide +kernel
theorem dX12_step_11 : decode cX12_step 11 = .ok (.ldc2_w 242, 3) := by decide +kernel
theorem dX12_step_14 : decode cX12_step 14 = .ok (.invokestatic 133, 3) := by decide +kernel
theorem dX12_step_17 : decode cX12_step 17 = .ok (.ifCond .ne 6, 3) := by decide +kernel
theorem dX12_step_20 : decode cX12_step 20 = .ok (.bipush (-2), 2) := by decide +kernel
theorem dX12_step_22 : decode cX12_step 22 = .ok (.ireturn, 1) := by decide +kernel
theorem dX12_step_23 : decode cX12_step 23 = .ok (.iconst 0, 1) := by decide +kernel
theorem dX12_step_24 : decode cX12_step 24 = .ok (.istore_n 3, 1) := by decide +kernel
theorem dX12_step_25 : decode cX12_step 25 = .ok (.iload_n 3, 1) := by decide +kernel
theorem dX12_step_26 : decode cX12_step 26 = .ok (.iload_n 2, 1) := by decide +kernel
theorem dX12_step_27 : decode cX12_step 27 = .ok (.if_icmp .ge 14, 3) := by decide +kernel
theorem dX12_step_30 : decode cX12_step 30 = .ok (.aload_n 0, 1) := by decide +kernel
theorem dX12_step_31 : decode cX12_step 31 = .ok (.iload_n 1, 1) := by decide +kernel
theorem dX12_step_32 : decode cX12_step 32 = .ok (.invokevirtual 244, 3) := by decide +kernel
theorem dX12_step_35 : decode cX12_step 35 = .ok (.iinc 3 1, 3) := by decide +kernel
theorem dX12_step_38 : decode cX12_step 38 = .ok (.goto (-13), 3) := by decide +kernel
theorem dX12_step_41 : decode cX12_step 41 = .ok (.aload_n 0, 1) := by decide +kernel
theorem dX12_step_42 : decode cX12_step 42 = .ok (.getfield 38, 3) := by decide +kernel
theorem dX12_step_45 : decode cX12_step 45 = .ok (.iload_n 1, 1) := by decide +kernel
theorem dX12_step_46 : decode cX12_step 46 = .ok (.iaload, 1) := by decide +kernel
theorem dX12_step_47 : decode cX12_step 47 = .ok (.ireturn, 1) := by decide +kernel
theorem dX12_feed_0 : decode cX12_feed 0 = .ok (.iload_n 1, 1) := by decide +kernel
theorem dX12_feed_1 : decode cX12_feed 1 = .ok (.i2l, 1) := by decide +kernel
theorem dX12_feed_2 : decode cX12_feed 2 = .ok (.lconst 1, 1) := by decide +kernel
theorem dX12_feed_3 : decode cX12_feed 3 = .ok (.ldc2_w 248, 3) := by decide +kernel
theorem dX12_feed_6 : decode cX12_feed 6 = .ok (.invokestatic 133, 3) := by decide +kernel
theorem dX12_feed_9 : decode cX12_feed 9 = .ok (.ifCond .ne 6, 3) := by decide +kernel
theorem dX12_feed_12 : decode cX12_feed 12 = .ok (.bipush (-2), 2) := by decide +kernel
theorem dX12_feed_14 : decode cX12_feed 14 = .ok (.ireturn, 1) := by decide +kernel
theorem dX12_feed_15 : decode cX12_feed 15 = .ok (.aload_n 0, 1) := by decide +kernel
theorem dX12_feed_16 : decode cX12_feed 16 = .ok (.getfield 141, 3) := by decide +kernel
theorem dX12_feed_19 : decode cX12_feed 19 = .ok (.iload_n 1, 1) := by decide +kernel
theorem dX12_feed_20 : decode cX12_feed 20 = .ok (.iadd, 1) := by decide +kernel
theorem dX12_feed_21 : decode cX12_feed 21 = .ok (.sipush 160, 3) := by decide +kernel
theorem dX12_feed_24 : decode cX12_feed 24 = .ok (.if_icmp .le 6, 3) := by decide +kernel
theorem dX12_feed_27 : decode cX12_feed 27 = .ok (.bipush (-4), 2) := by decide +kernel
theorem dX12_feed_29 : decode cX12_feed 29 = .ok (.ireturn, 1) := by decide +kernel
theorem dX12_feed_30 : decode cX12_feed 30 = .ok (.iconst 0, 1) := by decide +kernel
theorem dX12_feed_31 : decode cX12_feed 31 = .ok (.istore 4, 2) := by decide +kernel
theorem dX12_feed_33 : decode cX12_feed 33 = .ok (.iload 4, 2) := by decide +kernel
theorem dX12_feed_35 : decode cX12_feed 35 = .ok (.iload_n 1, 1) := by decide +kernel
theorem dX12_feed_36 : decode cX12_feed 36 = .ok (.if_icmp .ge 40, 3) := by decide +kernel
theorem dX12_feed_39 : decode cX12_feed 39 = .ok (.aload_n 0, 1) := by decide +kernel
theorem dX12_feed_40 : decode cX12_feed 40 = .ok (.getfield 20, 3) := by decide +kernel
theorem dX12_feed_43 : decode cX12_feed 43 = .ok (.aload_n 0, 1) := by decide +kernel
theorem dX12_feed_44 : decode cX12_feed 44 = .ok (.getfield 141, 3) := by decide +kernel
theorem dX12_feed_47 : decode cX12_feed 47 = .ok (.lload_n 2, 1) := by decide +kernel
theorem dX12_feed_48 : decode cX12_feed 48 = .ok (.bipush 8, 2) := by decide +kernel
theorem dX12_feed_50 : decode cX12_feed 50 = .ok (.iload 4, 2) := by decide +kernel
theorem dX12_feed_52 : decode cX12_feed 52 = .ok (.imul, 1) := by decide +kernel
theorem dX12_feed_53 : decode cX12_feed 53 = .ok (.lshr, 1) := by decide +kernel
theorem dX12_feed_54 : decode cX12_feed 54 = .ok (.ldc2_w 128, 3) := by decide +kernel
theorem dX12_feed_57 : decode cX12_feed 57 = .ok (.land, 1) := by decide +kernel
theorem dX12_feed_58 : decode cX12_feed 58 = .ok (.l2i, 1) := by decide +kernel
theorem dX12_feed_59 : decode cX12_feed 59 = .ok (.iastore, 1) := by decide +kernel
theorem dX12_feed_60 : decode cX12_feed 60 = .ok (.aload_n 0, 1) := by decide +kernel
theorem dX12_feed_61 : decode cX12_feed 61 = .ok (.dup, 1) := by decide +kernel
theorem dX12_feed_62 : decode cX12_feed 62 = .ok (.getfield 141, 3) := by decide +kernel
theorem dX12_feed_65 : decode cX12_feed 65 = .ok (.iconst 1, 1) := by decide +kernel
theorem dX12_feed_66 : decode cX12_feed 66 = .ok (.iadd, 1) := by decide +kernel
theorem dX12_feed_67 : decode cX12_feed 67 = .ok (.putfield 141, 3) := by decide +kernel
theorem dX12_feed_70 : decode cX12_feed 70 = .ok (.iinc 4 1, 3) := by decide +kernel
theorem dX12_feed_73 : decode cX12_feed 73 = .ok (.goto (-40), 3) := by decide +kernel
theorem dX12_feed_76 : decode cX12_feed 76 = .ok (.aload_n 0, 1) := by decide +kernel
theorem dX12_feed_77 : decode cX12_feed 77 = .ok (.getfield 141, 3) := by decide +kernel
theorem dX12_feed_80 : decode cX12_feed 80 = .ok (.ireturn, 1) := by decide +kernel
theorem dX12_byteAt_0 : decode cX12_byteAt 0 = .ok (.iload_n 1, 1) := by decide +kernel
theorem dX12_byteAt_1 : decode cX12_byteAt 1 = .ok (.aload_n 0, 1) := by decide +kernel
theorem dX12_byteAt_2 : decode cX12_byteAt 2 = .ok (.getfield 250, 3) := by decide +kernel
theorem dX12_byteAt_5 : decode cX12_byteAt 5 = .ok (.if_icmp .ge 17, 3) := by decide +kernel
theorem dX12_byteAt_8 : decode cX12_byteAt 8 = .ok (.aload_n 0, 1) := by decide +kernel
theorem dX12_byteAt_9 : decode cX12_byteAt 9 = .ok (.getfield 13, 3) := by decide +kernel
theorem dX12_byteAt_12 : decode cX12_byteAt 12 = .ok (.aload_n 0, 1) := by decide +kernel
theorem dX12_byteAt_13 : decode cX12_byteAt 13 = .ok (.getfield 253, 3) := by decide +kernel
theorem dX12_byteAt_16 : decode cX12_byteAt 16 = .ok (.iload_n 1, 1) := by decide +kernel
theorem dX12_byteAt_17 : decode cX12_byteAt 17 = .ok (.iadd, 1) := by decide +kernel
theorem dX12_byteAt_18 : decode cX12_byteAt 18 = .ok (.iaload, 1) := by decide +kernel
theorem dX12_byteAt_19 : decode cX12_byteAt 19 = .ok (.goto 4, 3) := by decide +kernel
theorem dX12_byteAt_22 : decode cX12_byteAt 22 = .ok (.iconst (-1), 1) := by decide +kernel
theorem dX12_byteAt_23 : decode cX12_byteAt 23 = .ok (.ireturn, 1) := by decide +kernel
theorem dX12_next_0 : decode cX12_next 0 = .ok (.aload_n 0, 1) := by decide +kernel
theorem dX12_next_1 : decode cX12_next 1 = .ok (.aload_n 0, 1) := by decide +kernel
theorem dX12_next_2 : decode cX12_next 2 = .ok (.getfield 256, 3) := by decide +kernel
theorem dX12_next_5 : decode cX12_next 5 = .ok (.invokevirtual 259, 3) := by decide +kernel
theorem dX12_next_8 : decode cX12_next 8 = .ok (.bipush 32, 2) := by decide +kernel
theorem dX12_next_10 : decode cX12_next 10 = .ok (.if_icmp .eq 16, 3) := by decide +kernel
theorem dX12_next_13 : decode cX12_next 13 = .ok (.aload_n 0, 1) := by decide +kernel
theorem dX12_next_14 : decode cX12_next 14 = .ok (.aload_n 0, 1) := by decide +kernel
theorem dX12_next_15 : decode cX12_next 15 = .ok (.getfield 256, 3) := by decide +kernel
theorem dX12_next_18 : decode cX12_next 18 = .ok (.invokevirtual 259, 3) := by decide +kernel
theorem dX12_next_21 : decode cX12_next 21 = .ok (.bipush 10, 2) := by decide +kernel
theorem dX12_next_23 : decode cX12_next 23 = .ok (.if_icmp .ne 16, 3) := by decide +kernel
theorem dX12_next_26 : decode cX12_next 26 = .ok (.aload_n 0, 1) := by decide +kernel
theorem dX12_next_27 : decode cX12_next 27 = .ok (.dup, 1) := by decide +kernel
theorem dX12_next_28 : decode cX12_next 28 = .ok (.getfield 256, 3) := by decide +kernel
theorem dX12_next_31 : decode cX12_next 31 = .ok (.iconst 1, 1) := by decide +kernel
theorem dX12_next_32 : decode cX12_next 32 = .ok (.iadd, 1) := by decide +kernel
theorem dX12_next_33 : decode cX12_next 33 = .ok (.putfield 256, 3) := by decide +kernel
theorem dX12_next_36 : decode cX12_next 36 = .ok (.goto (-36), 3) := by decide +kernel
theorem dX12_next_39 : decode cX12_next 39 = .ok (.aload_n 0, 1) := by decide +kernel
theorem dX12_next_40 : decode cX12_next 40 = .ok (.aload_n 0, 1) := by decide +kernel
theorem dX12_next_41 : decode cX12_next 41 = .ok (.getfield 256, 3) := by decide +kernel
theorem dX12_next_44 : decode cX12_next 44 = .ok (.putfield 262, 3) := by decide +kernel
theorem dX12_next_47 : decode cX12_next 47 = .ok (.aload_n 0, 1) := by decide +kernel
theorem dX12_next_48 : decode cX12_next 48 = .ok (.aload_n 0, 1) := by decide +kernel
theorem dX12_next_49 : decode cX12_next 49 = .ok (.getfield 256, 3) := by decide +kernel
theorem dX12_next_52 : decode cX12_next 52 = .ok (.invokevirtual 259, 3) := by decide +kernel
theorem dX12_next_55 : decode cX12_next 55 = .ok (.istore_n 1, 1) := by decide +kernel
theorem dX12_next_56 : decode cX12_next 56 = .ok (.aload_n 0, 1) := by decide +kernel
theorem dX12_next_57 : decode cX12_next 57 = .ok (.iconst 4, 1) := by decide +kernel
theorem dX12_next_58 : decode cX12_next 58 = .ok (.putfield 265, 3) := by decide +kernel
theorem dX12_next_61 : decode cX12_next 61 = .ok (.iload_n 1, 1) := by decide +kernel
theorem dX12_next_62 : decode cX12_next 62 = .ok (.ifCond .ge 19, 3) := by decide +kernel
theorem dX12_next_65 : decode cX12_next 65 = .ok (.aload_n 0, 1) := by decide +kernel
theorem dX12_next_66 : decode cX12_next 66 = .ok (.iconst 0, 1) := by decide +kernel
theorem dX12_next_67 : decode cX12_next 67 = .ok (.putfield 265, 3) := by decide +kernel
theorem dX12_next_70 : decode cX12_next 70 = .ok (.aload_n 0, 1) := by decide +kernel
theorem dX12_next_71 : decode cX12_next 71 = .ok (.aload_n 0, 1) := by decide +kernel
theorem dX12_next_72 : decode cX12_next 72 = .ok (.getfield 250, 3) := by decide +kernel
theorem dX12_next_75 : decode cX12_next 75 = .ok (.putfield 262, 3) := by decide +kernel
theorem dX12_next_78 : decode cX12_next 78 = .ok (.goto 294, 3) := by decide +kernel
theorem dX12_next_81 : decode cX12_next 81 = .ok (.iload_n 1, 1) := by decide +kernel
theorem dX12_next_82 : decode cX12_next 82 = .ok (.i2l, 1) := by decide +kernel
theorem dX12_next_83 : decode cX12_next 83 = .ok (.ldc2_w 148, 3) := by decide +kernel
theorem dX12_next_86 : decode cX12_next 86 = .ok (.ldc2_w 268, 3) := by decide +kernel
theorem dX12_next_89 : decode cX12_next 89 = .ok (.invokestatic 133, 3) := by decide +kernel
theorem dX12_next_92 : decode cX12_next 92 = .ok (.ifCond .eq 93, 3) := by decide +kernel
theorem dX12_next_95 : decode cX12_next 95 = .ok (.aload_n 0, 1) := by decide +kernel
theorem dX12_next_96 : decode cX12_next 96 = .ok (.iconst 1, 1) := by decide +kernel
theorem dX12_next_97 : decode cX12_next 97 = .ok (.putfield 265, 3) := by decide +kernel
theorem dX12_next_100 : decode cX12_next 100 = .ok (.aload_n 0, 1) := by decide +kernel
theorem dX12_next_101 : decode cX12_next 101 = .ok (.lconst 0, 1) := by decide +kernel
theorem dX12_next_102 : decode cX12_next 102 = .ok (.putfield 270, 3) := by decide +kernel
theorem dX12_next_105 : decode cX12_next 105 = .ok (.iconst 0, 1) := by decide +kernel
theorem dX12_next_106 : decode cX12_next 106 = .ok (.istore_n 2, 1) := by decide +kernel
theorem dX12_next_107 : decode cX12_next 107 = .ok (.aload_n 0, 1) := by decide +kernel
theorem dX12_next_108 : decode cX12_next 108 = .ok (.aload_n 0, 1) := by decide +kernel
theorem dX12_next_109 : decode cX12_next 109 = .ok (.getfield 256, 3) := by decide +kernel
theorem dX12_next_112 : decode cX12_next 112 = .ok (.invokevirtual 259, 3) := by decide +kernel
theorem dX12_next_115 : decode cX12_next 115 = .ok (.i2l, 1) := by decide +kernel
theorem dX12_next_116 : decode cX12_next 116 = .ok (.ldc2_w 148, 3) := by decide +kernel
theorem dX12_next_119 : decode cX12_next 119 = .ok (.ldc2_w 268, 3) := by decide +kernel
theorem dX12_next_122 : decode cX12_next 122 = .ok (.invokestatic 133, 3) := by decide +kernel
theorem dX12_next_125 : decode cX12_next 125 = .ok (.ifCond .eq 57, 3) := by decide +kernel
theorem dX12_next_128 : decode cX12_next 128 = .ok (.aload_n 0, 1) := by decide +kernel
theorem dX12_next_129 : decode cX12_next 129 = .ok (.iload_n 2, 1) := by decide +kernel
theorem dX12_next_130 : decode cX12_next 130 = .ok (.bipush 8, 2) := by decide +kernel
theorem dX12_next_132 : decode cX12_next 132 = .ok (.if_icmp .ge 28, 3) := by decide +kernel
theorem dX12_next_135 : decode cX12_next 135 = .ok (.ldc2_w 274, 3) := by decide +kernel
theorem dX12_next_138 : decode cX12_next 138 = .ok (.aload_n 0, 1) := by decide +kernel
theorem dX12_next_139 : decode cX12_next 139 = .ok (.getfield 270, 3) := by decide +kernel
theorem dX12_next_142 : decode cX12_next 142 = .ok (.lmul, 1) := by decide +kernel
theorem dX12_next_143 : decode cX12_next 143 = .ok (.aload_n 0, 1) := by decide +kernel
theorem dX12_next_144 : decode cX12_next 144 = .ok (.aload_n 0, 1) := by decide +kernel
theorem dX12_next_145 : decode cX12_next 145 = .ok (.getfield 256, 3) := by decide +kernel
theorem dX12_next_148 : decode cX12_next 148 = .ok (.invokevirtual 259, 3) := by decide +kernel
theorem dX12_next_151 : decode cX12_next 151 = .ok (.i2l, 1) := by decide +kernel
theorem dX12_next_152 : decode cX12_next 152 = .ok (.ladd, 1) := by decide +kernel
theorem dX12_next_153 : decode cX12_next 153 = .ok (.ldc2_w 276, 3) := by decide +kernel
theorem dX12_next_156 : decode cX12_next 156 = .ok (.lsub, 1) := by decide +kernel
theorem dX12_next_157 : decode cX12_next 157 = .ok (.goto 6, 3) := by decide +kernel
theorem dX12_next_160 : decode cX12_next 160 = .ok (.ldc2_w 278, 3) := by decide +kernel
theorem dX12_next_163 : decode cX12_next 163 = .ok (.putfield 270, 3) := by decide +kernel
theorem dX12_next_166 : decode cX12_next 166 = .ok (.iinc 2 1, 3) := by decide +kernel
theorem dX12_next_169 : decode cX12_next 169 = .ok (.aload_n 0, 1) := by decide +kernel
theorem dX12_next_170 : decode cX12_next 170 = .ok (.dup, 1) := by decide +kernel
theorem dX12_next_171 : decode cX12_next 171 = .ok (.getfield 256, 3) := by decide +kernel
theorem dX12_next_174 : decode cX12_next 174 = .ok (.iconst 1, 1) := by decide +kernel
theorem dX12_next_175 : decode cX12_next 175 = .ok (.iadd, 1) := by decide +kernel
theorem dX12_next_176 : decode cX12_next 176 = .ok (.putfield 256, 3) := by decide +kernel
theorem dX12_next_179 : decode cX12_next 179 = .ok (.goto (-72), 3) := by decide +kernel
theorem dX12_next_182 : decode cX12_next 182 = .ok (.goto 190, 3) := by decide +kernel
theorem dX12_next_185 : decode cX12_next 185 = .ok (.iload_n 1, 1) := by decide +kernel
theorem dX12_next_186 : decode cX12_next 186 = .ok (.i2l, 1) := by decide +kernel
theorem dX12_next_187 : decode cX12_next 187 = .ok (.ldc2_w 150, 3) := by decide +kernel
theorem dX12_next_190 : decode cX12_next 190 = .ok (.ldc2_w 280, 3) := by decide +kernel
theorem dX12_next_193 : decode cX12_next 193 = .ok (.invokestatic 133, 3) := by decide +kernel
theorem dX12_next_196 : decode cX12_next 196 = .ok (.ifCond .eq 107, 3) := by decide +kernel
theorem dX12_next_199 : decode cX12_next 199 = .ok (.aload_n 0, 1) := by decide +kernel
theorem dX12_next_200 : decode cX12_next 200 = .ok (.iconst 2, 1) := by decide +kernel
theorem dX12_next_201 : decode cX12_next 201 = .ok (.putfield 265, 3) := by decide +kernel
theorem dX12_next_204 : decode cX12_next 204 = .ok (.aload_n 0, 1) := by decide +kernel
theorem dX12_next_205 : decode cX12_next 205 = .ok (.lconst 0, 1) := by decide +kernel
theorem dX12_next_206 : decode cX12_next 206 = .ok (.putfield 270, 3) := by decide +kernel
theorem dX12_next_209 : decode cX12_next 209 = .ok (.iconst 0, 1) := by decide +kernel
theorem dX12_next_210 : decode cX12_next 210 = .ok (.istore_n 2, 1) := by decide +kernel
theorem dX12_next_211 : decode cX12_next 211 = .ok (.aload_n 0, 1) := by decide +kernel
theorem dX12_next_212 : decode cX12_next 212 = .ok (.aload_n 0, 1) := by decide +kernel
theorem dX12_next_213 : decode cX12_next 213 = .ok (.getfield 256, 3) := by decide +kernel
theorem dX12_next_216 : decode cX12_next 216 = .ok (.invokevirtual 259, 3) := by decide +kernel
theorem dX12_next_219 : decode cX12_next 219 = .ok (.i2l, 1) := by decide +kernel
theorem dX12_next_220 : decode cX12_next 220 = .ok (.ldc2_w 150, 3) := by decide +kernel
theorem dX12_next_223 : decode cX12_next 223 = .ok (.ldc2_w 280, 3) := by decide +kernel
theorem dX12_next_226 : decode cX12_next 226 = .ok (.invokestatic 133, 3) := by decide +kernel
theorem dX12_next_229 : decode cX12_next 229 = .ok (.ifCond .eq 57, 3) := by decide +kernel
theorem dX12_next_232 : decode cX12_next 232 = .ok (.aload_n 0, 1) := by decide +kernel
theorem dX12_next_233 : decode cX12_next 233 = .ok (.iload_n 2, 1) := by decide +kernel
theorem dX12_next_234 : decode cX12_next 234 = .ok (.iconst 4, 1) := by decide +kernel
theorem dX12_next_235 : decode cX12_next 235 = .ok (.if_icmp .ge 28, 3) := by decide +kernel
theorem dX12_next_238 : decode cX12_next 238 = .ok (.ldc2_w 282, 3) := by decide +kernel
theorem dX12_next_241 : decode cX12_next 241 = .ok (.aload_n 0, 1) := by decide +kernel
theorem dX12_next_242 : decode cX12_next 242 = .ok (.getfield 270, 3) := by decide +kernel
theorem dX12_next_245 : decode cX12_next 245 = .ok (.lmul, 1) := by decide +kernel
theorem dX12_next_246 : decode cX12_next 246 = .ok (.aload_n 0, 1) := by decide +kernel
theorem dX12_next_247 : decode cX12_next 247 = .ok (.aload_n 0, 1) := by decide +kernel
theorem dX12_next_248 : decode cX12_next 248 = .ok (.getfield 256, 3) := by decide +kernel
theorem dX12_next_251 : decode cX12_next 251 = .ok (.invokevirtual 259, 3) := by decide +kernel
theorem dX12_next_254 : decode cX12_next 254 = .ok (.i2l, 1) := by decide +kernel
theorem dX12_next_255 : decode cX12_next 255 = .ok (.ladd, 1) := by decide +kernel
theorem dX12_next_256 : decode cX12_next 256 = .ok (.ldc2_w 150, 3) := by decide +kernel
theorem dX12_next_259 : decode cX12_next 259 = .ok (.lsub, 1) := by decide +kernel
theorem dX12_next_260 : decode cX12_next 260 = .ok (.goto 7, 3) := by decide +kernel
theorem dX12_next_263 : decode cX12_next 263 = .ok (.aload_n 0, 1) := by decide +kernel
theorem dX12_next_264 : decode cX12_next 264 = .ok (.getfield 270, 3) := by decide +kernel
theorem dX12_next_267 : decode cX12_next 267 = .ok (.putfield 270, 3) := by decide +kernel
theorem dX12_next_270 : decode cX12_next 270 = .ok (.iinc 2 1, 3) := by decide +kernel
theorem dX12_next_273 : decode cX12_next 273 = .ok (.aload_n 0, 1) := by decide +kernel
theorem dX12_next_274 : decode cX12_next 274 = .ok (.dup, 1) := by decide +kernel
theorem dX12_next_275 : decode cX12_next 275 = .ok (.getfield 256, 3) := by decide +kernel
theorem dX12_next_278 : decode cX12_next 278 = .ok (.iconst 1, 1) := by decide +kernel
theorem dX12_next_279 : decode cX12_next 279 = .ok (.iadd, 1) := by decide +kernel
theorem dX12_next_280 : decode cX12_next 280 = .ok (.putfield 256, 3) := by decide +kernel
theorem dX12_next_283 : decode cX12_next 283 = .ok (.goto (-72), 3) := by decide +kernel
theorem dX12_next_286 : decode cX12_next 286 = .ok (.aload_n 0, 1) := by decide +kernel
theorem dX12_next_287 : decode cX12_next 287 = .ok (.iload_n 2, 1) := by decide +kernel
theorem dX12_next_288 : decode cX12_next 288 = .ok (.iconst 4, 1) := by decide +kernel
theorem dX12_next_289 : decode cX12_next 289 = .ok (.if_icmp .le 7, 3) := by decide +kernel
theorem dX12_next_292 : decode cX12_next 292 = .ok (.iconst 4, 1) := by decide +kernel
theorem dX12_next_293 : decode cX12_next 293 = .ok (.goto 4, 3) := by decide +kernel
theorem dX12_next_296 : decode cX12_next 296 = .ok (.iconst 2, 1) := by decide +kernel
theorem dX12_next_297 : decode cX12_next 297 = .ok (.putfield 265, 3) := by decide +kernel
theorem dX12_next_300 : decode cX12_next 300 = .ok (.goto 72, 3) := by decide +kernel
theorem dX12_next_303 : decode cX12_next 303 = .ok (.iload_n 1, 1) := by decide +kernel
theorem dX12_next_304 : decode cX12_next 304 = .ok (.bipush 40, 2) := by decide +kernel
theorem dX12_next_306 : decode cX12_next 306 = .ok (.if_icmp .eq 45, 3) := by decide +kernel
theorem dX12_next_309 : decode cX12_next 309 = .ok (.iload_n 1, 1) := by decide +kernel
theorem dX12_next_310 : decode cX12_next 310 = .ok (.bipush 41, 2) := by decide +kernel
theorem dX12_next_312 : decode cX12_next 312 = .ok (.if_icmp .eq 39, 3) := by decide +kernel
theorem dX12_next_315 : decode cX12_next 315 = .ok (.iload_n 1, 1) := by decide +kernel
theorem dX12_next_316 : decode cX12_next 316 = .ok (.bipush 59, 2) := by decide +kernel
theorem dX12_next_318 : decode cX12_next 318 = .ok (.if_icmp .eq 33, 3) := by decide +kernel
theorem dX12_next_321 : decode cX12_next 321 = .ok (.iload_n 1, 1) := by decide +kernel
theorem dX12_next_322 : decode cX12_next 322 = .ok (.bipush 43, 2) := by decide +kernel
theorem dX12_next_324 : decode cX12_next 324 = .ok (.if_icmp .eq 27, 3) := by decide +kernel
theorem dX12_next_327 : decode cX12_next 327 = .ok (.iload_n 1, 1) := by decide +kernel
theorem dX12_next_328 : decode cX12_next 328 = .ok (.bipush 45, 2) := by decide +kernel
theorem dX12_next_330 : decode cX12_next 330 = .ok (.if_icmp .eq 21, 3) := by decide +kernel
theorem dX12_next_333 : decode cX12_next 333 = .ok (.iload_n 1, 1) := by decide +kernel
theorem dX12_next_334 : decode cX12_next 334 = .ok (.bipush 42, 2) := by decide +kernel
theorem dX12_next_336 : decode cX12_next 336 = .ok (.if_icmp .eq 15, 3) := by decide +kernel
theorem dX12_next_339 : decode cX12_next 339 = .ok (.iload_n 1, 1) := by decide +kernel
theorem dX12_next_340 : decode cX12_next 340 = .ok (.bipush 60, 2) := by decide +kernel
theorem dX12_next_342 : decode cX12_next 342 = .ok (.if_icmp .eq 9, 3) := by decide +kernel
theorem dX12_next_345 : decode cX12_next 345 = .ok (.iload_n 1, 1) := by decide +kernel
theorem dX12_next_346 : decode cX12_next 346 = .ok (.bipush 61, 2) := by decide +kernel
theorem dX12_next_348 : decode cX12_next 348 = .ok (.if_icmp .ne 24, 3) := by decide +kernel
theorem dX12_next_351 : decode cX12_next 351 = .ok (.aload_n 0, 1) := by decide +kernel
theorem dX12_next_352 : decode cX12_next 352 = .ok (.iconst 3, 1) := by decide +kernel
theorem dX12_next_353 : decode cX12_next 353 = .ok (.putfield 265, 3) := by decide +kernel
theorem dX12_next_356 : decode cX12_next 356 = .ok (.aload_n 0, 1) := by decide +kernel
theorem dX12_next_357 : decode cX12_next 357 = .ok (.iload_n 1, 1) := by decide +kernel
theorem dX12_next_358 : decode cX12_next 358 = .ok (.i2l, 1) := by decide +kernel
theorem dX12_next_359 : decode cX12_next 359 = .ok (.putfield 270, 3) := by decide +kernel
theorem dX12_next_362 : decode cX12_next 362 = .ok (.aload_n 0, 1) := by decide +kernel
theorem dX12_next_363 : decode cX12_next 363 = .ok (.dup, 1) := by decide +kernel
theorem dX12_next_364 : decode cX12_next 364 = .ok (.getfield 256, 3) := by decide +kernel
theorem dX12_next_367 : decode cX12_next 367 = .ok (.iconst 1, 1) := by decide +kernel
theorem dX12_next_368 : decode cX12_next 368 = .ok (.iadd, 1) := by decide +kernel
theorem dX12_next_369 : decode cX12_next 369 = .ok (.putfield 256, 3) := by decide +kernel
theorem dX12_next_372 : decode cX12_next 372 = .ok (.return_, 1) := by decide +kernel
theorem dX12_fail_0 : decode cX12_fail 0 = .ok (.aload_n 0, 1) := by decide +kernel
theorem dX12_fail_1 : decode cX12_fail 1 = .ok (.getfield 284, 3) := by decide +kernel
theorem dX12_fail_4 : decode cX12_fail 4 = .ok (.ifCond .ne 16, 3) := by decide +kernel
theorem dX12_fail_7 : decode cX12_fail 7 = .ok (.aload_n 0, 1) := by decide +kernel
theorem dX12_fail_8 : decode cX12_fail 8 = .ok (.iconst 1, 1) := by decide +kernel
theorem dX12_fail_9 : decode cX12_fail 9 = .ok (.putfield 284, 3) := by decide +kernel
theorem dX12_fail_12 : decode cX12_fail 12 = .ok (.aload_n 0, 1) := by decide +kernel
theorem dX12_fail_13 : decode cX12_fail 13 = .ok (.aload_n 0, 1) := by decide +kernel
theorem dX12_fail_14 : decode cX12_fail 14 = .ok (.getfield 262, 3) := by decide +kernel
theorem dX12_fail_17 : decode cX12_fail 17 = .ok (.putfield 287, 3) := by decide +kernel
theorem dX12_fail_20 : decode cX12_fail 20 = .ok (.return_, 1) := by decide +kernel
theorem dX12_isWord_0 : decode cX12_isWord 0 = .ok (.aload_n 0, 1) := by decide +kernel
theorem dX12_isWord_1 : decode cX12_isWord 1 = .ok (.getfield 284, 3) := by decide +kernel
theorem dX12_isWord_4 : decode cX12_isWord 4 = .ok (.ifCond .ne 24, 3) := by decide +kernel
theorem dX12_isWord_7 : decode cX12_isWord 7 = .ok (.aload_n 0, 1) := by decide +kernel
theorem dX12_isWord_8 : decode cX12_isWord 8 = .ok (.getfield 265, 3) := by decide +kernel
theorem dX12_isWord_11 : decode cX12_isWord 11 = .ok (.iconst 1, 1) := by decide +kernel
theorem dX12_isWord_12 : decode cX12_isWord 12 = .ok (.if_icmp .ne 16, 3) := by decide +kernel
theorem dX12_isWord_15 : decode cX12_isWord 15 = .ok (.aload_n 0, 1) := by decide +kernel
theorem dX12_isWord_16 : decode cX12_isWord 16 = .ok (.getfield 270, 3) := by decide +kernel
theorem dX12_isWord_19 : decode cX12_isWord 19 = .ok (.lload_n 1, 1) := by decide +kernel
theorem dX12_isWord_20 : decode cX12_isWord 20 = .ok (.lcmp, 1) := by decide +kernel
theorem dX12_isWord_21 : decode cX12_isWord 21 = .ok (.ifCond .ne 7, 3) := by decide +kernel
theorem dX12_isWord_24 : decode cX12_isWord 24 = .ok (.iconst 1, 1) := by decide +kernel
theorem dX12_isWord_25 : decode cX12_isWord 25 = .ok (.goto 4, 3) := by decide +kernel
theorem dX12_isWord_28 : decode cX12_isWord 28 = .ok (.iconst 0, 1) := by decide +kernel
theorem dX12_isWord_29 : decode cX12_isWord 29 = .ok (.ireturn, 1) := by decide +kernel
theorem dX12_isSign_0 : decode cX12_isSign 0 = .ok (.aload_n 0, 1) := by decide +kernel
theorem dX12_isSign_1 : decode cX12_isSign 1 = .ok (.getfield 284, 3) := by decide +kernel
theorem dX12_isSign_4 : decode cX12_isSign 4 = .ok (.ifCond .ne 25, 3) := by decide +kernel
theorem dX12_isSign_7 : decode cX12_isSign 7 = .ok (.aload_n 0, 1) := by decide +kernel
theorem dX12_isSign_8 : decode cX12_isSign 8 = .ok (.getfield 265, 3) := by decide +kernel
theorem dX12_isSign_11 : decode cX12_isSign 11 = .ok (.iconst 3, 1) := by decide +kernel
theorem dX12_isSign_12 : decode cX12_isSign 12 = .ok (.if_icmp .ne 17, 3) := by decide +kernel
theorem dX12_isSign_15 : decode cX12_isSign 15 = .ok (.aload_n 0, 1) := by decide +kernel
theorem dX12_isSign_16 : decode cX12_isSign 16 = .ok (.getfield 270, 3) := by decide +kernel
theorem dX12_isSign_19 : decode cX12_isSign 19 = .ok (.iload_n 1, 1) := by decide +kernel
theorem dX12_isSign_20 : decode cX12_isSign 20 = .ok (.i2l, 1) := by decide +kernel
theorem dX12_isSign_21 : decode cX12_isSign 21 = .ok (.lcmp, 1) := by decide +kernel
theorem dX12_isSign_22 : decode cX12_isSign 22 = .ok (.ifCond .ne 7, 3) := by decide +kernel
theorem dX12_isSign_25 : decode cX12_isSign 25 = .ok (.iconst 1, 1) := by decide +kernel
theorem dX12_isSign_26 : decode cX12_isSign 26 = .ok (.goto 4, 3) := by decide +kernel
theorem dX12_isSign_29 : decode cX12_isSign 29 = .ok (.iconst 0, 1) := by decide +kernel
theorem dX12_isSign_30 : decode cX12_isSign 30 = .ok (.ireturn, 1) := by decide +kernel
theorem dX12_opens_0 : decode cX12_opens 0 = .ok (.aload_n 0, 1) := by decide +kernel
theorem dX12_opens_1 : decode cX12_opens 1 = .ok (.getfield 290, 3) := by decide +kernel
theorem dX12_opens_4 : decode cX12_opens 4 = .ok (.iconst 5, 1) := by decide +kernel
theorem dX12_opens_5 : decode cX12_opens 5 = .ok (.if_icmp .ne 9, 3) := by decide +kernel
theorem dX12_opens_8 : decode cX12_opens 8 = .ok (.aload_n 0, 1) := by decide +kernel
theorem dX12_opens_9 : decode cX12_opens 9 = .ok (.invokevirtual 293, 3) := by decide +kernel
theorem dX12_opens_12 : decode cX12_opens 12 = .ok (.iconst 0, 1) := by decide +kernel
theorem dX12_opens_13 : decode cX12_opens 13 = .ok (.ireturn, 1) := by decide +kernel
theorem dX12_opens_14 : decode cX12_opens 14 = .ok (.aload_n 0, 1) := by decide +kernel
theorem dX12_opens_15 : decode cX12_opens 15 = .ok (.dup, 1) := by decide +kernel
theorem dX12_opens_16 : decode cX12_opens 16 = .ok (.getfield 290, 3) := by decide +kernel
theorem dX12_opens_19 : decode cX12_opens 19 = .ok (.iconst 1, 1) := by decide +kernel
theorem dX12_opens_20 : decode cX12_opens 20 = .ok (.iadd, 1) := by decide +kernel
theorem dX12_opens_21 : decode cX12_opens 21 = .ok (.putfield 290, 3) := by decide +kernel
theorem dX12_opens_24 : decode cX12_opens 24 = .ok (.aload_n 0, 1) := by decide +kernel
theorem dX12_opens_25 : decode cX12_opens 25 = .ok (.invokevirtual 296, 3) := by decide +kernel
theorem dX12_opens_28 : decode cX12_opens 28 = .ok (.iconst 1, 1) := by decide +kernel
theorem dX12_opens_29 : decode cX12_opens 29 = .ok (.ireturn, 1) := by decide +kernel
theorem dX12_name_0 : decode cX12_name 0 = .ok (.aload_n 0, 1) := by decide +kernel

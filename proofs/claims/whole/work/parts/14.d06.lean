/-! Decode rows: by program. -/
theorem dModel_act_240 : decode prog_14_method_89_code 240 = .ok (.aload_n 0, 1) := by decide +kernel
theorem dModel_act_241 : decode prog_14_method_89_code 241 = .ok (.getfield 578, 3) := by decide +kernel
theorem dModel_act_244 : decode prog_14_method_89_code 244 = .ok (.iload_n 1, 1) := by decide +kernel
theorem dModel_act_245 : decode prog_14_method_89_code 245 = .ok (.dup2, 1) := by decide +kernel
theorem dModel_act_246 : decode prog_14_method_89_code 246 = .ok (.laload, 1) := by decide +kernel
theorem dModel_act_247 : decode prog_14_method_89_code 247 = .ok (.aload_n 0, 1) := by decide +kernel
theorem dModel_act_248 : decode prog_14_method_89_code 248 = .ok (.getfield 406, 3) := by decide +kernel
theorem dModel_act_251 : decode prog_14_method_89_code 251 = .ok (.i2l, 1) := by decide +kernel
theorem dModel_act_252 : decode prog_14_method_89_code 252 = .ok (.lsub, 1) := by decide +kernel
theorem dModel_act_253 : decode prog_14_method_89_code 253 = .ok (.lastore, 1) := by decide +kernel
theorem dModel_act_254 : decode prog_14_method_89_code 254 = .ok (.aload_n 0, 1) := by decide +kernel
theorem dModel_act_255 : decode prog_14_method_89_code 255 = .ok (.getfield 584, 3) := by decide +kernel
theorem dModel_act_258 : decode prog_14_method_89_code 258 = .ok (.iconst 3, 1) := by decide +kernel
theorem dModel_act_259 : decode prog_14_method_89_code 259 = .ok (.iload_n 1, 1) := by decide +kernel
theorem dModel_act_260 : decode prog_14_method_89_code 260 = .ok (.imul, 1) := by decide +kernel
theorem dModel_act_261 : decode prog_14_method_89_code 261 = .ok (.aload_n 0, 1) := by decide +kernel
theorem dModel_act_262 : decode prog_14_method_89_code 262 = .ok (.getfield 639, 3) := by decide +kernel
theorem dModel_act_265 : decode prog_14_method_89_code 265 = .ok (.iadd, 1) := by decide +kernel
theorem dModel_act_266 : decode prog_14_method_89_code 266 = .ok (.aload_n 0, 1) := by decide +kernel
theorem dModel_act_267 : decode prog_14_method_89_code 267 = .ok (.getfield 348, 3) := by decide +kernel
theorem dModel_act_270 : decode prog_14_method_89_code 270 = .ok (.iastore, 1) := by decide +kernel
theorem dModel_act_271 : decode prog_14_method_89_code 271 = .ok (.goto 88, 3) := by decide +kernel
theorem dModel_act_274 : decode prog_14_method_89_code 274 = .ok (.aload_n 0, 1) := by decide +kernel
theorem dModel_act_275 : decode prog_14_method_89_code 275 = .ok (.getfield 578, 3) := by decide +kernel
theorem dModel_act_278 : decode prog_14_method_89_code 278 = .ok (.iload_n 1, 1) := by decide +kernel
theorem dModel_act_279 : decode prog_14_method_89_code 279 = .ok (.dup2, 1) := by decide +kernel
theorem dModel_act_280 : decode prog_14_method_89_code 280 = .ok (.laload, 1) := by decide +kernel
theorem dModel_act_281 : decode prog_14_method_89_code 281 = .ok (.ldc2_w 683, 3) := by decide +kernel
theorem dModel_act_284 : decode prog_14_method_89_code 284 = .ok (.aload_n 0, 1) := by decide +kernel
theorem dModel_act_285 : decode prog_14_method_89_code 285 = .ok (.getfield 645, 3) := by decide +kernel
theorem dModel_act_288 : decode prog_14_method_89_code 288 = .ok (.i2l, 1) := by decide +kernel
theorem dModel_act_289 : decode prog_14_method_89_code 289 = .ok (.lmul, 1) := by decide +kernel
theorem dModel_act_290 : decode prog_14_method_89_code 290 = .ok (.aload_n 0, 1) := by decide +kernel
theorem dModel_act_291 : decode prog_14_method_89_code 291 = .ok (.getfield 588, 3) := by decide +kernel
theorem dModel_act_294 : decode prog_14_method_89_code 294 = .ok (.i2l, 1) := by decide +kernel
theorem dModel_act_295 : decode prog_14_method_89_code 295 = .ok (.lmul, 1) := by decide +kernel
theorem dModel_act_296 : decode prog_14_method_89_code 296 = .ok (.lsub, 1) := by decide +kernel
theorem dModel_act_297 : decode prog_14_method_89_code 297 = .ok (.lastore, 1) := by decide +kernel
theorem dModel_act_298 : decode prog_14_method_89_code 298 = .ok (.aload_n 0, 1) := by decide +kernel
theorem dModel_act_299 : decode prog_14_method_89_code 299 = .ok (.dup, 1) := by decide +kernel
theorem dModel_act_300 : decode prog_14_method_89_code 300 = .ok (.getfield 581, 3) := by decide +kernel
theorem dModel_act_303 : decode prog_14_method_89_code 303 = .ok (.ldc2_w 683, 3) := by decide +kernel
theorem dModel_act_306 : decode prog_14_method_89_code 306 = .ok (.aload_n 0, 1) := by decide +kernel
theorem dModel_act_307 : decode prog_14_method_89_code 307 = .ok (.getfield 645, 3) := by decide +kernel
theorem dModel_act_310 : decode prog_14_method_89_code 310 = .ok (.i2l, 1) := by decide +kernel
theorem dModel_act_311 : decode prog_14_method_89_code 311 = .ok (.lmul, 1) := by decide +kernel
theorem dModel_act_312 : decode prog_14_method_89_code 312 = .ok (.aload_n 0, 1) := by decide +kernel
theorem dModel_act_313 : decode prog_14_method_89_code 313 = .ok (.getfield 588, 3) := by decide +kernel
theorem dModel_act_316 : decode prog_14_method_89_code 316 = .ok (.i2l, 1) := by decide +kernel
theorem dModel_act_317 : decode prog_14_method_89_code 317 = .ok (.lmul, 1) := by decide +kernel
theorem dModel_act_318 : decode prog_14_method_89_code 318 = .ok (.ladd, 1) := by decide +kernel
theorem dModel_act_319 : decode prog_14_method_89_code 319 = .ok (.putfield 581, 3) := by decide +kernel
theorem dModel_act_322 : decode prog_14_method_89_code 322 = .ok (.aload_n 0, 1) := by decide +kernel
theorem dModel_act_323 : decode prog_14_method_89_code 323 = .ok (.dup, 1) := by decide +kernel
theorem dModel_act_324 : decode prog_14_method_89_code 324 = .ok (.getfield 680, 3) := by decide +kernel
theorem dModel_act_327 : decode prog_14_method_89_code 327 = .ok (.bipush 10, 2) := by decide +kernel
theorem dModel_act_329 : decode prog_14_method_89_code 329 = .ok (.aload_n 0, 1) := by decide +kernel
theorem dModel_act_330 : decode prog_14_method_89_code 330 = .ok (.getfield 645, 3) := by decide +kernel
theorem dModel_act_333 : decode prog_14_method_89_code 333 = .ok (.imul, 1) := by decide +kernel
theorem dModel_act_334 : decode prog_14_method_89_code 334 = .ok (.isub, 1) := by decide +kernel
theorem dModel_act_335 : decode prog_14_method_89_code 335 = .ok (.putfield 680, 3) := by decide +kernel
theorem dModel_act_338 : decode prog_14_method_89_code 338 = .ok (.aload_n 0, 1) := by decide +kernel
theorem dModel_act_339 : decode prog_14_method_89_code 339 = .ok (.iload_n 1, 1) := by decide +kernel
theorem dModel_act_340 : decode prog_14_method_89_code 340 = .ok (.aload_n 0, 1) := by decide +kernel
theorem dModel_act_341 : decode prog_14_method_89_code 341 = .ok (.getfield 658, 3) := by decide +kernel
theorem dModel_act_344 : decode prog_14_method_89_code 344 = .ok (.bipush 10, 2) := by decide +kernel
theorem dModel_act_346 : decode prog_14_method_89_code 346 = .ok (.aload_n 0, 1) := by decide +kernel
theorem dModel_act_347 : decode prog_14_method_89_code 347 = .ok (.getfield 645, 3) := by decide +kernel
theorem dModel_act_350 : decode prog_14_method_89_code 350 = .ok (.imul, 1) := by decide +kernel
theorem dModel_act_351 : decode prog_14_method_89_code 351 = .ok (.iconst 0, 1) := by decide +kernel
theorem dModel_act_352 : decode prog_14_method_89_code 352 = .ok (.iconst 1, 1) := by decide +kernel
theorem dModel_act_353 : decode prog_14_method_89_code 353 = .ok (.invokevirtual 600, 3) := by decide +kernel
theorem dModel_act_356 : decode prog_14_method_89_code 356 = .ok (.goto 3, 3) := by decide +kernel
theorem dModel_act_359 : decode prog_14_method_89_code 359 = .ok (.return_, 1) := by decide +kernel
theorem dModel_fillTowns_0 : decode prog_14_method_90_code 0 = .ok (.iconst 0, 1) := by decide +kernel
theorem dModel_fillTowns_1 : decode prog_14_method_90_code 1 = .ok (.istore_n 1, 1) := by decide +kernel
theorem dModel_fillTowns_2 : decode prog_14_method_90_code 2 = .ok (.iload_n 1, 1) := by decide +kernel
theorem dModel_fillTowns_3 : decode prog_14_method_90_code 3 = .ok (.aload_n 0, 1) := by decide +kernel
theorem dModel_fillTowns_4 : decode prog_14_method_90_code 4 = .ok (.invokevirtual 488, 3) := by decide +kernel
theorem dModel_fillTowns_7 : decode prog_14_method_90_code 7 = .ok (.if_icmp .ge 28, 3) := by decide +kernel
theorem dModel_fillTowns_10 : decode prog_14_method_90_code 10 = .ok (.aload_n 0, 1) := by decide +kernel
theorem dModel_fillTowns_11 : decode prog_14_method_90_code 11 = .ok (.getfield 664, 3) := by decide +kernel
theorem dModel_fillTowns_14 : decode prog_14_method_90_code 14 = .ok (.iload_n 1, 1) := by decide +kernel
theorem dModel_fillTowns_15 : decode prog_14_method_90_code 15 = .ok (.aload_n 0, 1) := by decide +kernel
theorem dModel_fillTowns_16 : decode prog_14_method_90_code 16 = .ok (.getfield 263, 3) := by decide +kernel
theorem dModel_fillTowns_19 : decode prog_14_method_90_code 19 = .ok (.iconst 5, 1) := by decide +kernel
theorem dModel_fillTowns_20 : decode prog_14_method_90_code 20 = .ok (.aload_n 0, 1) := by decide +kernel
theorem dModel_fillTowns_21 : decode prog_14_method_90_code 21 = .ok (.getfield 147, 3) := by decide +kernel
theorem dModel_fillTowns_24 : decode prog_14_method_90_code 24 = .ok (.imul, 1) := by decide +kernel
theorem dModel_fillTowns_25 : decode prog_14_method_90_code 25 = .ok (.iload_n 1, 1) := by decide +kernel
theorem dModel_fillTowns_26 : decode prog_14_method_90_code 26 = .ok (.iadd, 1) := by decide +kernel
theorem dModel_fillTowns_27 : decode prog_14_method_90_code 27 = .ok (.iaload, 1) := by decide +kernel
theorem dModel_fillTowns_28 : decode prog_14_method_90_code 28 = .ok (.iastore, 1) := by decide +kernel
theorem dModel_fillTowns_29 : decode prog_14_method_90_code 29 = .ok (.iinc 1 1, 3) := by decide +kernel
theorem dModel_fillTowns_32 : decode prog_14_method_90_code 32 = .ok (.goto (-30), 3) := by decide +kernel
theorem dModel_fillTowns_35 : decode prog_14_method_90_code 35 = .ok (.aload_n 0, 1) := by decide +kernel
theorem dModel_fillTowns_36 : decode prog_14_method_90_code 36 = .ok (.aload_n 0, 1) := by decide +kernel
theorem dModel_fillTowns_37 : decode prog_14_method_90_code 37 = .ok (.getfield 591, 3) := by decide +kernel
theorem dModel_fillTowns_40 : decode prog_14_method_90_code 40 = .ok (.putfield 680, 3) := by decide +kernel
theorem dModel_fillTowns_43 : decode prog_14_method_90_code 43 = .ok (.return_, 1) := by decide +kernel
theorem dModel_smuggle_0 : decode prog_14_method_91_code 0 = .ok (.iconst 0, 1) := by decide +kernel
theorem dModel_smuggle_1 : decode prog_14_method_91_code 1 = .ok (.istore_n 1, 1) := by decide +kernel
theorem dModel_smuggle_2 : decode prog_14_method_91_code 2 = .ok (.iload_n 1, 1) := by decide +kernel
theorem dModel_smuggle_3 : decode prog_14_method_91_code 3 = .ok (.aload_n 0, 1) := by decide +kernel
theorem dModel_smuggle_4 : decode prog_14_method_91_code 4 = .ok (.invokevirtual 488, 3) := by decide +kernel
theorem dModel_smuggle_7 : decode prog_14_method_91_code 7 = .ok (.if_icmp .ge 16, 3) := by decide +kernel
theorem dModel_smuggle_10 : decode prog_14_method_91_code 10 = .ok (.aload_n 0, 1) := by decide +kernel
theorem dModel_smuggle_11 : decode prog_14_method_91_code 11 = .ok (.getfield 694, 3) := by decide +kernel
theorem dModel_smuggle_14 : decode prog_14_method_91_code 14 = .ok (.iload_n 1, 1) := by decide +kernel
theorem dModel_smuggle_15 : decode prog_14_method_91_code 15 = .ok (.iconst 0, 1) := by decide +kernel
theorem dModel_smuggle_16 : decode prog_14_method_91_code 16 = .ok (.iastore, 1) := by decide +kernel
theorem dModel_smuggle_17 : decode prog_14_method_91_code 17 = .ok (.iinc 1 1, 3) := by decide +kernel
theorem dModel_smuggle_20 : decode prog_14_method_91_code 20 = .ok (.goto (-18), 3) := by decide +kernel
theorem dModel_smuggle_23 : decode prog_14_method_91_code 23 = .ok (.iconst 0, 1) := by decide +kernel
theorem dModel_smuggle_24 : decode prog_14_method_91_code 24 = .ok (.istore_n 1, 1) := by decide +kernel
theorem dModel_smuggle_25 : decode prog_14_method_91_code 25 = .ok (.iload_n 1, 1) := by decide +kernel
theorem dModel_smuggle_26 : decode prog_14_method_91_code 26 = .ok (.aload_n 0, 1) := by decide +kernel
theorem dModel_smuggle_27 : decode prog_14_method_91_code 27 = .ok (.invokevirtual 488, 3) := by decide +kernel
theorem dModel_smuggle_30 : decode prog_14_method_91_code 30 = .ok (.if_icmp .ge 124, 3) := by decide +kernel
theorem dModel_smuggle_33 : decode prog_14_method_91_code 33 = .ok (.iload_n 1, 1) := by decide +kernel
theorem dModel_smuggle_34 : decode prog_14_method_91_code 34 = .ok (.iconst 1, 1) := by decide +kernel
theorem dModel_smuggle_35 : decode prog_14_method_91_code 35 = .ok (.iadd, 1) := by decide +kernel
theorem dModel_smuggle_36 : decode prog_14_method_91_code 36 = .ok (.istore_n 2, 1) := by decide +kernel
theorem dModel_smuggle_37 : decode prog_14_method_91_code 37 = .ok (.iload_n 2, 1) := by decide +kernel
theorem dModel_smuggle_38 : decode prog_14_method_91_code 38 = .ok (.aload_n 0, 1) := by decide +kernel
theorem dModel_smuggle_39 : decode prog_14_method_91_code 39 = .ok (.invokevirtual 488, 3) := by decide +kernel
theorem dModel_smuggle_42 : decode prog_14_method_91_code 42 = .ok (.if_icmp .ge 106, 3) := by decide +kernel
theorem dModel_smuggle_45 : decode prog_14_method_91_code 45 = .ok (.aload_n 0, 1) := by decide +kernel
theorem dModel_smuggle_46 : decode prog_14_method_91_code 46 = .ok (.getfield 269, 3) := by decide +kernel
theorem dModel_smuggle_49 : decode prog_14_method_91_code 49 = .ok (.bipush 16, 2) := by decide +kernel
theorem dModel_smuggle_51 : decode prog_14_method_91_code 51 = .ok (.aload_n 0, 1) := by decide +kernel
theorem dModel_smuggle_52 : decode prog_14_method_91_code 52 = .ok (.iload_n 1, 1) := by decide +kernel
theorem dModel_smuggle_53 : decode prog_14_method_91_code 53 = .ok (.invokevirtual 494, 3) := by decide +kernel
theorem dModel_smuggle_56 : decode prog_14_method_91_code 56 = .ok (.imul, 1) := by decide +kernel
theorem dModel_smuggle_57 : decode prog_14_method_91_code 57 = .ok (.aload_n 0, 1) := by decide +kernel
theorem dModel_smuggle_58 : decode prog_14_method_91_code 58 = .ok (.iload_n 2, 1) := by decide +kernel
theorem dModel_smuggle_59 : decode prog_14_method_91_code 59 = .ok (.invokevirtual 494, 3) := by decide +kernel
theorem dModel_smuggle_62 : decode prog_14_method_91_code 62 = .ok (.iadd, 1) := by decide +kernel
theorem dModel_smuggle_63 : decode prog_14_method_91_code 63 = .ok (.iaload, 1) := by decide +kernel
theorem dModel_smuggle_64 : decode prog_14_method_91_code 64 = .ok (.istore_n 3, 1) := by decide +kernel
theorem dModel_smuggle_65 : decode prog_14_method_91_code 65 = .ok (.aload_n 0, 1) := by decide +kernel
theorem dModel_smuggle_66 : decode prog_14_method_91_code 66 = .ok (.getfield 254, 3) := by decide +kernel
theorem dModel_smuggle_69 : decode prog_14_method_91_code 69 = .ok (.iconst 5, 1) := by decide +kernel
theorem dModel_smuggle_70 : decode prog_14_method_91_code 70 = .ok (.aload_n 0, 1) := by decide +kernel
theorem dModel_smuggle_71 : decode prog_14_method_91_code 71 = .ok (.getfield 147, 3) := by decide +kernel
theorem dModel_smuggle_74 : decode prog_14_method_91_code 74 = .ok (.imul, 1) := by decide +kernel
theorem dModel_smuggle_75 : decode prog_14_method_91_code 75 = .ok (.iload_n 1, 1) := by decide +kernel
theorem dModel_smuggle_76 : decode prog_14_method_91_code 76 = .ok (.iadd, 1) := by decide +kernel
theorem dModel_smuggle_77 : decode prog_14_method_91_code 77 = .ok (.iaload, 1) := by decide +kernel
theorem dModel_smuggle_78 : decode prog_14_method_91_code 78 = .ok (.aload_n 0, 1) := by decide +kernel
theorem dModel_smuggle_79 : decode prog_14_method_91_code 79 = .ok (.getfield 254, 3) := by decide +kernel
theorem dModel_smuggle_82 : decode prog_14_method_91_code 82 = .ok (.iconst 5, 1) := by decide +kernel
theorem dModel_smuggle_83 : decode prog_14_method_91_code 83 = .ok (.aload_n 0, 1) := by decide +kernel
theorem dModel_smuggle_84 : decode prog_14_method_91_code 84 = .ok (.getfield 147, 3) := by decide +kernel
theorem dModel_smuggle_87 : decode prog_14_method_91_code 87 = .ok (.imul, 1) := by decide +kernel
theorem dModel_smuggle_88 : decode prog_14_method_91_code 88 = .ok (.iload_n 2, 1) := by decide +kernel
theorem dModel_smuggle_89 : decode prog_14_method_91_code 89 = .ok (.iadd, 1) := by decide +kernel
theorem dModel_smuggle_90 : decode prog_14_method_91_code 90 = .ok (.iaload, 1) := by decide +kernel
theorem dModel_smuggle_91 : decode prog_14_method_91_code 91 = .ok (.if_icmp .eq 51, 3) := by decide +kernel
theorem dModel_smuggle_94 : decode prog_14_method_91_code 94 = .ok (.iload_n 3, 1) := by decide +kernel
theorem dModel_smuggle_95 : decode prog_14_method_91_code 95 = .ok (.ldc_w 272, 3) := by decide +kernel
theorem dModel_smuggle_98 : decode prog_14_method_91_code 98 = .ok (.if_icmp .lt 6, 3) := by decide +kernel
theorem dModel_smuggle_101 : decode prog_14_method_91_code 101 = .ok (.goto 41, 3) := by decide +kernel
theorem dModel_smuggle_104 : decode prog_14_method_91_code 104 = .ok (.aload_n 0, 1) := by decide +kernel
theorem dModel_smuggle_105 : decode prog_14_method_91_code 105 = .ok (.iload_n 2, 1) := by decide +kernel
theorem dModel_smuggle_106 : decode prog_14_method_91_code 106 = .ok (.invokevirtual 497, 3) := by decide +kernel
theorem dModel_smuggle_109 : decode prog_14_method_91_code 109 = .ok (.aload_n 0, 1) := by decide +kernel
theorem dModel_smuggle_110 : decode prog_14_method_91_code 110 = .ok (.iload_n 1, 1) := by decide +kernel
theorem dModel_smuggle_111 : decode prog_14_method_91_code 111 = .ok (.invokevirtual 497, 3) := by decide +kernel
theorem dModel_smuggle_114 : decode prog_14_method_91_code 114 = .ok (.isub, 1) := by decide +kernel
theorem dModel_smuggle_115 : decode prog_14_method_91_code 115 = .ok (.istore 4, 2) := by decide +kernel
theorem dModel_smuggle_117 : decode prog_14_method_91_code 117 = .ok (.iload 4, 2) := by decide +kernel
theorem dModel_smuggle_119 : decode prog_14_method_91_code 119 = .ok (.iload_n 3, 1) := by decide +kernel
theorem dModel_smuggle_120 : decode prog_14_method_91_code 120 = .ok (.if_icmp .le 9, 3) := by decide +kernel
theorem dModel_smuggle_123 : decode prog_14_method_91_code 123 = .ok (.aload_n 0, 1) := by decide +kernel
theorem dModel_smuggle_124 : decode prog_14_method_91_code 124 = .ok (.iload_n 1, 1) := by decide +kernel
theorem dModel_smuggle_125 : decode prog_14_method_91_code 125 = .ok (.iload_n 2, 1) := by decide +kernel
theorem dModel_smuggle_126 : decode prog_14_method_91_code 126 = .ok (.invokevirtual 697, 3) := by decide +kernel
theorem dModel_smuggle_129 : decode prog_14_method_91_code 129 = .ok (.iload 4, 2) := by decide +kernel
theorem dModel_smuggle_131 : decode prog_14_method_91_code 131 = .ok (.ineg, 1) := by decide +kernel
theorem dModel_smuggle_132 : decode prog_14_method_91_code 132 = .ok (.iload_n 3, 1) := by decide +kernel
theorem dModel_smuggle_133 : decode prog_14_method_91_code 133 = .ok (.if_icmp .le 9, 3) := by decide +kernel
theorem dModel_smuggle_136 : decode prog_14_method_91_code 136 = .ok (.aload_n 0, 1) := by decide +kernel
theorem dModel_smuggle_137 : decode prog_14_method_91_code 137 = .ok (.iload_n 2, 1) := by decide +kernel
theorem dModel_smuggle_138 : decode prog_14_method_91_code 138 = .ok (.iload_n 1, 1) := by decide +kernel
theorem dModel_smuggle_139 : decode prog_14_method_91_code 139 = .ok (.invokevirtual 697, 3) := by decide +kernel
theorem dModel_smuggle_142 : decode prog_14_method_91_code 142 = .ok (.iinc 2 1, 3) := by decide +kernel
theorem dModel_smuggle_145 : decode prog_14_method_91_code 145 = .ok (.goto (-108), 3) := by decide +kernel
theorem dModel_smuggle_148 : decode prog_14_method_91_code 148 = .ok (.iinc 1 1, 3) := by decide +kernel
theorem dModel_smuggle_151 : decode prog_14_method_91_code 151 = .ok (.goto (-126), 3) := by decide +kernel
theorem dModel_smuggle_154 : decode prog_14_method_91_code 154 = .ok (.return_, 1) := by decide +kernel
theorem dModel_cross_0 : decode prog_14_method_92_code 0 = .ok (.aload_n 0, 1) := by decide +kernel
theorem dModel_cross_1 : decode prog_14_method_92_code 1 = .ok (.getfield 474, 3) := by decide +kernel
theorem dModel_cross_4 : decode prog_14_method_92_code 4 = .ok (.iload_n 1, 1) := by decide +kernel
theorem dModel_cross_5 : decode prog_14_method_92_code 5 = .ok (.iaload, 1) := by decide +kernel
theorem dModel_cross_6 : decode prog_14_method_92_code 6 = .ok (.bipush 10, 2) := by decide +kernel
theorem dModel_cross_8 : decode prog_14_method_92_code 8 = .ok (.idiv, 1) := by decide +kernel
theorem dModel_cross_9 : decode prog_14_method_92_code 9 = .ok (.aload_n 0, 1) := by decide +kernel
theorem dModel_cross_10 : decode prog_14_method_92_code 10 = .ok (.getfield 257, 3) := by decide +kernel
theorem dModel_cross_13 : decode prog_14_method_92_code 13 = .ok (.iconst 5, 1) := by decide +kernel
theorem dModel_cross_14 : decode prog_14_method_92_code 14 = .ok (.aload_n 0, 1) := by decide +kernel
theorem dModel_cross_15 : decode prog_14_method_92_code 15 = .ok (.getfield 147, 3) := by decide +kernel
theorem dModel_cross_18 : decode prog_14_method_92_code 18 = .ok (.imul, 1) := by decide +kernel
theorem dModel_cross_19 : decode prog_14_method_92_code 19 = .ok (.iload_n 2, 1) := by decide +kernel
theorem dModel_cross_20 : decode prog_14_method_92_code 20 = .ok (.iadd, 1) := by decide +kernel
theorem dModel_cross_21 : decode prog_14_method_92_code 21 = .ok (.iaload, 1) := by decide +kernel
theorem dModel_cross_22 : decode prog_14_method_92_code 22 = .ok (.i2l, 1) := by decide +kernel
theorem dModel_cross_23 : decode prog_14_method_92_code 23 = .ok (.invokestatic 651, 3) := by decide +kernel
theorem dModel_cross_26 : decode prog_14_method_92_code 26 = .ok (.istore_n 3, 1) := by decide +kernel
theorem dModel_cross_27 : decode prog_14_method_92_code 27 = .ok (.iload_n 3, 1) := by decide +kernel
theorem dModel_cross_28 : decode prog_14_method_92_code 28 = .ok (.aload_n 0, 1) := by decide +kernel
theorem dModel_cross_29 : decode prog_14_method_92_code 29 = .ok (.getfield 594, 3) := by decide +kernel
theorem dModel_cross_32 : decode prog_14_method_92_code 32 = .ok (.imul, 1) := by decide +kernel
theorem dModel_cross_33 : decode prog_14_method_92_code 33 = .ok (.bipush 100, 2) := by decide +kernel
theorem dModel_cross_35 : decode prog_14_method_92_code 35 = .ok (.idiv, 1) := by decide +kernel
theorem dModel_cross_36 : decode prog_14_method_92_code 36 = .ok (.istore 4, 2) := by decide +kernel
theorem dModel_cross_38 : decode prog_14_method_92_code 38 = .ok (.aload_n 0, 1) := by decide +kernel
theorem dModel_cross_39 : decode prog_14_method_92_code 39 = .ok (.getfield 474, 3) := by decide +kernel
theorem dModel_cross_42 : decode prog_14_method_92_code 42 = .ok (.iload_n 1, 1) := by decide +kernel
theorem dModel_cross_43 : decode prog_14_method_92_code 43 = .ok (.dup2, 1) := by decide +kernel
theorem dModel_cross_44 : decode prog_14_method_92_code 44 = .ok (.iaload, 1) := by decide +kernel
theorem dModel_cross_45 : decode prog_14_method_92_code 45 = .ok (.iload_n 3, 1) := by decide +kernel
theorem dModel_cross_46 : decode prog_14_method_92_code 46 = .ok (.isub, 1) := by decide +kernel
theorem dModel_cross_47 : decode prog_14_method_92_code 47 = .ok (.iastore, 1) := by decide +kernel
theorem dModel_cross_48 : decode prog_14_method_92_code 48 = .ok (.aload_n 0, 1) := by decide +kernel
theorem dModel_cross_49 : decode prog_14_method_92_code 49 = .ok (.getfield 474, 3) := by decide +kernel
theorem dModel_cross_52 : decode prog_14_method_92_code 52 = .ok (.iload_n 2, 1) := by decide +kernel
theorem dModel_cross_53 : decode prog_14_method_92_code 53 = .ok (.dup2, 1) := by decide +kernel
theorem dModel_cross_54 : decode prog_14_method_92_code 54 = .ok (.iaload, 1) := by decide +kernel
theorem dModel_cross_55 : decode prog_14_method_92_code 55 = .ok (.iload_n 3, 1) := by decide +kernel
theorem dModel_cross_56 : decode prog_14_method_92_code 56 = .ok (.iload 4, 2) := by decide +kernel
theorem dModel_cross_58 : decode prog_14_method_92_code 58 = .ok (.isub, 1) := by decide +kernel
theorem dModel_cross_59 : decode prog_14_method_92_code 59 = .ok (.iadd, 1) := by decide +kernel
theorem dModel_cross_60 : decode prog_14_method_92_code 60 = .ok (.iastore, 1) := by decide +kernel
theorem dModel_cross_61 : decode prog_14_method_92_code 61 = .ok (.aload_n 0, 1) := by decide +kernel
theorem dModel_cross_62 : decode prog_14_method_92_code 62 = .ok (.getfield 694, 3) := by decide +kernel
theorem dModel_cross_65 : decode prog_14_method_92_code 65 = .ok (.iload_n 2, 1) := by decide +kernel
theorem dModel_cross_66 : decode prog_14_method_92_code 66 = .ok (.dup2, 1) := by decide +kernel
theorem dModel_cross_67 : decode prog_14_method_92_code 67 = .ok (.iaload, 1) := by decide +kernel
theorem dModel_cross_68 : decode prog_14_method_92_code 68 = .ok (.iload_n 3, 1) := by decide +kernel
theorem dModel_cross_69 : decode prog_14_method_92_code 69 = .ok (.iload 4, 2) := by decide +kernel
theorem dModel_cross_71 : decode prog_14_method_92_code 71 = .ok (.isub, 1) := by decide +kernel
theorem dModel_cross_72 : decode prog_14_method_92_code 72 = .ok (.iadd, 1) := by decide +kernel
theorem dModel_cross_73 : decode prog_14_method_92_code 73 = .ok (.iastore, 1) := by decide +kernel
theorem dModel_cross_74 : decode prog_14_method_92_code 74 = .ok (.aload_n 0, 1) := by decide +kernel
theorem dModel_cross_75 : decode prog_14_method_92_code 75 = .ok (.dup, 1) := by decide +kernel
theorem dModel_cross_76 : decode prog_14_method_92_code 76 = .ok (.getfield 700, 3) := by decide +kernel
theorem dModel_cross_79 : decode prog_14_method_92_code 79 = .ok (.iload_n 3, 1) := by decide +kernel
theorem dModel_cross_80 : decode prog_14_method_92_code 80 = .ok (.iload 4, 2) := by decide +kernel
theorem dModel_cross_82 : decode prog_14_method_92_code 82 = .ok (.isub, 1) := by decide +kernel
theorem dModel_cross_83 : decode prog_14_method_92_code 83 = .ok (.i2l, 1) := by decide +kernel
theorem dModel_cross_84 : decode prog_14_method_92_code 84 = .ok (.ladd, 1) := by decide +kernel
theorem dModel_cross_85 : decode prog_14_method_92_code 85 = .ok (.putfield 700, 3) := by decide +kernel
theorem dModel_cross_88 : decode prog_14_method_92_code 88 = .ok (.aload_n 0, 1) := by decide +kernel
theorem dModel_cross_89 : decode prog_14_method_92_code 89 = .ok (.dup, 1) := by decide +kernel
theorem dModel_cross_90 : decode prog_14_method_92_code 90 = .ok (.getfield 703, 3) := by decide +kernel
theorem dModel_cross_93 : decode prog_14_method_92_code 93 = .ok (.iload 4, 2) := by decide +kernel
theorem dModel_cross_95 : decode prog_14_method_92_code 95 = .ok (.i2l, 1) := by decide +kernel
theorem dModel_cross_96 : decode prog_14_method_92_code 96 = .ok (.ladd, 1) := by decide +kernel
theorem dModel_cross_97 : decode prog_14_method_92_code 97 = .ok (.putfield 703, 3) := by decide +kernel
theorem dModel_cross_100 : decode prog_14_method_92_code 100 = .ok (.return_, 1) := by decide +kernel
theorem dModel_clear_0 : decode prog_14_method_93_code 0 = .ok (.aload_n 0, 1) := by decide +kernel
theorem dModel_clear_1 : decode prog_14_method_93_code 1 = .ok (.iconst 0, 1) := by decide +kernel
theorem dModel_clear_2 : decode prog_14_method_93_code 2 = .ok (.putfield 454, 3) := by decide +kernel
theorem dModel_clear_5 : decode prog_14_method_93_code 5 = .ok (.aload_n 0, 1) := by decide +kernel
theorem dModel_clear_6 : decode prog_14_method_93_code 6 = .ok (.iconst 0, 1) := by decide +kernel
theorem dModel_clear_7 : decode prog_14_method_93_code 7 = .ok (.putfield 548, 3) := by decide +kernel
theorem dModel_clear_10 : decode prog_14_method_93_code 10 = .ok (.aload_n 0, 1) := by decide +kernel
theorem dModel_clear_11 : decode prog_14_method_93_code 11 = .ok (.lconst 0, 1) := by decide +kernel
theorem dModel_clear_12 : decode prog_14_method_93_code 12 = .ok (.putfield 630, 3) := by decide +kernel
theorem dModel_clear_15 : decode prog_14_method_93_code 15 = .ok (.aload_n 0, 1) := by decide +kernel
theorem dModel_clear_16 : decode prog_14_method_93_code 16 = .ok (.lconst 0, 1) := by decide +kernel
theorem dModel_clear_17 : decode prog_14_method_93_code 17 = .ok (.putfield 597, 3) := by decide +kernel
theorem dModel_clear_20 : decode prog_14_method_93_code 20 = .ok (.aload_n 0, 1) := by decide +kernel
theorem dModel_clear_21 : decode prog_14_method_93_code 21 = .ok (.lconst 0, 1) := by decide +kernel
theorem dModel_clear_22 : decode prog_14_method_93_code 22 = .ok (.putfield 581, 3) := by decide +kernel
theorem dModel_clear_25 : decode prog_14_method_93_code 25 = .ok (.aload_n 0, 1) := by decide +kernel
theorem dModel_clear_26 : decode prog_14_method_93_code 26 = .ok (.lconst 0, 1) := by decide +kernel
theorem dModel_clear_27 : decode prog_14_method_93_code 27 = .ok (.putfield 700, 3) := by decide +kernel
theorem dModel_clear_30 : decode prog_14_method_93_code 30 = .ok (.aload_n 0, 1) := by decide +kernel
theorem dModel_clear_31 : decode prog_14_method_93_code 31 = .ok (.lconst 0, 1) := by decide +kernel
theorem dModel_clear_32 : decode prog_14_method_93_code 32 = .ok (.putfield 703, 3) := by decide +kernel
theorem dModel_clear_35 : decode prog_14_method_93_code 35 = .ok (.aload_n 0, 1) := by decide +kernel
theorem dModel_clear_36 : decode prog_14_method_93_code 36 = .ok (.lconst 0, 1) := by decide +kernel
theorem dModel_clear_37 : decode prog_14_method_93_code 37 = .ok (.putfield 617, 3) := by decide +kernel
theorem dModel_clear_40 : decode prog_14_method_93_code 40 = .ok (.aload_n 0, 1) := by decide +kernel
theorem dModel_clear_41 : decode prog_14_method_93_code 41 = .ok (.lconst 0, 1) := by decide +kernel
theorem dModel_clear_42 : decode prog_14_method_93_code 42 = .ok (.putfield 614, 3) := by decide +kernel
theorem dModel_clear_45 : decode prog_14_method_93_code 45 = .ok (.aload_n 0, 1) := by decide +kernel
theorem dModel_clear_46 : decode prog_14_method_93_code 46 = .ok (.lconst 0, 1) := by decide +kernel
theorem dModel_clear_47 : decode prog_14_method_93_code 47 = .ok (.putfield 611, 3) := by decide +kernel
theorem dModel_clear_50 : decode prog_14_method_93_code 50 = .ok (.iconst 0, 1) := by decide +kernel
theorem dModel_clear_51 : decode prog_14_method_93_code 51 = .ok (.istore_n 1, 1) := by decide +kernel
theorem dModel_clear_52 : decode prog_14_method_93_code 52 = .ok (.iload_n 1, 1) := by decide +kernel
theorem dModel_clear_53 : decode prog_14_method_93_code 53 = .ok (.aload_n 0, 1) := by decide +kernel
theorem dModel_clear_54 : decode prog_14_method_93_code 54 = .ok (.invokevirtual 624, 3) := by decide +kernel
theorem dModel_clear_57 : decode prog_14_method_93_code 57 = .ok (.if_icmp .ge 28, 3) := by decide +kernel
theorem dModel_clear_60 : decode prog_14_method_93_code 60 = .ok (.aload_n 0, 1) := by decide +kernel
theorem dModel_clear_61 : decode prog_14_method_93_code 61 = .ok (.getfield 513, 3) := by decide +kernel
theorem dModel_clear_64 : decode prog_14_method_93_code 64 = .ok (.iload_n 1, 1) := by decide +kernel
theorem dModel_clear_65 : decode prog_14_method_93_code 65 = .ok (.aload_n 0, 1) := by decide +kernel
theorem dModel_clear_66 : decode prog_14_method_93_code 66 = .ok (.getfield 239, 3) := by decide +kernel
theorem dModel_clear_69 : decode prog_14_method_93_code 69 = .ok (.iconst 3, 1) := by decide +kernel
theorem dModel_clear_70 : decode prog_14_method_93_code 70 = .ok (.aload_n 0, 1) := by decide +kernel
theorem dModel_clear_71 : decode prog_14_method_93_code 71 = .ok (.getfield 147, 3) := by decide +kernel
theorem dModel_clear_74 : decode prog_14_method_93_code 74 = .ok (.imul, 1) := by decide +kernel
theorem dModel_clear_75 : decode prog_14_method_93_code 75 = .ok (.iload_n 1, 1) := by decide +kernel
theorem dModel_clear_76 : decode prog_14_method_93_code 76 = .ok (.iadd, 1) := by decide +kernel
theorem dModel_clear_77 : decode prog_14_method_93_code 77 = .ok (.iaload, 1) := by decide +kernel
theorem dModel_clear_78 : decode prog_14_method_93_code 78 = .ok (.iastore, 1) := by decide +kernel
theorem dModel_clear_79 : decode prog_14_method_93_code 79 = .ok (.iinc 1 1, 3) := by decide +kernel
theorem dModel_clear_82 : decode prog_14_method_93_code 82 = .ok (.goto (-30), 3) := by decide +kernel
theorem dModel_clear_85 : decode prog_14_method_93_code 85 = .ok (.iconst 0, 1) := by decide +kernel
theorem dModel_clear_86 : decode prog_14_method_93_code 86 = .ok (.istore_n 1, 1) := by decide +kernel
theorem dModel_clear_87 : decode prog_14_method_93_code 87 = .ok (.iload_n 1, 1) := by decide +kernel
theorem dModel_clear_88 : decode prog_14_method_93_code 88 = .ok (.iconst 3, 1) := by decide +kernel
theorem dModel_clear_89 : decode prog_14_method_93_code 89 = .ok (.if_icmp .ge 16, 3) := by decide +kernel
theorem dModel_clear_92 : decode prog_14_method_93_code 92 = .ok (.aload_n 0, 1) := by decide +kernel
theorem dModel_clear_93 : decode prog_14_method_93_code 93 = .ok (.getfield 469, 3) := by decide +kernel
theorem dModel_clear_96 : decode prog_14_method_93_code 96 = .ok (.iload_n 1, 1) := by decide +kernel
theorem dModel_clear_97 : decode prog_14_method_93_code 97 = .ok (.iconst 0, 1) := by decide +kernel
theorem dModel_clear_98 : decode prog_14_method_93_code 98 = .ok (.iastore, 1) := by decide +kernel
theorem dModel_clear_99 : decode prog_14_method_93_code 99 = .ok (.iinc 1 1, 3) := by decide +kernel
theorem dModel_clear_102 : decode prog_14_method_93_code 102 = .ok (.goto (-15), 3) := by decide +kernel
theorem dModel_clear_105 : decode prog_14_method_93_code 105 = .ok (.iconst 0, 1) := by decide +kernel
theorem dModel_clear_106 : decode prog_14_method_93_code 106 = .ok (.istore_n 1, 1) := by decide +kernel
theorem dModel_clear_107 : decode prog_14_method_93_code 107 = .ok (.iload_n 1, 1) := by decide +kernel
theorem dModel_clear_108 : decode prog_14_method_93_code 108 = .ok (.iconst 5, 1) := by decide +kernel
theorem dModel_clear_109 : decode prog_14_method_93_code 109 = .ok (.if_icmp .ge 16, 3) := by decide +kernel
theorem dModel_clear_112 : decode prog_14_method_93_code 112 = .ok (.aload_n 0, 1) := by decide +kernel
theorem dModel_clear_113 : decode prog_14_method_93_code 113 = .ok (.getfield 474, 3) := by decide +kernel
theorem dModel_clear_116 : decode prog_14_method_93_code 116 = .ok (.iload_n 1, 1) := by decide +kernel
theorem dModel_clear_117 : decode prog_14_method_93_code 117 = .ok (.iconst 0, 1) := by decide +kernel
theorem dModel_clear_118 : decode prog_14_method_93_code 118 = .ok (.iastore, 1) := by decide +kernel
theorem dModel_clear_119 : decode prog_14_method_93_code 119 = .ok (.iinc 1 1, 3) := by decide +kernel
theorem dModel_clear_122 : decode prog_14_method_93_code 122 = .ok (.goto (-15), 3) := by decide +kernel
theorem dModel_clear_125 : decode prog_14_method_93_code 125 = .ok (.iconst 0, 1) := by decide +kernel
theorem dModel_clear_126 : decode prog_14_method_93_code 126 = .ok (.istore_n 1, 1) := by decide +kernel
theorem dModel_clear_127 : decode prog_14_method_93_code 127 = .ok (.iload_n 1, 1) := by decide +kernel
theorem dModel_clear_128 : decode prog_14_method_93_code 128 = .ok (.bipush 18, 2) := by decide +kernel
theorem dModel_clear_130 : decode prog_14_method_93_code 130 = .ok (.if_icmp .ge 16, 3) := by decide +kernel
theorem dModel_clear_133 : decode prog_14_method_93_code 133 = .ok (.aload_n 0, 1) := by decide +kernel
theorem dModel_clear_134 : decode prog_14_method_93_code 134 = .ok (.getfield 584, 3) := by decide +kernel
theorem dModel_clear_137 : decode prog_14_method_93_code 137 = .ok (.iload_n 1, 1) := by decide +kernel
theorem dModel_clear_138 : decode prog_14_method_93_code 138 = .ok (.iconst (-1), 1) := by decide +kernel
theorem dModel_clear_139 : decode prog_14_method_93_code 139 = .ok (.iastore, 1) := by decide +kernel
theorem dModel_clear_140 : decode prog_14_method_93_code 140 = .ok (.iinc 1 1, 3) := by decide +kernel
theorem dModel_clear_143 : decode prog_14_method_93_code 143 = .ok (.goto (-16), 3) := by decide +kernel
theorem dModel_clear_146 : decode prog_14_method_93_code 146 = .ok (.iconst 0, 1) := by decide +kernel
theorem dModel_clear_147 : decode prog_14_method_93_code 147 = .ok (.istore_n 1, 1) := by decide +kernel
theorem dModel_clear_148 : decode prog_14_method_93_code 148 = .ok (.iload_n 1, 1) := by decide +kernel
theorem dModel_clear_149 : decode prog_14_method_93_code 149 = .ok (.aload_n 0, 1) := by decide +kernel
theorem dModel_clear_150 : decode prog_14_method_93_code 150 = .ok (.getfield 387, 3) := by decide +kernel
theorem dModel_clear_153 : decode prog_14_method_93_code 153 = .ok (.if_icmp .ge 115, 3) := by decide +kernel
theorem dModel_clear_156 : decode prog_14_method_93_code 156 = .ok (.aload_n 0, 1) := by decide +kernel
theorem dModel_clear_157 : decode prog_14_method_93_code 157 = .ok (.getfield 578, 3) := by decide +kernel
theorem dModel_clear_160 : decode prog_14_method_93_code 160 = .ok (.iload_n 1, 1) := by decide +kernel
theorem dModel_clear_161 : decode prog_14_method_93_code 161 = .ok (.aload_n 0, 1) := by decide +kernel
theorem dModel_clear_162 : decode prog_14_method_93_code 162 = .ok (.getfield 390, 3) := by decide +kernel
theorem dModel_clear_165 : decode prog_14_method_93_code 165 = .ok (.iload_n 1, 1) := by decide +kernel
theorem dModel_clear_166 : decode prog_14_method_93_code 166 = .ok (.iaload, 1) := by decide +kernel
theorem dModel_clear_167 : decode prog_14_method_93_code 167 = .ok (.i2l, 1) := by decide +kernel
theorem dModel_clear_168 : decode prog_14_method_93_code 168 = .ok (.lastore, 1) := by decide +kernel
theorem dModel_clear_169 : decode prog_14_method_93_code 169 = .ok (.aload_n 0, 1) := by decide +kernel
theorem dModel_clear_170 : decode prog_14_method_93_code 170 = .ok (.getfield 522, 3) := by decide +kernel
theorem dModel_clear_173 : decode prog_14_method_93_code 173 = .ok (.iload_n 1, 1) := by decide +kernel
theorem dModel_clear_174 : decode prog_14_method_93_code 174 = .ok (.ldc_w 272, 3) := by decide +kernel
theorem dModel_clear_177 : decode prog_14_method_93_code 177 = .ok (.iastore, 1) := by decide +kernel
theorem dModel_clear_178 : decode prog_14_method_93_code 178 = .ok (.aload_n 0, 1) := by decide +kernel
theorem dModel_clear_179 : decode prog_14_method_93_code 179 = .ok (.getfield 575, 3) := by decide +kernel
theorem dModel_clear_182 : decode prog_14_method_93_code 182 = .ok (.iload_n 1, 1) := by decide +kernel
theorem dModel_clear_183 : decode prog_14_method_93_code 183 = .ok (.iconst (-1), 1) := by decide +kernel
theorem dModel_clear_184 : decode prog_14_method_93_code 184 = .ok (.iastore, 1) := by decide +kernel
theorem dModel_clear_185 : decode prog_14_method_93_code 185 = .ok (.iconst 0, 1) := by decide +kernel
theorem dModel_clear_186 : decode prog_14_method_93_code 186 = .ok (.istore_n 2, 1) := by decide +kernel
theorem dModel_clear_187 : decode prog_14_method_93_code 187 = .ok (.iload_n 2, 1) := by decide +kernel
theorem dModel_clear_188 : decode prog_14_method_93_code 188 = .ok (.aload_n 0, 1) := by decide +kernel
theorem dModel_clear_189 : decode prog_14_method_93_code 189 = .ok (.getfield 169, 3) := by decide +kernel
theorem dModel_clear_192 : decode prog_14_method_93_code 192 = .ok (.if_icmp .ge 70, 3) := by decide +kernel
theorem dModel_clear_195 : decode prog_14_method_93_code 195 = .ok (.aload_n 0, 1) := by decide +kernel
theorem dModel_clear_196 : decode prog_14_method_93_code 196 = .ok (.iload_n 2, 1) := by decide +kernel
theorem dModel_clear_197 : decode prog_14_method_93_code 197 = .ok (.iconst 2, 1) := by decide +kernel
theorem dModel_clear_198 : decode prog_14_method_93_code 198 = .ok (.invokevirtual 541, 3) := by decide +kernel
theorem dModel_clear_201 : decode prog_14_method_93_code 201 = .ok (.ifCond .eq 55, 3) := by decide +kernel
theorem dModel_clear_204 : decode prog_14_method_93_code 204 = .ok (.aload_n 0, 1) := by decide +kernel
theorem dModel_clear_205 : decode prog_14_method_93_code 205 = .ok (.getfield 415, 3) := by decide +kernel
theorem dModel_clear_208 : decode prog_14_method_93_code 208 = .ok (.iload_n 2, 1) := by decide +kernel
theorem dModel_clear_209 : decode prog_14_method_93_code 209 = .ok (.iaload, 1) := by decide +kernel
theorem dModel_clear_210 : decode prog_14_method_93_code 210 = .ok (.iload_n 1, 1) := by decide +kernel
theorem dModel_clear_211 : decode prog_14_method_93_code 211 = .ok (.if_icmp .ne 45, 3) := by decide +kernel
theorem dModel_clear_214 : decode prog_14_method_93_code 214 = .ok (.aload_n 0, 1) := by decide +kernel
theorem dModel_clear_215 : decode prog_14_method_93_code 215 = .ok (.getfield 418, 3) := by decide +kernel
theorem dModel_clear_218 : decode prog_14_method_93_code 218 = .ok (.iload_n 2, 1) := by decide +kernel
theorem dModel_clear_219 : decode prog_14_method_93_code 219 = .ok (.iaload, 1) := by decide +kernel
theorem dModel_clear_220 : decode prog_14_method_93_code 220 = .ok (.aload_n 0, 1) := by decide +kernel
theorem dModel_clear_221 : decode prog_14_method_93_code 221 = .ok (.getfield 522, 3) := by decide +kernel
theorem dModel_clear_224 : decode prog_14_method_93_code 224 = .ok (.iload_n 1, 1) := by decide +kernel
theorem dModel_clear_225 : decode prog_14_method_93_code 225 = .ok (.iaload, 1) := by decide +kernel
theorem dModel_clear_226 : decode prog_14_method_93_code 226 = .ok (.if_icmp .le 6, 3) := by decide +kernel
theorem dModel_clear_229 : decode prog_14_method_93_code 229 = .ok (.goto 27, 3) := by decide +kernel
theorem dModel_clear_232 : decode prog_14_method_93_code 232 = .ok (.aload_n 0, 1) := by decide +kernel
theorem dModel_clear_233 : decode prog_14_method_93_code 233 = .ok (.getfield 522, 3) := by decide +kernel
theorem dModel_clear_236 : decode prog_14_method_93_code 236 = .ok (.iload_n 1, 1) := by decide +kernel
theorem dModel_clear_237 : decode prog_14_method_93_code 237 = .ok (.aload_n 0, 1) := by decide +kernel
theorem dModel_clear_238 : decode prog_14_method_93_code 238 = .ok (.getfield 418, 3) := by decide +kernel
theorem dModel_clear_241 : decode prog_14_method_93_code 241 = .ok (.iload_n 2, 1) := by decide +kernel
theorem dModel_clear_242 : decode prog_14_method_93_code 242 = .ok (.iaload, 1) := by decide +kernel
theorem dModel_clear_243 : decode prog_14_method_93_code 243 = .ok (.iastore, 1) := by decide +kernel
theorem dModel_clear_244 : decode prog_14_method_93_code 244 = .ok (.aload_n 0, 1) := by decide +kernel
theorem dModel_clear_245 : decode prog_14_method_93_code 245 = .ok (.getfield 575, 3) := by decide +kernel
theorem dModel_clear_248 : decode prog_14_method_93_code 248 = .ok (.iload_n 1, 1) := by decide +kernel
theorem dModel_clear_249 : decode prog_14_method_93_code 249 = .ok (.aload_n 0, 1) := by decide +kernel
theorem dModel_clear_250 : decode prog_14_method_93_code 250 = .ok (.getfield 421, 3) := by decide +kernel
theorem dModel_clear_253 : decode prog_14_method_93_code 253 = .ok (.iload_n 2, 1) := by decide +kernel
theorem dModel_clear_254 : decode prog_14_method_93_code 254 = .ok (.iaload, 1) := by decide +kernel
theorem dModel_clear_255 : decode prog_14_method_93_code 255 = .ok (.iastore, 1) := by decide +kernel
theorem dModel_clear_256 : decode prog_14_method_93_code 256 = .ok (.iinc 2 1, 3) := by decide +kernel
theorem dModel_clear_259 : decode prog_14_method_93_code 259 = .ok (.goto (-72), 3) := by decide +kernel
theorem dModel_clear_262 : decode prog_14_method_93_code 262 = .ok (.iinc 1 1, 3) := by decide +kernel
theorem dModel_clear_265 : decode prog_14_method_93_code 265 = .ok (.goto (-117), 3) := by decide +kernel
theorem dModel_clear_268 : decode prog_14_method_93_code 268 = .ok (.return_, 1) := by decide +kernel
theorem dModel_live_0 : decode prog_14_method_94_code 0 = .ok (.aload_n 0, 1) := by decide +kernel
theorem dModel_live_1 : decode prog_14_method_94_code 1 = .ok (.iload_n 1, 1) := by decide +kernel
theorem dModel_live_2 : decode prog_14_method_94_code 2 = .ok (.putfield 516, 3) := by decide +kernel
theorem dModel_live_5 : decode prog_14_method_94_code 5 = .ok (.aload_n 0, 1) := by decide +kernel
theorem dModel_live_6 : decode prog_14_method_94_code 6 = .ok (.iload_n 3, 1) := by decide +kernel
theorem dModel_live_7 : decode prog_14_method_94_code 7 = .ok (.putfield 444, 3) := by decide +kernel
theorem dModel_live_10 : decode prog_14_method_94_code 10 = .ok (.aload_n 0, 1) := by decide +kernel
theorem dModel_live_11 : decode prog_14_method_94_code 11 = .ok (.invokevirtual 706, 3) := by decide +kernel
theorem dModel_live_14 : decode prog_14_method_94_code 14 = .ok (.aload_n 0, 1) := by decide +kernel
theorem dModel_live_15 : decode prog_14_method_94_code 15 = .ok (.iconst 0, 1) := by decide +kernel
theorem dModel_live_16 : decode prog_14_method_94_code 16 = .ok (.putfield 348, 3) := by decide +kernel
theorem dModel_live_19 : decode prog_14_method_94_code 19 = .ok (.aload_n 0, 1) := by decide +kernel
theorem dModel_live_20 : decode prog_14_method_94_code 20 = .ok (.getfield 348, 3) := by decide +kernel
theorem dModel_live_23 : decode prog_14_method_94_code 23 = .ok (.iload_n 2, 1) := by decide +kernel
theorem dModel_live_24 : decode prog_14_method_94_code 24 = .ok (.if_icmp .ge 125, 3) := by decide +kernel
theorem dModel_live_27 : decode prog_14_method_94_code 27 = .ok (.aload_n 0, 1) := by decide +kernel
theorem dModel_live_28 : decode prog_14_method_94_code 28 = .ok (.invokevirtual 709, 3) := by decide +kernel
theorem dModel_live_31 : decode prog_14_method_94_code 31 = .ok (.aload_n 0, 1) := by decide +kernel
theorem dModel_live_32 : decode prog_14_method_94_code 32 = .ok (.invokevirtual 712, 3) := by decide +kernel
theorem dModel_live_35 : decode prog_14_method_94_code 35 = .ok (.aload_n 0, 1) := by decide +kernel
theorem dModel_live_36 : decode prog_14_method_94_code 36 = .ok (.invokevirtual 715, 3) := by decide +kernel
theorem dModel_live_39 : decode prog_14_method_94_code 39 = .ok (.aload_n 0, 1) := by decide +kernel
theorem dModel_live_40 : decode prog_14_method_94_code 40 = .ok (.invokevirtual 718, 3) := by decide +kernel
theorem dModel_live_43 : decode prog_14_method_94_code 43 = .ok (.aload_n 0, 1) := by decide +kernel
theorem dModel_live_44 : decode prog_14_method_94_code 44 = .ok (.invokevirtual 721, 3) := by decide +kernel
theorem dModel_live_47 : decode prog_14_method_94_code 47 = .ok (.iconst 0, 1) := by decide +kernel
theorem dModel_live_48 : decode prog_14_method_94_code 48 = .ok (.istore 4, 2) := by decide +kernel
theorem dModel_live_50 : decode prog_14_method_94_code 50 = .ok (.iload 4, 2) := by decide +kernel
theorem dModel_live_52 : decode prog_14_method_94_code 52 = .ok (.aload_n 0, 1) := by decide +kernel
theorem dModel_live_53 : decode prog_14_method_94_code 53 = .ok (.invokevirtual 433, 3) := by decide +kernel
theorem dModel_live_56 : decode prog_14_method_94_code 56 = .ok (.if_icmp .ge 15, 3) := by decide +kernel
theorem dModel_live_59 : decode prog_14_method_94_code 59 = .ok (.aload_n 0, 1) := by decide +kernel
theorem dModel_live_60 : decode prog_14_method_94_code 60 = .ok (.iload 4, 2) := by decide +kernel
theorem dModel_live_62 : decode prog_14_method_94_code 62 = .ok (.invokevirtual 724, 3) := by decide +kernel
theorem dModel_live_65 : decode prog_14_method_94_code 65 = .ok (.iinc 4 1, 3) := by decide +kernel
theorem dModel_live_68 : decode prog_14_method_94_code 68 = .ok (.goto (-18), 3) := by decide +kernel
theorem dModel_live_71 : decode prog_14_method_94_code 71 = .ok (.aload_n 0, 1) := by decide +kernel
theorem dModel_live_72 : decode prog_14_method_94_code 72 = .ok (.invokevirtual 727, 3) := by decide +kernel
theorem dModel_live_75 : decode prog_14_method_94_code 75 = .ok (.aload_n 0, 1) := by decide +kernel
theorem dModel_live_76 : decode prog_14_method_94_code 76 = .ok (.invokevirtual 730, 3) := by decide +kernel
theorem dModel_live_79 : decode prog_14_method_94_code 79 = .ok (.iconst 0, 1) := by decide +kernel
theorem dModel_live_80 : decode prog_14_method_94_code 80 = .ok (.istore 4, 2) := by decide +kernel
theorem dModel_live_82 : decode prog_14_method_94_code 82 = .ok (.iload 4, 2) := by decide +kernel
theorem dModel_live_84 : decode prog_14_method_94_code 84 = .ok (.aload_n 0, 1) := by decide +kernel
theorem dModel_live_85 : decode prog_14_method_94_code 85 = .ok (.getfield 387, 3) := by decide +kernel
theorem dModel_live_88 : decode prog_14_method_94_code 88 = .ok (.if_icmp .ge 40, 3) := by decide +kernel
theorem dModel_live_91 : decode prog_14_method_94_code 91 = .ok (.aload_n 0, 1) := by decide +kernel
theorem dModel_live_92 : decode prog_14_method_94_code 92 = .ok (.getfield 688, 3) := by decide +kernel
theorem dModel_live_95 : decode prog_14_method_94_code 95 = .ok (.iload 4, 2) := by decide +kernel
theorem dModel_live_97 : decode prog_14_method_94_code 97 = .ok (.iconst (-1), 1) := by decide +kernel
theorem dModel_live_98 : decode prog_14_method_94_code 98 = .ok (.iastore, 1) := by decide +kernel
theorem dModel_live_99 : decode prog_14_method_94_code 99 = .ok (.aload_n 0, 1) := by decide +kernel
theorem dModel_live_100 : decode prog_14_method_94_code 100 = .ok (.getfield 691, 3) := by decide +kernel
theorem dModel_live_103 : decode prog_14_method_94_code 103 = .ok (.iload 4, 2) := by decide +kernel
theorem dModel_live_105 : decode prog_14_method_94_code 105 = .ok (.lconst 0, 1) := by decide +kernel
theorem dModel_live_106 : decode prog_14_method_94_code 106 = .ok (.lastore, 1) := by decide +kernel
theorem dModel_live_107 : decode prog_14_method_94_code 107 = .ok (.aload_n 0, 1) := by decide +kernel
theorem dModel_live_108 : decode prog_14_method_94_code 108 = .ok (.iload 4, 2) := by decide +kernel
theorem dModel_live_110 : decode prog_14_method_94_code 110 = .ok (.invokevirtual 733, 3) := by decide +kernel
theorem dModel_live_113 : decode prog_14_method_94_code 113 = .ok (.ifCond .ne 9, 3) := by decide +kernel
theorem dModel_live_116 : decode prog_14_method_94_code 116 = .ok (.aload_n 0, 1) := by decide +kernel
theorem dModel_live_117 : decode prog_14_method_94_code 117 = .ok (.iload 4, 2) := by decide +kernel
theorem dModel_live_119 : decode prog_14_method_94_code 119 = .ok (.invokevirtual 736, 3) := by decide +kernel
theorem dModel_live_122 : decode prog_14_method_94_code 122 = .ok (.iinc 4 1, 3) := by decide +kernel
theorem dModel_live_125 : decode prog_14_method_94_code 125 = .ok (.goto (-43), 3) := by decide +kernel
theorem dModel_live_128 : decode prog_14_method_94_code 128 = .ok (.aload_n 0, 1) := by decide +kernel
theorem dModel_live_129 : decode prog_14_method_94_code 129 = .ok (.invokevirtual 739, 3) := by decide +kernel
theorem dModel_live_132 : decode prog_14_method_94_code 132 = .ok (.aload_n 0, 1) := by decide +kernel
theorem dModel_live_133 : decode prog_14_method_94_code 133 = .ok (.invokevirtual 742, 3) := by decide +kernel
theorem dModel_live_136 : decode prog_14_method_94_code 136 = .ok (.aload_n 0, 1) := by decide +kernel
theorem dModel_live_137 : decode prog_14_method_94_code 137 = .ok (.dup, 1) := by decide +kernel
theorem dModel_live_138 : decode prog_14_method_94_code 138 = .ok (.getfield 348, 3) := by decide +kernel
theorem dModel_live_141 : decode prog_14_method_94_code 141 = .ok (.iconst 1, 1) := by decide +kernel
theorem dModel_live_142 : decode prog_14_method_94_code 142 = .ok (.iadd, 1) := by decide +kernel
theorem dModel_live_143 : decode prog_14_method_94_code 143 = .ok (.putfield 348, 3) := by decide +kernel
theorem dModel_live_146 : decode prog_14_method_94_code 146 = .ok (.goto (-127), 3) := by decide +kernel
theorem dModel_live_149 : decode prog_14_method_94_code 149 = .ok (.return_, 1) := by decide +kernel
theorem dModel_note_0 : decode prog_14_method_95_code 0 = .ok (.iconst 0, 1) := by decide +kernel
theorem dModel_note_1 : decode prog_14_method_95_code 1 = .ok (.istore_n 1, 1) := by decide +kernel
theorem dModel_note_2 : decode prog_14_method_95_code 2 = .ok (.iload_n 1, 1) := by decide +kernel
theorem dModel_note_3 : decode prog_14_method_95_code 3 = .ok (.aload_n 0, 1) := by decide +kernel
theorem dModel_note_4 : decode prog_14_method_95_code 4 = .ok (.invokevirtual 624, 3) := by decide +kernel
theorem dModel_note_7 : decode prog_14_method_95_code 7 = .ok (.if_icmp .ge 55, 3) := by decide +kernel
theorem dModel_note_10 : decode prog_14_method_95_code 10 = .ok (.aload_n 0, 1) := by decide +kernel
theorem dModel_note_11 : decode prog_14_method_95_code 11 = .ok (.getfield 745, 3) := by decide +kernel
theorem dModel_note_14 : decode prog_14_method_95_code 14 = .ok (.bipush 6, 2) := by decide +kernel
theorem dModel_note_16 : decode prog_14_method_95_code 16 = .ok (.aload_n 0, 1) := by decide +kernel
theorem dModel_note_17 : decode prog_14_method_95_code 17 = .ok (.getfield 348, 3) := by decide +kernel
theorem dModel_note_20 : decode prog_14_method_95_code 20 = .ok (.imul, 1) := by decide +kernel
theorem dModel_note_21 : decode prog_14_method_95_code 21 = .ok (.iconst 2, 1) := by decide +kernel
theorem dModel_note_22 : decode prog_14_method_95_code 22 = .ok (.iload_n 1, 1) := by decide +kernel
theorem dModel_note_23 : decode prog_14_method_95_code 23 = .ok (.imul, 1) := by decide +kernel
theorem dModel_note_24 : decode prog_14_method_95_code 24 = .ok (.iadd, 1) := by decide +kernel
theorem dModel_note_25 : decode prog_14_method_95_code 25 = .ok (.aload_n 0, 1) := by decide +kernel
theorem dModel_note_26 : decode prog_14_method_95_code 26 = .ok (.getfield 513, 3) := by decide +kernel
theorem dModel_note_29 : decode prog_14_method_95_code 29 = .ok (.iload_n 1, 1) := by decide +kernel
theorem dModel_note_30 : decode prog_14_method_95_code 30 = .ok (.iaload, 1) := by decide +kernel
theorem dModel_note_31 : decode prog_14_method_95_code 31 = .ok (.iastore, 1) := by decide +kernel
theorem dModel_note_32 : decode prog_14_method_95_code 32 = .ok (.aload_n 0, 1) := by decide +kernel
theorem dModel_note_33 : decode prog_14_method_95_code 33 = .ok (.getfield 745, 3) := by decide +kernel
theorem dModel_note_36 : decode prog_14_method_95_code 36 = .ok (.bipush 6, 2) := by decide +kernel
theorem dModel_note_38 : decode prog_14_method_95_code 38 = .ok (.aload_n 0, 1) := by decide +kernel
theorem dModel_note_39 : decode prog_14_method_95_code 39 = .ok (.getfield 348, 3) := by decide +kernel
theorem dModel_note_42 : decode prog_14_method_95_code 42 = .ok (.imul, 1) := by decide +kernel
theorem dModel_note_43 : decode prog_14_method_95_code 43 = .ok (.iconst 2, 1) := by decide +kernel
theorem dModel_note_44 : decode prog_14_method_95_code 44 = .ok (.iload_n 1, 1) := by decide +kernel
theorem dModel_note_45 : decode prog_14_method_95_code 45 = .ok (.imul, 1) := by decide +kernel
theorem dModel_note_46 : decode prog_14_method_95_code 46 = .ok (.iadd, 1) := by decide +kernel
theorem dModel_note_47 : decode prog_14_method_95_code 47 = .ok (.iconst 1, 1) := by decide +kernel
theorem dModel_note_48 : decode prog_14_method_95_code 48 = .ok (.iadd, 1) := by decide +kernel
theorem dModel_note_49 : decode prog_14_method_95_code 49 = .ok (.aload_n 0, 1) := by decide +kernel
theorem dModel_note_50 : decode prog_14_method_95_code 50 = .ok (.getfield 627, 3) := by decide +kernel
theorem dModel_note_53 : decode prog_14_method_95_code 53 = .ok (.iload_n 1, 1) := by decide +kernel
theorem dModel_note_54 : decode prog_14_method_95_code 54 = .ok (.iaload, 1) := by decide +kernel
theorem dModel_note_55 : decode prog_14_method_95_code 55 = .ok (.iastore, 1) := by decide +kernel
theorem dModel_note_56 : decode prog_14_method_95_code 56 = .ok (.iinc 1 1, 3) := by decide +kernel
theorem dModel_note_59 : decode prog_14_method_95_code 59 = .ok (.goto (-57), 3) := by decide +kernel
theorem dModel_note_62 : decode prog_14_method_95_code 62 = .ok (.iconst 0, 1) := by decide +kernel
theorem dModel_note_63 : decode prog_14_method_95_code 63 = .ok (.istore_n 1, 1) := by decide +kernel
theorem dModel_note_64 : decode prog_14_method_95_code 64 = .ok (.iload_n 1, 1) := by decide +kernel
theorem dModel_note_65 : decode prog_14_method_95_code 65 = .ok (.aload_n 0, 1) := by decide +kernel
theorem dModel_note_66 : decode prog_14_method_95_code 66 = .ok (.invokevirtual 433, 3) := by decide +kernel
theorem dModel_note_69 : decode prog_14_method_95_code 69 = .ok (.if_icmp .ge 54, 3) := by decide +kernel
theorem dModel_note_72 : decode prog_14_method_95_code 72 = .ok (.aload_n 0, 1) := by decide +kernel
theorem dModel_note_73 : decode prog_14_method_95_code 73 = .ok (.getfield 748, 3) := by decide +kernel
theorem dModel_note_76 : decode prog_14_method_95_code 76 = .ok (.bipush 6, 2) := by decide +kernel
theorem dModel_note_78 : decode prog_14_method_95_code 78 = .ok (.aload_n 0, 1) := by decide +kernel
theorem dModel_note_79 : decode prog_14_method_95_code 79 = .ok (.getfield 348, 3) := by decide +kernel
theorem dModel_note_82 : decode prog_14_method_95_code 82 = .ok (.imul, 1) := by decide +kernel
theorem dModel_note_83 : decode prog_14_method_95_code 83 = .ok (.iconst 2, 1) := by decide +kernel
theorem dModel_note_84 : decode prog_14_method_95_code 84 = .ok (.iload_n 1, 1) := by decide +kernel
theorem dModel_note_85 : decode prog_14_method_95_code 85 = .ok (.imul, 1) := by decide +kernel
theorem dModel_note_86 : decode prog_14_method_95_code 86 = .ok (.iadd, 1) := by decide +kernel
theorem dModel_note_87 : decode prog_14_method_95_code 87 = .ok (.aload_n 0, 1) := by decide +kernel
theorem dModel_note_88 : decode prog_14_method_95_code 88 = .ok (.getfield 469, 3) := by decide +kernel
theorem dModel_note_91 : decode prog_14_method_95_code 91 = .ok (.iload_n 1, 1) := by decide +kernel
theorem dModel_note_92 : decode prog_14_method_95_code 92 = .ok (.iaload, 1) := by decide +kernel
theorem dModel_note_93 : decode prog_14_method_95_code 93 = .ok (.iastore, 1) := by decide +kernel
theorem dModel_note_94 : decode prog_14_method_95_code 94 = .ok (.aload_n 0, 1) := by decide +kernel
theorem dModel_note_95 : decode prog_14_method_95_code 95 = .ok (.getfield 748, 3) := by decide +kernel
theorem dModel_note_98 : decode prog_14_method_95_code 98 = .ok (.bipush 6, 2) := by decide +kernel
theorem dModel_note_100 : decode prog_14_method_95_code 100 = .ok (.aload_n 0, 1) := by decide +kernel
theorem dModel_note_101 : decode prog_14_method_95_code 101 = .ok (.getfield 348, 3) := by decide +kernel
theorem dModel_note_104 : decode prog_14_method_95_code 104 = .ok (.imul, 1) := by decide +kernel
theorem dModel_note_105 : decode prog_14_method_95_code 105 = .ok (.iconst 2, 1) := by decide +kernel
theorem dModel_note_106 : decode prog_14_method_95_code 106 = .ok (.iload_n 1, 1) := by decide +kernel
theorem dModel_note_107 : decode prog_14_method_95_code 107 = .ok (.imul, 1) := by decide +kernel
theorem dModel_note_108 : decode prog_14_method_95_code 108 = .ok (.iadd, 1) := by decide +kernel
theorem dModel_note_109 : decode prog_14_method_95_code 109 = .ok (.iconst 1, 1) := by decide +kernel
theorem dModel_note_110 : decode prog_14_method_95_code 110 = .ok (.iadd, 1) := by decide +kernel
theorem dModel_note_111 : decode prog_14_method_95_code 111 = .ok (.aload_n 0, 1) := by decide +kernel
theorem dModel_note_112 : decode prog_14_method_95_code 112 = .ok (.iload_n 1, 1) := by decide +kernel
theorem dModel_note_113 : decode prog_14_method_95_code 113 = .ok (.invokevirtual 466, 3) := by decide +kernel
theorem dModel_note_116 : decode prog_14_method_95_code 116 = .ok (.iastore, 1) := by decide +kernel
theorem dModel_note_117 : decode prog_14_method_95_code 117 = .ok (.iinc 1 1, 3) := by decide +kernel
theorem dModel_note_120 : decode prog_14_method_95_code 120 = .ok (.goto (-56), 3) := by decide +kernel
theorem dModel_note_123 : decode prog_14_method_95_code 123 = .ok (.iconst 0, 1) := by decide +kernel
theorem dModel_note_124 : decode prog_14_method_95_code 124 = .ok (.istore_n 1, 1) := by decide +kernel
theorem dModel_note_125 : decode prog_14_method_95_code 125 = .ok (.iload_n 1, 1) := by decide +kernel
theorem dModel_note_126 : decode prog_14_method_95_code 126 = .ok (.aload_n 0, 1) := by decide +kernel
theorem dModel_note_127 : decode prog_14_method_95_code 127 = .ok (.invokevirtual 488, 3) := by decide +kernel
theorem dModel_note_130 : decode prog_14_method_95_code 130 = .ok (.if_icmp .ge 78, 3) := by decide +kernel
theorem dModel_note_133 : decode prog_14_method_95_code 133 = .ok (.aload_n 0, 1) := by decide +kernel
theorem dModel_note_134 : decode prog_14_method_95_code 134 = .ok (.getfield 751, 3) := by decide +kernel
theorem dModel_note_137 : decode prog_14_method_95_code 137 = .ok (.bipush 15, 2) := by decide +kernel
theorem dModel_note_139 : decode prog_14_method_95_code 139 = .ok (.aload_n 0, 1) := by decide +kernel
theorem dModel_note_140 : decode prog_14_method_95_code 140 = .ok (.getfield 348, 3) := by decide +kernel
theorem dModel_note_143 : decode prog_14_method_95_code 143 = .ok (.imul, 1) := by decide +kernel
theorem dModel_note_144 : decode prog_14_method_95_code 144 = .ok (.iconst 3, 1) := by decide +kernel
theorem dModel_note_145 : decode prog_14_method_95_code 145 = .ok (.iload_n 1, 1) := by decide +kernel
theorem dModel_note_146 : decode prog_14_method_95_code 146 = .ok (.imul, 1) := by decide +kernel
theorem dModel_note_147 : decode prog_14_method_95_code 147 = .ok (.iadd, 1) := by decide +kernel
theorem dModel_note_148 : decode prog_14_method_95_code 148 = .ok (.aload_n 0, 1) := by decide +kernel
theorem dModel_note_149 : decode prog_14_method_95_code 149 = .ok (.getfield 474, 3) := by decide +kernel
theorem dModel_note_152 : decode prog_14_method_95_code 152 = .ok (.iload_n 1, 1) := by decide +kernel
theorem dModel_note_153 : decode prog_14_method_95_code 153 = .ok (.iaload, 1) := by decide +kernel
theorem dModel_note_154 : decode prog_14_method_95_code 154 = .ok (.iastore, 1) := by decide +kernel
theorem dModel_note_155 : decode prog_14_method_95_code 155 = .ok (.aload_n 0, 1) := by decide +kernel
theorem dModel_note_156 : decode prog_14_method_95_code 156 = .ok (.getfield 751, 3) := by decide +kernel
theorem dModel_note_159 : decode prog_14_method_95_code 159 = .ok (.bipush 15, 2) := by decide +kernel
theorem dModel_note_161 : decode prog_14_method_95_code 161 = .ok (.aload_n 0, 1) := by decide +kernel
theorem dModel_note_162 : decode prog_14_method_95_code 162 = .ok (.getfield 348, 3) := by decide +kernel
theorem dModel_note_165 : decode prog_14_method_95_code 165 = .ok (.imul, 1) := by decide +kernel
theorem dModel_note_166 : decode prog_14_method_95_code 166 = .ok (.iconst 3, 1) := by decide +kernel
theorem dModel_note_167 : decode prog_14_method_95_code 167 = .ok (.iload_n 1, 1) := by decide +kernel
theorem dModel_note_168 : decode prog_14_method_95_code 168 = .ok (.imul, 1) := by decide +kernel
theorem dModel_note_169 : decode prog_14_method_95_code 169 = .ok (.iadd, 1) := by decide +kernel
theorem dModel_note_170 : decode prog_14_method_95_code 170 = .ok (.iconst 1, 1) := by decide +kernel
theorem dModel_note_171 : decode prog_14_method_95_code 171 = .ok (.iadd, 1) := by decide +kernel
theorem dModel_note_172 : decode prog_14_method_95_code 172 = .ok (.aload_n 0, 1) := by decide +kernel
theorem dModel_note_173 : decode prog_14_method_95_code 173 = .ok (.iload_n 1, 1) := by decide +kernel
theorem dModel_note_174 : decode prog_14_method_95_code 174 = .ok (.invokevirtual 497, 3) := by decide +kernel
theorem dModel_note_177 : decode prog_14_method_95_code 177 = .ok (.iastore, 1) := by decide +kernel
theorem dModel_note_178 : decode prog_14_method_95_code 178 = .ok (.aload_n 0, 1) := by decide +kernel
theorem dModel_note_179 : decode prog_14_method_95_code 179 = .ok (.getfield 751, 3) := by decide +kernel
theorem dModel_note_182 : decode prog_14_method_95_code 182 = .ok (.bipush 15, 2) := by decide +kernel
theorem dModel_note_184 : decode prog_14_method_95_code 184 = .ok (.aload_n 0, 1) := by decide +kernel
theorem dModel_note_185 : decode prog_14_method_95_code 185 = .ok (.getfield 348, 3) := by decide +kernel
theorem dModel_note_188 : decode prog_14_method_95_code 188 = .ok (.imul, 1) := by decide +kernel
theorem dModel_note_189 : decode prog_14_method_95_code 189 = .ok (.iconst 3, 1) := by decide +kernel
theorem dModel_note_190 : decode prog_14_method_95_code 190 = .ok (.iload_n 1, 1) := by decide +kernel
theorem dModel_note_191 : decode prog_14_method_95_code 191 = .ok (.imul, 1) := by decide +kernel
theorem dModel_note_192 : decode prog_14_method_95_code 192 = .ok (.iadd, 1) := by decide +kernel
theorem dModel_note_193 : decode prog_14_method_95_code 193 = .ok (.iconst 2, 1) := by decide +kernel
theorem dModel_note_194 : decode prog_14_method_95_code 194 = .ok (.iadd, 1) := by decide +kernel
theorem dModel_note_195 : decode prog_14_method_95_code 195 = .ok (.aload_n 0, 1) := by decide +kernel
theorem dModel_note_196 : decode prog_14_method_95_code 196 = .ok (.getfield 694, 3) := by decide +kernel
theorem dModel_note_199 : decode prog_14_method_95_code 199 = .ok (.iload_n 1, 1) := by decide +kernel
theorem dModel_note_200 : decode prog_14_method_95_code 200 = .ok (.iaload, 1) := by decide +kernel
theorem dModel_note_201 : decode prog_14_method_95_code 201 = .ok (.iastore, 1) := by decide +kernel
theorem dModel_note_202 : decode prog_14_method_95_code 202 = .ok (.iinc 1 1, 3) := by decide +kernel
theorem dModel_note_205 : decode prog_14_method_95_code 205 = .ok (.goto (-80), 3) := by decide +kernel
theorem dModel_note_208 : decode prog_14_method_95_code 208 = .ok (.iconst 0, 1) := by decide +kernel
theorem dModel_note_209 : decode prog_14_method_95_code 209 = .ok (.istore_n 1, 1) := by decide +kernel
theorem dModel_note_210 : decode prog_14_method_95_code 210 = .ok (.iload_n 1, 1) := by decide +kernel
theorem dModel_note_211 : decode prog_14_method_95_code 211 = .ok (.aload_n 0, 1) := by decide +kernel
theorem dModel_note_212 : decode prog_14_method_95_code 212 = .ok (.getfield 387, 3) := by decide +kernel
theorem dModel_note_215 : decode prog_14_method_95_code 215 = .ok (.if_icmp .ge 69, 3) := by decide +kernel
theorem dModel_note_218 : decode prog_14_method_95_code 218 = .ok (.aload_n 0, 1) := by decide +kernel
theorem dModel_note_219 : decode prog_14_method_95_code 219 = .ok (.getfield 754, 3) := by decide +kernel
theorem dModel_note_222 : decode prog_14_method_95_code 222 = .ok (.bipush 6, 2) := by decide +kernel
theorem dModel_note_224 : decode prog_14_method_95_code 224 = .ok (.aload_n 0, 1) := by decide +kernel
theorem dModel_note_225 : decode prog_14_method_95_code 225 = .ok (.getfield 348, 3) := by decide +kernel
theorem dModel_note_228 : decode prog_14_method_95_code 228 = .ok (.imul, 1) := by decide +kernel
theorem dModel_note_229 : decode prog_14_method_95_code 229 = .ok (.iload_n 1, 1) := by decide +kernel
theorem dModel_note_230 : decode prog_14_method_95_code 230 = .ok (.iadd, 1) := by decide +kernel
theorem dModel_note_231 : decode prog_14_method_95_code 231 = .ok (.aload_n 0, 1) := by decide +kernel
theorem dModel_note_232 : decode prog_14_method_95_code 232 = .ok (.getfield 578, 3) := by decide +kernel
theorem dModel_note_235 : decode prog_14_method_95_code 235 = .ok (.iload_n 1, 1) := by decide +kernel
theorem dModel_note_236 : decode prog_14_method_95_code 236 = .ok (.laload, 1) := by decide +kernel
theorem dModel_note_237 : decode prog_14_method_95_code 237 = .ok (.lastore, 1) := by decide +kernel
theorem dModel_note_238 : decode prog_14_method_95_code 238 = .ok (.aload_n 0, 1) := by decide +kernel
theorem dModel_note_239 : decode prog_14_method_95_code 239 = .ok (.getfield 757, 3) := by decide +kernel
theorem dModel_note_242 : decode prog_14_method_95_code 242 = .ok (.bipush 6, 2) := by decide +kernel
theorem dModel_note_244 : decode prog_14_method_95_code 244 = .ok (.aload_n 0, 1) := by decide +kernel
theorem dModel_note_245 : decode prog_14_method_95_code 245 = .ok (.getfield 348, 3) := by decide +kernel
theorem dModel_note_248 : decode prog_14_method_95_code 248 = .ok (.imul, 1) := by decide +kernel
theorem dModel_note_249 : decode prog_14_method_95_code 249 = .ok (.iload_n 1, 1) := by decide +kernel
theorem dModel_note_250 : decode prog_14_method_95_code 250 = .ok (.iadd, 1) := by decide +kernel
theorem dModel_note_251 : decode prog_14_method_95_code 251 = .ok (.aload_n 0, 1) := by decide +kernel
theorem dModel_note_252 : decode prog_14_method_95_code 252 = .ok (.getfield 688, 3) := by decide +kernel
theorem dModel_note_255 : decode prog_14_method_95_code 255 = .ok (.iload_n 1, 1) := by decide +kernel
theorem dModel_note_256 : decode prog_14_method_95_code 256 = .ok (.iaload, 1) := by decide +kernel
theorem dModel_note_257 : decode prog_14_method_95_code 257 = .ok (.iastore, 1) := by decide +kernel
theorem dModel_note_258 : decode prog_14_method_95_code 258 = .ok (.aload_n 0, 1) := by decide +kernel
theorem dModel_note_259 : decode prog_14_method_95_code 259 = .ok (.getfield 760, 3) := by decide +kernel
theorem dModel_note_262 : decode prog_14_method_95_code 262 = .ok (.bipush 6, 2) := by decide +kernel
theorem dModel_note_264 : decode prog_14_method_95_code 264 = .ok (.aload_n 0, 1) := by decide +kernel
theorem dModel_note_265 : decode prog_14_method_95_code 265 = .ok (.getfield 348, 3) := by decide +kernel
theorem dModel_note_268 : decode prog_14_method_95_code 268 = .ok (.imul, 1) := by decide +kernel
theorem dModel_note_269 : decode prog_14_method_95_code 269 = .ok (.iload_n 1, 1) := by decide +kernel
theorem dModel_note_270 : decode prog_14_method_95_code 270 = .ok (.iadd, 1) := by decide +kernel
theorem dModel_note_271 : decode prog_14_method_95_code 271 = .ok (.aload_n 0, 1) := by decide +kernel
theorem dModel_note_272 : decode prog_14_method_95_code 272 = .ok (.getfield 691, 3) := by decide +kernel
theorem dModel_note_275 : decode prog_14_method_95_code 275 = .ok (.iload_n 1, 1) := by decide +kernel
theorem dModel_note_276 : decode prog_14_method_95_code 276 = .ok (.laload, 1) := by decide +kernel
theorem dModel_note_277 : decode prog_14_method_95_code 277 = .ok (.lastore, 1) := by decide +kernel
theorem dModel_note_278 : decode prog_14_method_95_code 278 = .ok (.iinc 1 1, 3) := by decide +kernel
theorem dModel_note_281 : decode prog_14_method_95_code 281 = .ok (.goto (-71), 3) := by decide +kernel
theorem dModel_note_284 : decode prog_14_method_95_code 284 = .ok (.return_, 1) := by decide +kernel
theorem dModel_run_0 : decode prog_14_method_96_code 0 = .ok (.iload_n 1, 1) := by decide +kernel
theorem dModel_run_1 : decode prog_14_method_96_code 1 = .ok (.iconst 0, 1) := by decide +kernel
theorem dModel_run_2 : decode prog_14_method_96_code 2 = .ok (.iconst 3, 1) := by decide +kernel
theorem dModel_run_3 : decode prog_14_method_96_code 3 = .ok (.invokestatic 393, 3) := by decide +kernel
theorem dModel_run_6 : decode prog_14_method_96_code 6 = .ok (.ifCond .eq 14, 3) := by decide +kernel
theorem dModel_run_9 : decode prog_14_method_96_code 9 = .ok (.iload_n 2, 1) := by decide +kernel
theorem dModel_run_10 : decode prog_14_method_96_code 10 = .ok (.iconst 0, 1) := by decide +kernel
theorem dModel_run_11 : decode prog_14_method_96_code 11 = .ok (.sipush 240, 3) := by decide +kernel
theorem dModel_run_14 : decode prog_14_method_96_code 14 = .ok (.invokestatic 393, 3) := by decide +kernel
theorem dModel_run_17 : decode prog_14_method_96_code 17 = .ok (.ifCond .ne 5, 3) := by decide +kernel
theorem dModel_run_20 : decode prog_14_method_96_code 20 = .ok (.iconst (-1), 1) := by decide +kernel
theorem dModel_run_21 : decode prog_14_method_96_code 21 = .ok (.ireturn, 1) := by decide +kernel
theorem dModel_run_22 : decode prog_14_method_96_code 22 = .ok (.aload_n 0, 1) := by decide +kernel
theorem dModel_run_23 : decode prog_14_method_96_code 23 = .ok (.iload_n 1, 1) := by decide +kernel
theorem dModel_run_24 : decode prog_14_method_96_code 24 = .ok (.iload_n 2, 1) := by decide +kernel
theorem dModel_run_25 : decode prog_14_method_96_code 25 = .ok (.iload_n 3, 1) := by decide +kernel
theorem dModel_run_26 : decode prog_14_method_96_code 26 = .ok (.invokevirtual 763, 3) := by decide +kernel
theorem dModel_run_29 : decode prog_14_method_96_code 29 = .ok (.aload_n 0, 1) := by decide +kernel
theorem dModel_run_30 : decode prog_14_method_96_code 30 = .ok (.iconst 1, 1) := by decide +kernel
theorem dModel_run_31 : decode prog_14_method_96_code 31 = .ok (.putfield 172, 3) := by decide +kernel
theorem dModel_run_34 : decode prog_14_method_96_code 34 = .ok (.aload_n 0, 1) := by decide +kernel
theorem dModel_run_35 : decode prog_14_method_96_code 35 = .ok (.iload_n 2, 1) := by decide +kernel
theorem dModel_run_36 : decode prog_14_method_96_code 36 = .ok (.putfield 766, 3) := by decide +kernel
theorem dModel_run_39 : decode prog_14_method_96_code 39 = .ok (.aload_n 0, 1) := by decide +kernel
theorem dModel_run_40 : decode prog_14_method_96_code 40 = .ok (.aload_n 0, 1) := by decide +kernel
theorem dModel_run_41 : decode prog_14_method_96_code 41 = .ok (.getfield 387, 3) := by decide +kernel
theorem dModel_run_44 : decode prog_14_method_96_code 44 = .ok (.putfield 769, 3) := by decide +kernel
theorem dModel_run_47 : decode prog_14_method_96_code 47 = .ok (.aload_n 0, 1) := by decide +kernel
theorem dModel_run_48 : decode prog_14_method_96_code 48 = .ok (.iload_n 1, 1) := by decide +kernel
theorem dModel_run_49 : decode prog_14_method_96_code 49 = .ok (.iconst 5, 1) := by decide +kernel
theorem dModel_run_50 : decode prog_14_method_96_code 50 = .ok (.invokevirtual 297, 3) := by decide +kernel
theorem dModel_run_53 : decode prog_14_method_96_code 53 = .ok (.aload_n 0, 1) := by decide +kernel
theorem dModel_run_54 : decode prog_14_method_96_code 54 = .ok (.invokevirtual 772, 3) := by decide +kernel
theorem dModel_run_57 : decode prog_14_method_96_code 57 = .ok (.aload_n 0, 1) := by decide +kernel
theorem dModel_run_58 : decode prog_14_method_96_code 58 = .ok (.getfield 454, 3) := by decide +kernel
theorem dModel_run_61 : decode prog_14_method_96_code 61 = .ok (.ireturn, 1) := by decide +kernel
theorem dModel_waitMany_0 : decode prog_14_method_97_code 0 = .ok (.iconst 0, 1) := by decide +kernel
theorem dModel_waitMany_1 : decode prog_14_method_97_code 1 = .ok (.istore_n 1, 1) := by decide +kernel
theorem dModel_waitMany_2 : decode prog_14_method_97_code 2 = .ok (.iconst 0, 1) := by decide +kernel
theorem dModel_waitMany_3 : decode prog_14_method_97_code 3 = .ok (.istore_n 2, 1) := by decide +kernel
theorem dModel_waitMany_4 : decode prog_14_method_97_code 4 = .ok (.iload_n 2, 1) := by decide +kernel
theorem dModel_waitMany_5 : decode prog_14_method_97_code 5 = .ok (.aload_n 0, 1) := by decide +kernel
theorem dModel_waitMany_6 : decode prog_14_method_97_code 6 = .ok (.getfield 454, 3) := by decide +kernel
theorem dModel_waitMany_9 : decode prog_14_method_97_code 9 = .ok (.if_icmp .ge 25, 3) := by decide +kernel
theorem dModel_waitMany_12 : decode prog_14_method_97_code 12 = .ok (.iload_n 1, 1) := by decide +kernel
theorem dModel_waitMany_13 : decode prog_14_method_97_code 13 = .ok (.aload_n 0, 1) := by decide +kernel
theorem dModel_waitMany_14 : decode prog_14_method_97_code 14 = .ok (.iload_n 2, 1) := by decide +kernel
theorem dModel_waitMany_15 : decode prog_14_method_97_code 15 = .ok (.invokevirtual 460, 3) := by decide +kernel
theorem dModel_waitMany_18 : decode prog_14_method_97_code 18 = .ok (.ifCond .eq 7, 3) := by decide +kernel
theorem dModel_waitMany_21 : decode prog_14_method_97_code 21 = .ok (.iconst 1, 1) := by decide +kernel
theorem dModel_waitMany_22 : decode prog_14_method_97_code 22 = .ok (.goto 4, 3) := by decide +kernel
theorem dModel_waitMany_25 : decode prog_14_method_97_code 25 = .ok (.iconst 0, 1) := by decide +kernel
theorem dModel_waitMany_26 : decode prog_14_method_97_code 26 = .ok (.iadd, 1) := by decide +kernel
theorem dModel_waitMany_27 : decode prog_14_method_97_code 27 = .ok (.istore_n 1, 1) := by decide +kernel
theorem dModel_waitMany_28 : decode prog_14_method_97_code 28 = .ok (.iinc 2 1, 3) := by decide +kernel
theorem dModel_waitMany_31 : decode prog_14_method_97_code 31 = .ok (.goto (-27), 3) := by decide +kernel
theorem dModel_waitMany_34 : decode prog_14_method_97_code 34 = .ok (.iload_n 1, 1) := by decide +kernel
theorem dModel_waitMany_35 : decode prog_14_method_97_code 35 = .ok (.ireturn, 1) := by decide +kernel
theorem dModel_ran_0 : decode prog_14_method_98_code 0 = .ok (.aload_n 0, 1) := by decide +kernel
theorem dModel_ran_1 : decode prog_14_method_98_code 1 = .ok (.getfield 172, 3) := by decide +kernel
theorem dModel_ran_4 : decode prog_14_method_98_code 4 = .ok (.ifCond .ne 7, 3) := by decide +kernel
theorem dModel_ran_7 : decode prog_14_method_98_code 7 = .ok (.ldc2_w 775, 3) := by decide +kernel
theorem dModel_ran_10 : decode prog_14_method_98_code 10 = .ok (.lreturn, 1) := by decide +kernel
theorem dModel_ran_11 : decode prog_14_method_98_code 11 = .ok (.iload_n 1, 1) := by decide +kernel
theorem dModel_ran_12 : decode prog_14_method_98_code 12 = .ok (.tableswitch 118 0 10 #[60, 65, 70, 75, 80, 85, 90, 96, 102, 107, 112], 60) := by decide +kernel
theorem dModel_ran_72 : decode prog_14_method_98_code 72 = .ok (.aload_n 0, 1) := by decide +kernel
theorem dModel_ran_73 : decode prog_14_method_98_code 73 = .ok (.getfield 630, 3) := by decide +kernel
theorem dModel_ran_76 : decode prog_14_method_98_code 76 = .ok (.lreturn, 1) := by decide +kernel
theorem dModel_ran_77 : decode prog_14_method_98_code 77 = .ok (.aload_n 0, 1) := by decide +kernel
theorem dModel_ran_78 : decode prog_14_method_98_code 78 = .ok (.getfield 597, 3) := by decide +kernel
theorem dModel_ran_81 : decode prog_14_method_98_code 81 = .ok (.lreturn, 1) := by decide +kernel
theorem dModel_ran_82 : decode prog_14_method_98_code 82 = .ok (.aload_n 0, 1) := by decide +kernel
theorem dModel_ran_83 : decode prog_14_method_98_code 83 = .ok (.getfield 581, 3) := by decide +kernel
theorem dModel_ran_86 : decode prog_14_method_98_code 86 = .ok (.lreturn, 1) := by decide +kernel
theorem dModel_ran_87 : decode prog_14_method_98_code 87 = .ok (.aload_n 0, 1) := by decide +kernel
theorem dModel_ran_88 : decode prog_14_method_98_code 88 = .ok (.getfield 700, 3) := by decide +kernel
theorem dModel_ran_91 : decode prog_14_method_98_code 91 = .ok (.lreturn, 1) := by decide +kernel
theorem dModel_ran_92 : decode prog_14_method_98_code 92 = .ok (.aload_n 0, 1) := by decide +kernel
theorem dModel_ran_93 : decode prog_14_method_98_code 93 = .ok (.getfield 703, 3) := by decide +kernel
theorem dModel_ran_96 : decode prog_14_method_98_code 96 = .ok (.lreturn, 1) := by decide +kernel
theorem dModel_ran_97 : decode prog_14_method_98_code 97 = .ok (.aload_n 0, 1) := by decide +kernel
theorem dModel_ran_98 : decode prog_14_method_98_code 98 = .ok (.getfield 617, 3) := by decide +kernel
theorem dModel_ran_101 : decode prog_14_method_98_code 101 = .ok (.lreturn, 1) := by decide +kernel
theorem dModel_ran_102 : decode prog_14_method_98_code 102 = .ok (.aload_n 0, 1) := by decide +kernel
theorem dModel_ran_103 : decode prog_14_method_98_code 103 = .ok (.invokevirtual 777, 3) := by decide +kernel
theorem dModel_ran_106 : decode prog_14_method_98_code 106 = .ok (.i2l, 1) := by decide +kernel
theorem dModel_ran_107 : decode prog_14_method_98_code 107 = .ok (.lreturn, 1) := by decide +kernel
theorem dModel_ran_108 : decode prog_14_method_98_code 108 = .ok (.aload_n 0, 1) := by decide +kernel
theorem dModel_ran_109 : decode prog_14_method_98_code 109 = .ok (.invokevirtual 351, 3) := by decide +kernel
theorem dModel_ran_112 : decode prog_14_method_98_code 112 = .ok (.i2l, 1) := by decide +kernel
theorem dModel_ran_113 : decode prog_14_method_98_code 113 = .ok (.lreturn, 1) := by decide +kernel
theorem dModel_ran_114 : decode prog_14_method_98_code 114 = .ok (.aload_n 0, 1) := by decide +kernel
theorem dModel_ran_115 : decode prog_14_method_98_code 115 = .ok (.getfield 614, 3) := by decide +kernel
theorem dModel_ran_118 : decode prog_14_method_98_code 118 = .ok (.lreturn, 1) := by decide +kernel
theorem dModel_ran_119 : decode prog_14_method_98_code 119 = .ok (.aload_n 0, 1) := by decide +kernel
theorem dModel_ran_120 : decode prog_14_method_98_code 120 = .ok (.getfield 611, 3) := by decide +kernel
theorem dModel_ran_123 : decode prog_14_method_98_code 123 = .ok (.lreturn, 1) := by decide +kernel
theorem dModel_ran_124 : decode prog_14_method_98_code 124 = .ok (.aload_n 0, 1) := by decide +kernel
theorem dModel_ran_125 : decode prog_14_method_98_code 125 = .ok (.getfield 766, 3) := by decide +kernel
theorem dModel_ran_128 : decode prog_14_method_98_code 128 = .ok (.i2l, 1) := by decide +kernel
theorem dModel_ran_129 : decode prog_14_method_98_code 129 = .ok (.lreturn, 1) := by decide +kernel
theorem dModel_ran_130 : decode prog_14_method_98_code 130 = .ok (.ldc2_w 775, 3) := by decide +kernel
theorem dModel_ran_133 : decode prog_14_method_98_code 133 = .ok (.lreturn, 1) := by decide +kernel
theorem dModel_isRanMonth_0 : decode prog_14_method_99_code 0 = .ok (.aload_n 0, 1) := by decide +kernel
theorem dModel_isRanMonth_1 : decode prog_14_method_99_code 1 = .ok (.getfield 172, 3) := by decide +kernel
theorem dModel_isRanMonth_4 : decode prog_14_method_99_code 4 = .ok (.ifCond .eq 19, 3) := by decide +kernel
theorem dModel_isRanMonth_7 : decode prog_14_method_99_code 7 = .ok (.iload_n 1, 1) := by decide +kernel
theorem dModel_isRanMonth_8 : decode prog_14_method_99_code 8 = .ok (.ifCond .lt 15, 3) := by decide +kernel
theorem dModel_isRanMonth_11 : decode prog_14_method_99_code 11 = .ok (.iload_n 1, 1) := by decide +kernel
theorem dModel_isRanMonth_12 : decode prog_14_method_99_code 12 = .ok (.aload_n 0, 1) := by decide +kernel
theorem dModel_isRanMonth_13 : decode prog_14_method_99_code 13 = .ok (.getfield 766, 3) := by decide +kernel
theorem dModel_isRanMonth_16 : decode prog_14_method_99_code 16 = .ok (.if_icmp .ge 7, 3) := by decide +kernel
theorem dModel_isRanMonth_19 : decode prog_14_method_99_code 19 = .ok (.iconst 1, 1) := by decide +kernel
theorem dModel_isRanMonth_20 : decode prog_14_method_99_code 20 = .ok (.goto 4, 3) := by decide +kernel
theorem dModel_isRanMonth_23 : decode prog_14_method_99_code 23 = .ok (.iconst 0, 1) := by decide +kernel
theorem dModel_isRanMonth_24 : decode prog_14_method_99_code 24 = .ok (.ireturn, 1) := by decide +kernel
theorem dModel_fort_0 : decode prog_14_method_100_code 0 = .ok (.iload_n 1, 1) := by decide +kernel
theorem dModel_fort_1 : decode prog_14_method_100_code 1 = .ok (.iconst 0, 1) := by decide +kernel
theorem dModel_fort_2 : decode prog_14_method_100_code 2 = .ok (.aload_n 0, 1) := by decide +kernel
theorem dModel_fort_3 : decode prog_14_method_100_code 3 = .ok (.invokevirtual 624, 3) := by decide +kernel
theorem dModel_fort_6 : decode prog_14_method_100_code 6 = .ok (.iconst 1, 1) := by decide +kernel
theorem dModel_fort_7 : decode prog_14_method_100_code 7 = .ok (.isub, 1) := by decide +kernel
theorem dModel_fort_8 : decode prog_14_method_100_code 8 = .ok (.invokestatic 393, 3) := by decide +kernel
theorem dModel_fort_11 : decode prog_14_method_100_code 11 = .ok (.ifCond .eq 20, 3) := by decide +kernel
theorem dModel_fort_14 : decode prog_14_method_100_code 14 = .ok (.aload_n 0, 1) := by decide +kernel
theorem dModel_fort_15 : decode prog_14_method_100_code 15 = .ok (.iload_n 2, 1) := by decide +kernel
theorem dModel_fort_16 : decode prog_14_method_100_code 16 = .ok (.invokevirtual 780, 3) := by decide +kernel
theorem dModel_fort_19 : decode prog_14_method_100_code 19 = .ok (.ifCond .eq 12, 3) := by decide +kernel
theorem dModel_fort_22 : decode prog_14_method_100_code 22 = .ok (.iload_n 3, 1) := by decide +kernel
theorem dModel_fort_23 : decode prog_14_method_100_code 23 = .ok (.iconst 0, 1) := by decide +kernel
theorem dModel_fort_24 : decode prog_14_method_100_code 24 = .ok (.iconst 1, 1) := by decide +kernel
theorem dModel_fort_25 : decode prog_14_method_100_code 25 = .ok (.invokestatic 393, 3) := by decide +kernel
theorem dModel_fort_28 : decode prog_14_method_100_code 28 = .ok (.ifCond .ne 7, 3) := by decide +kernel
theorem dModel_fort_31 : decode prog_14_method_100_code 31 = .ok (.iconst (-1), 1) := by decide +kernel
theorem dModel_fort_32 : decode prog_14_method_100_code 32 = .ok (.goto 18, 3) := by decide +kernel
theorem dModel_fort_35 : decode prog_14_method_100_code 35 = .ok (.aload_n 0, 1) := by decide +kernel
theorem dModel_fort_36 : decode prog_14_method_100_code 36 = .ok (.getfield 745, 3) := by decide +kernel
theorem dModel_fort_39 : decode prog_14_method_100_code 39 = .ok (.bipush 6, 2) := by decide +kernel
theorem dModel_fort_41 : decode prog_14_method_100_code 41 = .ok (.iload_n 2, 1) := by decide +kernel
theorem dModel_fort_42 : decode prog_14_method_100_code 42 = .ok (.imul, 1) := by decide +kernel
theorem dModel_fort_43 : decode prog_14_method_100_code 43 = .ok (.iconst 2, 1) := by decide +kernel
theorem dModel_fort_44 : decode prog_14_method_100_code 44 = .ok (.iload_n 1, 1) := by decide +kernel
theorem dModel_fort_45 : decode prog_14_method_100_code 45 = .ok (.imul, 1) := by decide +kernel
theorem dModel_fort_46 : decode prog_14_method_100_code 46 = .ok (.iadd, 1) := by decide +kernel
theorem dModel_fort_47 : decode prog_14_method_100_code 47 = .ok (.iload_n 3, 1) := by decide +kernel
theorem dModel_fort_48 : decode prog_14_method_100_code 48 = .ok (.iadd, 1) := by decide +kernel
theorem dModel_fort_49 : decode prog_14_method_100_code 49 = .ok (.iaload, 1) := by decide +kernel
theorem dModel_fort_50 : decode prog_14_method_100_code 50 = .ok (.ireturn, 1) := by decide +kernel
theorem dModel_pan_0 : decode prog_14_method_101_code 0 = .ok (.iload_n 1, 1) := by decide +kernel
theorem dModel_pan_1 : decode prog_14_method_101_code 1 = .ok (.iconst 0, 1) := by decide +kernel
theorem dModel_pan_2 : decode prog_14_method_101_code 2 = .ok (.aload_n 0, 1) := by decide +kernel
theorem dModel_pan_3 : decode prog_14_method_101_code 3 = .ok (.invokevirtual 433, 3) := by decide +kernel
theorem dModel_pan_6 : decode prog_14_method_101_code 6 = .ok (.iconst 1, 1) := by decide +kernel
theorem dModel_pan_7 : decode prog_14_method_101_code 7 = .ok (.isub, 1) := by decide +kernel
theorem dModel_pan_8 : decode prog_14_method_101_code 8 = .ok (.invokestatic 393, 3) := by decide +kernel
theorem dModel_pan_11 : decode prog_14_method_101_code 11 = .ok (.ifCond .eq 20, 3) := by decide +kernel
theorem dModel_pan_14 : decode prog_14_method_101_code 14 = .ok (.aload_n 0, 1) := by decide +kernel
theorem dModel_pan_15 : decode prog_14_method_101_code 15 = .ok (.iload_n 2, 1) := by decide +kernel
theorem dModel_pan_16 : decode prog_14_method_101_code 16 = .ok (.invokevirtual 780, 3) := by decide +kernel
theorem dModel_pan_19 : decode prog_14_method_101_code 19 = .ok (.ifCond .eq 12, 3) := by decide +kernel
theorem dModel_pan_22 : decode prog_14_method_101_code 22 = .ok (.iload_n 3, 1) := by decide +kernel
theorem dModel_pan_23 : decode prog_14_method_101_code 23 = .ok (.iconst 0, 1) := by decide +kernel
theorem dModel_pan_24 : decode prog_14_method_101_code 24 = .ok (.iconst 1, 1) := by decide +kernel
theorem dModel_pan_25 : decode prog_14_method_101_code 25 = .ok (.invokestatic 393, 3) := by decide +kernel
theorem dModel_pan_28 : decode prog_14_method_101_code 28 = .ok (.ifCond .ne 7, 3) := by decide +kernel
theorem dModel_pan_31 : decode prog_14_method_101_code 31 = .ok (.iconst (-1), 1) := by decide +kernel
theorem dModel_pan_32 : decode prog_14_method_101_code 32 = .ok (.goto 18, 3) := by decide +kernel
theorem dModel_pan_35 : decode prog_14_method_101_code 35 = .ok (.aload_n 0, 1) := by decide +kernel
theorem dModel_pan_36 : decode prog_14_method_101_code 36 = .ok (.getfield 748, 3) := by decide +kernel
theorem dModel_pan_39 : decode prog_14_method_101_code 39 = .ok (.bipush 6, 2) := by decide +kernel
theorem dModel_pan_41 : decode prog_14_method_101_code 41 = .ok (.iload_n 2, 1) := by decide +kernel
theorem dModel_pan_42 : decode prog_14_method_101_code 42 = .ok (.imul, 1) := by decide +kernel
theorem dModel_pan_43 : decode prog_14_method_101_code 43 = .ok (.iconst 2, 1) := by decide +kernel
theorem dModel_pan_44 : decode prog_14_method_101_code 44 = .ok (.iload_n 1, 1) := by decide +kernel
theorem dModel_pan_45 : decode prog_14_method_101_code 45 = .ok (.imul, 1) := by decide +kernel
theorem dModel_pan_46 : decode prog_14_method_101_code 46 = .ok (.iadd, 1) := by decide +kernel
theorem dModel_pan_47 : decode prog_14_method_101_code 47 = .ok (.iload_n 3, 1) := by decide +kernel
theorem dModel_pan_48 : decode prog_14_method_101_code 48 = .ok (.iadd, 1) := by decide +kernel
theorem dModel_pan_49 : decode prog_14_method_101_code 49 = .ok (.iaload, 1) := by decide +kernel
theorem dModel_pan_50 : decode prog_14_method_101_code 50 = .ok (.ireturn, 1) := by decide +kernel
theorem dModel_town_0 : decode prog_14_method_102_code 0 = .ok (.iload_n 1, 1) := by decide +kernel
theorem dModel_town_1 : decode prog_14_method_102_code 1 = .ok (.iconst 0, 1) := by decide +kernel
theorem dModel_town_2 : decode prog_14_method_102_code 2 = .ok (.aload_n 0, 1) := by decide +kernel
theorem dModel_town_3 : decode prog_14_method_102_code 3 = .ok (.invokevirtual 488, 3) := by decide +kernel
theorem dModel_town_6 : decode prog_14_method_102_code 6 = .ok (.iconst 1, 1) := by decide +kernel
theorem dModel_town_7 : decode prog_14_method_102_code 7 = .ok (.isub, 1) := by decide +kernel
theorem dModel_town_8 : decode prog_14_method_102_code 8 = .ok (.invokestatic 393, 3) := by decide +kernel
theorem dModel_town_11 : decode prog_14_method_102_code 11 = .ok (.ifCond .eq 20, 3) := by decide +kernel
theorem dModel_town_14 : decode prog_14_method_102_code 14 = .ok (.aload_n 0, 1) := by decide +kernel
theorem dModel_town_15 : decode prog_14_method_102_code 15 = .ok (.iload_n 2, 1) := by decide +kernel
theorem dModel_town_16 : decode prog_14_method_102_code 16 = .ok (.invokevirtual 780, 3) := by decide +kernel
theorem dModel_town_19 : decode prog_14_method_102_code 19 = .ok (.ifCond .eq 12, 3) := by decide +kernel
theorem dModel_town_22 : decode prog_14_method_102_code 22 = .ok (.iload_n 3, 1) := by decide +kernel
theorem dModel_town_23 : decode prog_14_method_102_code 23 = .ok (.iconst 0, 1) := by decide +kernel
theorem dModel_town_24 : decode prog_14_method_102_code 24 = .ok (.iconst 2, 1) := by decide +kernel
theorem dModel_town_25 : decode prog_14_method_102_code 25 = .ok (.invokestatic 393, 3) := by decide +kernel
theorem dModel_town_28 : decode prog_14_method_102_code 28 = .ok (.ifCond .ne 7, 3) := by decide +kernel
theorem dModel_town_31 : decode prog_14_method_102_code 31 = .ok (.iconst (-1), 1) := by decide +kernel
theorem dModel_town_32 : decode prog_14_method_102_code 32 = .ok (.goto 18, 3) := by decide +kernel
theorem dModel_town_35 : decode prog_14_method_102_code 35 = .ok (.aload_n 0, 1) := by decide +kernel
theorem dModel_town_36 : decode prog_14_method_102_code 36 = .ok (.getfield 751, 3) := by decide +kernel
theorem dModel_town_39 : decode prog_14_method_102_code 39 = .ok (.bipush 15, 2) := by decide +kernel
theorem dModel_town_41 : decode prog_14_method_102_code 41 = .ok (.iload_n 2, 1) := by decide +kernel
theorem dModel_town_42 : decode prog_14_method_102_code 42 = .ok (.imul, 1) := by decide +kernel
theorem dModel_town_43 : decode prog_14_method_102_code 43 = .ok (.iconst 3, 1) := by decide +kernel
theorem dModel_town_44 : decode prog_14_method_102_code 44 = .ok (.iload_n 1, 1) := by decide +kernel
theorem dModel_town_45 : decode prog_14_method_102_code 45 = .ok (.imul, 1) := by decide +kernel
theorem dModel_town_46 : decode prog_14_method_102_code 46 = .ok (.iadd, 1) := by decide +kernel
theorem dModel_town_47 : decode prog_14_method_102_code 47 = .ok (.iload_n 3, 1) := by decide +kernel
theorem dModel_town_48 : decode prog_14_method_102_code 48 = .ok (.iadd, 1) := by decide +kernel
theorem dModel_town_49 : decode prog_14_method_102_code 49 = .ok (.iaload, 1) := by decide +kernel
theorem dModel_town_50 : decode prog_14_method_102_code 50 = .ok (.ireturn, 1) := by decide +kernel
theorem dModel_book_0 : decode prog_14_method_103_code 0 = .ok (.aload_n 0, 1) := by decide +kernel
theorem dModel_book_1 : decode prog_14_method_103_code 1 = .ok (.iload_n 2, 1) := by decide +kernel
theorem dModel_book_2 : decode prog_14_method_103_code 2 = .ok (.invokevirtual 780, 3) := by decide +kernel
theorem dModel_book_5 : decode prog_14_method_103_code 5 = .ok (.ifCond .eq 17, 3) := by decide +kernel
theorem dModel_book_8 : decode prog_14_method_103_code 8 = .ok (.iload_n 1, 1) := by decide +kernel
theorem dModel_book_9 : decode prog_14_method_103_code 9 = .ok (.iconst 0, 1) := by decide +kernel
theorem dModel_book_10 : decode prog_14_method_103_code 10 = .ok (.aload_n 0, 1) := by decide +kernel
theorem dModel_book_11 : decode prog_14_method_103_code 11 = .ok (.getfield 769, 3) := by decide +kernel
theorem dModel_book_14 : decode prog_14_method_103_code 14 = .ok (.iconst 1, 1) := by decide +kernel
theorem dModel_book_15 : decode prog_14_method_103_code 15 = .ok (.isub, 1) := by decide +kernel
theorem dModel_book_16 : decode prog_14_method_103_code 16 = .ok (.invokestatic 393, 3) := by decide +kernel
theorem dModel_book_19 : decode prog_14_method_103_code 19 = .ok (.ifCond .ne 7, 3) := by decide +kernel
theorem dModel_book_22 : decode prog_14_method_103_code 22 = .ok (.ldc2_w 775, 3) := by decide +kernel
theorem dModel_book_25 : decode prog_14_method_103_code 25 = .ok (.lreturn, 1) := by decide +kernel
theorem dModel_book_26 : decode prog_14_method_103_code 26 = .ok (.iload_n 3, 1) := by decide +kernel
theorem dModel_book_27 : decode prog_14_method_103_code 27 = .ok (.ifCond .ne 17, 3) := by decide +kernel
theorem dModel_book_30 : decode prog_14_method_103_code 30 = .ok (.aload_n 0, 1) := by decide +kernel
theorem dModel_book_31 : decode prog_14_method_103_code 31 = .ok (.getfield 754, 3) := by decide +kernel
theorem dModel_book_34 : decode prog_14_method_103_code 34 = .ok (.bipush 6, 2) := by decide +kernel
theorem dModel_book_36 : decode prog_14_method_103_code 36 = .ok (.iload_n 2, 1) := by decide +kernel
theorem dModel_book_37 : decode prog_14_method_103_code 37 = .ok (.imul, 1) := by decide +kernel
theorem dModel_book_38 : decode prog_14_method_103_code 38 = .ok (.iload_n 1, 1) := by decide +kernel
theorem dModel_book_39 : decode prog_14_method_103_code 39 = .ok (.iadd, 1) := by decide +kernel
theorem dModel_book_40 : decode prog_14_method_103_code 40 = .ok (.laload, 1) := by decide +kernel
theorem dModel_book_41 : decode prog_14_method_103_code 41 = .ok (.goto 45, 3) := by decide +kernel
theorem dModel_book_44 : decode prog_14_method_103_code 44 = .ok (.iload_n 3, 1) := by decide +kernel
theorem dModel_book_45 : decode prog_14_method_103_code 45 = .ok (.iconst 1, 1) := by decide +kernel
theorem dModel_book_46 : decode prog_14_method_103_code 46 = .ok (.if_icmp .ne 18, 3) := by decide +kernel
theorem dModel_book_49 : decode prog_14_method_103_code 49 = .ok (.aload_n 0, 1) := by decide +kernel
theorem dModel_book_50 : decode prog_14_method_103_code 50 = .ok (.getfield 757, 3) := by decide +kernel
theorem dModel_book_53 : decode prog_14_method_103_code 53 = .ok (.bipush 6, 2) := by decide +kernel
theorem dModel_book_55 : decode prog_14_method_103_code 55 = .ok (.iload_n 2, 1) := by decide +kernel
theorem dModel_book_56 : decode prog_14_method_103_code 56 = .ok (.imul, 1) := by decide +kernel
theorem dModel_book_57 : decode prog_14_method_103_code 57 = .ok (.iload_n 1, 1) := by decide +kernel
theorem dModel_book_58 : decode prog_14_method_103_code 58 = .ok (.iadd, 1) := by decide +kernel
theorem dModel_book_59 : decode prog_14_method_103_code 59 = .ok (.iaload, 1) := by decide +kernel
theorem dModel_book_60 : decode prog_14_method_103_code 60 = .ok (.i2l, 1) := by decide +kernel
theorem dModel_book_61 : decode prog_14_method_103_code 61 = .ok (.goto 25, 3) := by decide +kernel
theorem dModel_book_64 : decode prog_14_method_103_code 64 = .ok (.iload_n 3, 1) := by decide +kernel
theorem dModel_book_65 : decode prog_14_method_103_code 65 = .ok (.iconst 2, 1) := by decide +kernel
theorem dModel_book_66 : decode prog_14_method_103_code 66 = .ok (.if_icmp .ne 17, 3) := by decide +kernel
theorem dModel_book_69 : decode prog_14_method_103_code 69 = .ok (.aload_n 0, 1) := by decide +kernel
theorem dModel_book_70 : decode prog_14_method_103_code 70 = .ok (.getfield 760, 3) := by decide +kernel
theorem dModel_book_73 : decode prog_14_method_103_code 73 = .ok (.bipush 6, 2) := by decide +kernel
theorem dModel_book_75 : decode prog_14_method_103_code 75 = .ok (.iload_n 2, 1) := by decide +kernel
theorem dModel_book_76 : decode prog_14_method_103_code 76 = .ok (.imul, 1) := by decide +kernel
theorem dModel_book_77 : decode prog_14_method_103_code 77 = .ok (.iload_n 1, 1) := by decide +kernel
theorem dModel_book_78 : decode prog_14_method_103_code 78 = .ok (.iadd, 1) := by decide +kernel
theorem dModel_book_79 : decode prog_14_method_103_code 79 = .ok (.laload, 1) := by decide +kernel
theorem dModel_book_80 : decode prog_14_method_103_code 80 = .ok (.goto 6, 3) := by decide +kernel
theorem dModel_book_83 : decode prog_14_method_103_code 83 = .ok (.ldc2_w 775, 3) := by decide +kernel
theorem dModel_book_86 : decode prog_14_method_103_code 86 = .ok (.lreturn, 1) := by decide +kernel
theorem dModel_paper_0 : decode prog_14_method_104_code 0 = .ok (.aload_n 0, 1) := by decide +kernel
theorem dModel_paper_1 : decode prog_14_method_104_code 1 = .ok (.getfield 172, 3) := by decide +kernel
theorem dModel_paper_4 : decode prog_14_method_104_code 4 = .ok (.ifCond .eq 15, 3) := by decide +kernel
theorem dModel_paper_7 : decode prog_14_method_104_code 7 = .ok (.iload_n 1, 1) := by decide +kernel
theorem dModel_paper_8 : decode prog_14_method_104_code 8 = .ok (.ifCond .lt 11, 3) := by decide +kernel
theorem dModel_paper_11 : decode prog_14_method_104_code 11 = .ok (.iload_n 1, 1) := by decide +kernel
theorem dModel_paper_12 : decode prog_14_method_104_code 12 = .ok (.aload_n 0, 1) := by decide +kernel
theorem dModel_paper_13 : decode prog_14_method_104_code 13 = .ok (.getfield 454, 3) := by decide +kernel
theorem dModel_paper_16 : decode prog_14_method_104_code 16 = .ok (.if_icmp .lt 5, 3) := by decide +kernel
theorem dModel_paper_19 : decode prog_14_method_104_code 19 = .ok (.iconst (-1), 1) := by decide +kernel
theorem dModel_paper_20 : decode prog_14_method_104_code 20 = .ok (.ireturn, 1) := by decide +kernel
theorem dModel_paper_21 : decode prog_14_method_104_code 21 = .ok (.iload_n 2, 1) := by decide +kernel
theorem dModel_paper_22 : decode prog_14_method_104_code 22 = .ok (.tableswitch 118 0 7 #[46, 53, 60, 67, 74, 81, 96, 103], 46) := by decide +kernel
theorem dModel_paper_68 : decode prog_14_method_104_code 68 = .ok (.aload_n 0, 1) := by decide +kernel
theorem dModel_paper_69 : decode prog_14_method_104_code 69 = .ok (.getfield 525, 3) := by decide +kernel
theorem dModel_paper_72 : decode prog_14_method_104_code 72 = .ok (.iload_n 1, 1) := by decide +kernel
theorem dModel_paper_73 : decode prog_14_method_104_code 73 = .ok (.iaload, 1) := by decide +kernel
theorem dModel_paper_74 : decode prog_14_method_104_code 74 = .ok (.ireturn, 1) := by decide +kernel
theorem dModel_paper_75 : decode prog_14_method_104_code 75 = .ok (.aload_n 0, 1) := by decide +kernel
theorem dModel_paper_76 : decode prog_14_method_104_code 76 = .ok (.getfield 457, 3) := by decide +kernel
theorem dModel_paper_79 : decode prog_14_method_104_code 79 = .ok (.iload_n 1, 1) := by decide +kernel
theorem dModel_paper_80 : decode prog_14_method_104_code 80 = .ok (.iaload, 1) := by decide +kernel
theorem dModel_paper_81 : decode prog_14_method_104_code 81 = .ok (.ireturn, 1) := by decide +kernel
theorem dModel_paper_82 : decode prog_14_method_104_code 82 = .ok (.aload_n 0, 1) := by decide +kernel
theorem dModel_paper_83 : decode prog_14_method_104_code 83 = .ok (.getfield 463, 3) := by decide +kernel
theorem dModel_paper_86 : decode prog_14_method_104_code 86 = .ok (.iload_n 1, 1) := by decide +kernel
theorem dModel_paper_87 : decode prog_14_method_104_code 87 = .ok (.iaload, 1) := by decide +kernel
theorem dModel_paper_88 : decode prog_14_method_104_code 88 = .ok (.ireturn, 1) := by decide +kernel
theorem dModel_paper_89 : decode prog_14_method_104_code 89 = .ok (.aload_n 0, 1) := by decide +kernel
theorem dModel_paper_90 : decode prog_14_method_104_code 90 = .ok (.getfield 528, 3) := by decide +kernel
theorem dModel_paper_93 : decode prog_14_method_104_code 93 = .ok (.iload_n 1, 1) := by decide +kernel
theorem dModel_paper_94 : decode prog_14_method_104_code 94 = .ok (.iaload, 1) := by decide +kernel
theorem dModel_paper_95 : decode prog_14_method_104_code 95 = .ok (.ireturn, 1) := by decide +kernel
theorem dModel_paper_96 : decode prog_14_method_104_code 96 = .ok (.aload_n 0, 1) := by decide +kernel
theorem dModel_paper_97 : decode prog_14_method_104_code 97 = .ok (.getfield 531, 3) := by decide +kernel
theorem dModel_paper_100 : decode prog_14_method_104_code 100 = .ok (.iload_n 1, 1) := by decide +kernel
theorem dModel_paper_101 : decode prog_14_method_104_code 101 = .ok (.iaload, 1) := by decide +kernel
theorem dModel_paper_102 : decode prog_14_method_104_code 102 = .ok (.ireturn, 1) := by decide +kernel
theorem dModel_paper_103 : decode prog_14_method_104_code 103 = .ok (.aload_n 0, 1) := by decide +kernel
theorem dModel_paper_104 : decode prog_14_method_104_code 104 = .ok (.getfield 534, 3) := by decide +kernel
theorem dModel_paper_107 : decode prog_14_method_104_code 107 = .ok (.iload_n 1, 1) := by decide +kernel
theorem dModel_paper_108 : decode prog_14_method_104_code 108 = .ok (.baload, 1) := by decide +kernel
theorem dModel_paper_109 : decode prog_14_method_104_code 109 = .ok (.ifCond .eq 7, 3) := by decide +kernel
theorem dModel_paper_112 : decode prog_14_method_104_code 112 = .ok (.iconst 1, 1) := by decide +kernel
theorem dModel_paper_113 : decode prog_14_method_104_code 113 = .ok (.goto 4, 3) := by decide +kernel
theorem dModel_paper_116 : decode prog_14_method_104_code 116 = .ok (.iconst 0, 1) := by decide +kernel
theorem dModel_paper_117 : decode prog_14_method_104_code 117 = .ok (.ireturn, 1) := by decide +kernel
theorem dModel_paper_118 : decode prog_14_method_104_code 118 = .ok (.aload_n 0, 1) := by decide +kernel
theorem dModel_paper_119 : decode prog_14_method_104_code 119 = .ok (.getfield 447, 3) := by decide +kernel
theorem dModel_paper_122 : decode prog_14_method_104_code 122 = .ok (.iload_n 1, 1) := by decide +kernel
theorem dModel_paper_123 : decode prog_14_method_104_code 123 = .ok (.iaload, 1) := by decide +kernel
theorem dModel_paper_124 : decode prog_14_method_104_code 124 = .ok (.ireturn, 1) := by decide +kernel
theorem dModel_paper_125 : decode prog_14_method_104_code 125 = .ok (.aload_n 0, 1) := by decide +kernel
theorem dModel_paper_126 : decode prog_14_method_104_code 126 = .ok (.getfield 450, 3) := by decide +kernel
theorem dModel_paper_129 : decode prog_14_method_104_code 129 = .ok (.iload_n 1, 1) := by decide +kernel
theorem dModel_paper_130 : decode prog_14_method_104_code 130 = .ok (.baload, 1) := by decide +kernel
theorem dModel_paper_131 : decode prog_14_method_104_code 131 = .ok (.ifCond .eq 7, 3) := by decide +kernel
theorem dModel_paper_134 : decode prog_14_method_104_code 134 = .ok (.iconst 1, 1) := by decide +kernel
theorem dModel_paper_135 : decode prog_14_method_104_code 135 = .ok (.goto 4, 3) := by decide +kernel
theorem dModel_paper_138 : decode prog_14_method_104_code 138 = .ok (.iconst 0, 1) := by decide +kernel
theorem dModel_paper_139 : decode prog_14_method_104_code 139 = .ok (.ireturn, 1) := by decide +kernel
theorem dModel_paper_140 : decode prog_14_method_104_code 140 = .ok (.iconst (-1), 1) := by decide +kernel
theorem dModel_paper_141 : decode prog_14_method_104_code 141 = .ok (.ireturn, 1) := by decide +kernel
theorem dModel_goOn_0 : decode prog_14_method_105_code 0 = .ok (.aload_n 0, 1) := by decide +kernel
theorem dModel_goOn_1 : decode prog_14_method_105_code 1 = .ok (.aload_n 0, 1) := by decide +kernel
theorem dModel_goOn_2 : decode prog_14_method_105_code 2 = .ok (.getfield 766, 3) := by decide +kernel
theorem dModel_goOn_5 : decode prog_14_method_105_code 5 = .ok (.putfield 348, 3) := by decide +kernel
theorem dModel_goOn_8 : decode prog_14_method_105_code 8 = .ok (.aload_n 0, 1) := by decide +kernel
theorem dModel_goOn_9 : decode prog_14_method_105_code 9 = .ok (.iconst 5, 1) := by decide +kernel
theorem dModel_goOn_10 : decode prog_14_method_105_code 10 = .ok (.putfield 516, 3) := by decide +kernel
theorem dModel_goOn_13 : decode prog_14_method_105_code 13 = .ok (.aload_n 0, 1) := by decide +kernel
theorem dModel_goOn_14 : decode prog_14_method_105_code 14 = .ok (.invokevirtual 715, 3) := by decide +kernel
theorem dModel_goOn_17 : decode prog_14_method_105_code 17 = .ok (.aload_n 0, 1) := by decide +kernel
theorem dModel_goOn_18 : decode prog_14_method_105_code 18 = .ok (.invokevirtual 730, 3) := by decide +kernel
theorem dModel_goOn_21 : decode prog_14_method_105_code 21 = .ok (.return_, 1) := by decide +kernel
theorem dModel_way_0 : decode prog_14_method_106_code 0 = .ok (.aload_n 0, 1) := by decide +kernel
theorem dModel_way_1 : decode prog_14_method_106_code 1 = .ok (.getfield 172, 3) := by decide +kernel
theorem dModel_way_4 : decode prog_14_method_106_code 4 = .ok (.ifCond .eq 17, 3) := by decide +kernel
theorem dModel_way_7 : decode prog_14_method_106_code 7 = .ok (.iload_n 1, 1) := by decide +kernel
theorem dModel_way_8 : decode prog_14_method_106_code 8 = .ok (.iconst 0, 1) := by decide +kernel
theorem dModel_way_9 : decode prog_14_method_106_code 9 = .ok (.aload_n 0, 1) := by decide +kernel
theorem dModel_way_10 : decode prog_14_method_106_code 10 = .ok (.getfield 769, 3) := by decide +kernel
theorem dModel_way_13 : decode prog_14_method_106_code 13 = .ok (.iconst 1, 1) := by decide +kernel
theorem dModel_way_14 : decode prog_14_method_106_code 14 = .ok (.isub, 1) := by decide +kernel
theorem dModel_way_15 : decode prog_14_method_106_code 15 = .ok (.invokestatic 393, 3) := by decide +kernel
theorem dModel_way_18 : decode prog_14_method_106_code 18 = .ok (.ifCond .ne 7, 3) := by decide +kernel
theorem dModel_way_21 : decode prog_14_method_106_code 21 = .ok (.ldc2_w 775, 3) := by decide +kernel
theorem dModel_way_24 : decode prog_14_method_106_code 24 = .ok (.lreturn, 1) := by decide +kernel
theorem dModel_way_25 : decode prog_14_method_106_code 25 = .ok (.aload_n 0, 1) := by decide +kernel
theorem dModel_way_26 : decode prog_14_method_106_code 26 = .ok (.invokevirtual 783, 3) := by decide +kernel
theorem dModel_way_29 : decode prog_14_method_106_code 29 = .ok (.aload_n 0, 1) := by decide +kernel
theorem dModel_way_30 : decode prog_14_method_106_code 30 = .ok (.iload_n 1, 1) := by decide +kernel
theorem dModel_way_31 : decode prog_14_method_106_code 31 = .ok (.invokevirtual 733, 3) := by decide +kernel
theorem dModel_way_34 : decode prog_14_method_106_code 34 = .ok (.ifCond .eq 7, 3) := by decide +kernel
theorem dModel_way_37 : decode prog_14_method_106_code 37 = .ok (.ldc2_w 775, 3) := by decide +kernel
theorem dModel_way_40 : decode prog_14_method_106_code 40 = .ok (.lreturn, 1) := by decide +kernel
theorem dModel_way_41 : decode prog_14_method_106_code 41 = .ok (.aload_n 0, 1) := by decide +kernel
theorem dModel_way_42 : decode prog_14_method_106_code 42 = .ok (.iload_n 1, 1) := by decide +kernel
theorem dModel_way_43 : decode prog_14_method_106_code 43 = .ok (.invokevirtual 685, 3) := by decide +kernel
theorem dModel_way_46 : decode prog_14_method_106_code 46 = .ok (.iload_n 2, 1) := by decide +kernel
theorem dModel_way_47 : decode prog_14_method_106_code 47 = .ok (.tableswitch 62 0 4 #[33, 39, 45, 51, 57], 33) := by decide +kernel
theorem dModel_way_80 : decode prog_14_method_106_code 80 = .ok (.aload_n 0, 1) := by decide +kernel
theorem dModel_way_81 : decode prog_14_method_106_code 81 = .ok (.getfield 636, 3) := by decide +kernel
theorem dModel_way_84 : decode prog_14_method_106_code 84 = .ok (.i2l, 1) := by decide +kernel
theorem dModel_way_85 : decode prog_14_method_106_code 85 = .ok (.lreturn, 1) := by decide +kernel
theorem dModel_way_86 : decode prog_14_method_106_code 86 = .ok (.aload_n 0, 1) := by decide +kernel
theorem dModel_way_87 : decode prog_14_method_106_code 87 = .ok (.getfield 639, 3) := by decide +kernel
theorem dModel_way_90 : decode prog_14_method_106_code 90 = .ok (.i2l, 1) := by decide +kernel
theorem dModel_way_91 : decode prog_14_method_106_code 91 = .ok (.lreturn, 1) := by decide +kernel
theorem dModel_way_92 : decode prog_14_method_106_code 92 = .ok (.aload_n 0, 1) := by decide +kernel
theorem dModel_way_93 : decode prog_14_method_106_code 93 = .ok (.getfield 642, 3) := by decide +kernel
theorem dModel_way_96 : decode prog_14_method_106_code 96 = .ok (.i2l, 1) := by decide +kernel
theorem dModel_way_97 : decode prog_14_method_106_code 97 = .ok (.lreturn, 1) := by decide +kernel
theorem dModel_way_98 : decode prog_14_method_106_code 98 = .ok (.aload_n 0, 1) := by decide +kernel
theorem dModel_way_99 : decode prog_14_method_106_code 99 = .ok (.getfield 645, 3) := by decide +kernel
theorem dModel_way_102 : decode prog_14_method_106_code 102 = .ok (.i2l, 1) := by decide +kernel
theorem dModel_way_103 : decode prog_14_method_106_code 103 = .ok (.lreturn, 1) := by decide +kernel
theorem dModel_way_104 : decode prog_14_method_106_code 104 = .ok (.aload_n 0, 1) := by decide +kernel
theorem dModel_way_105 : decode prog_14_method_106_code 105 = .ok (.getfield 633, 3) := by decide +kernel
theorem dModel_way_108 : decode prog_14_method_106_code 108 = .ok (.lreturn, 1) := by decide +kernel
theorem dModel_way_109 : decode prog_14_method_106_code 109 = .ok (.ldc2_w 775, 3) := by decide +kernel
theorem dModel_way_112 : decode prog_14_method_106_code 112 = .ok (.lreturn, 1) := by decide +kernel
theorem dModel_worth_0 : decode prog_14_method_107_code 0 = .ok (.aload_n 0, 1) := by decide +kernel
theorem dModel_worth_1 : decode prog_14_method_107_code 1 = .ok (.getfield 172, 3) := by decide +kernel
theorem dModel_worth_4 : decode prog_14_method_107_code 4 = .ok (.ifCond .eq 17, 3) := by decide +kernel
theorem dModel_worth_7 : decode prog_14_method_107_code 7 = .ok (.iload_n 1, 1) := by decide +kernel
theorem dModel_worth_8 : decode prog_14_method_107_code 8 = .ok (.iconst 0, 1) := by decide +kernel
theorem dModel_worth_9 : decode prog_14_method_107_code 9 = .ok (.aload_n 0, 1) := by decide +kernel
theorem dModel_worth_10 : decode prog_14_method_107_code 10 = .ok (.invokevirtual 433, 3) := by decide +kernel
theorem dModel_worth_13 : decode prog_14_method_107_code 13 = .ok (.iconst 1, 1) := by decide +kernel
theorem dModel_worth_14 : decode prog_14_method_107_code 14 = .ok (.isub, 1) := by decide +kernel
theorem dModel_worth_15 : decode prog_14_method_107_code 15 = .ok (.invokestatic 393, 3) := by decide +kernel
theorem dModel_worth_18 : decode prog_14_method_107_code 18 = .ok (.ifCond .ne 7, 3) := by decide +kernel
theorem dModel_worth_21 : decode prog_14_method_107_code 21 = .ok (.ldc2_w 483, 3) := by decide +kernel
theorem dModel_worth_24 : decode prog_14_method_107_code 24 = .ok (.lreturn, 1) := by decide +kernel
theorem dModel_worth_25 : decode prog_14_method_107_code 25 = .ok (.aload_n 0, 1) := by decide +kernel
theorem dModel_worth_26 : decode prog_14_method_107_code 26 = .ok (.invokevirtual 783, 3) := by decide +kernel
theorem dModel_worth_29 : decode prog_14_method_107_code 29 = .ok (.aload_n 0, 1) := by decide +kernel
theorem dModel_worth_30 : decode prog_14_method_107_code 30 = .ok (.iload_n 1, 1) := by decide +kernel
theorem dModel_worth_31 : decode prog_14_method_107_code 31 = .ok (.invokevirtual 509, 3) := by decide +kernel
theorem dModel_worth_34 : decode prog_14_method_107_code 34 = .ok (.lreturn, 1) := by decide +kernel
theorem dModel_tryOut_0 : decode prog_14_method_108_code 0 = .ok (.aload_n 0, 1) := by decide +kernel
theorem dModel_tryOut_1 : decode prog_14_method_108_code 1 = .ok (.iload_n 2, 1) := by decide +kernel
theorem dModel_tryOut_2 : decode prog_14_method_108_code 2 = .ok (.iload_n 3, 1) := by decide +kernel
theorem dModel_tryOut_3 : decode prog_14_method_108_code 3 = .ok (.iload 4, 2) := by decide +kernel
theorem dModel_tryOut_5 : decode prog_14_method_108_code 5 = .ok (.invokevirtual 763, 3) := by decide +kernel
theorem dModel_tryOut_8 : decode prog_14_method_108_code 8 = .ok (.aload_n 0, 1) := by decide +kernel
theorem dModel_tryOut_9 : decode prog_14_method_108_code 9 = .ok (.getfield 786, 3) := by decide +kernel
theorem dModel_tryOut_12 : decode prog_14_method_108_code 12 = .ok (.iload_n 1, 1) := by decide +kernel
theorem dModel_tryOut_13 : decode prog_14_method_108_code 13 = .ok (.aload_n 0, 1) := by decide +kernel
theorem dModel_tryOut_14 : decode prog_14_method_108_code 14 = .ok (.getfield 630, 3) := by decide +kernel
theorem dModel_tryOut_17 : decode prog_14_method_108_code 17 = .ok (.lastore, 1) := by decide +kernel
theorem dModel_tryOut_18 : decode prog_14_method_108_code 18 = .ok (.aload_n 0, 1) := by decide +kernel
theorem dModel_tryOut_19 : decode prog_14_method_108_code 19 = .ok (.getfield 789, 3) := by decide +kernel
theorem dModel_tryOut_22 : decode prog_14_method_108_code 22 = .ok (.iload_n 1, 1) := by decide +kernel
theorem dModel_tryOut_23 : decode prog_14_method_108_code 23 = .ok (.aload_n 0, 1) := by decide +kernel
theorem dModel_tryOut_24 : decode prog_14_method_108_code 24 = .ok (.getfield 614, 3) := by decide +kernel
theorem dModel_tryOut_27 : decode prog_14_method_108_code 27 = .ok (.lastore, 1) := by decide +kernel
theorem dModel_tryOut_28 : decode prog_14_method_108_code 28 = .ok (.aload_n 0, 1) := by decide +kernel
theorem dModel_tryOut_29 : decode prog_14_method_108_code 29 = .ok (.getfield 792, 3) := by decide +kernel
theorem dModel_tryOut_32 : decode prog_14_method_108_code 32 = .ok (.iload_n 1, 1) := by decide +kernel
theorem dModel_tryOut_33 : decode prog_14_method_108_code 33 = .ok (.aload_n 0, 1) := by decide +kernel
theorem dModel_tryOut_34 : decode prog_14_method_108_code 34 = .ok (.getfield 611, 3) := by decide +kernel
theorem dModel_tryOut_37 : decode prog_14_method_108_code 37 = .ok (.lastore, 1) := by decide +kernel
theorem dModel_tryOut_38 : decode prog_14_method_108_code 38 = .ok (.aload_n 0, 1) := by decide +kernel
theorem dModel_tryOut_39 : decode prog_14_method_108_code 39 = .ok (.getfield 795, 3) := by decide +kernel
theorem dModel_tryOut_42 : decode prog_14_method_108_code 42 = .ok (.iload_n 1, 1) := by decide +kernel
theorem dModel_tryOut_43 : decode prog_14_method_108_code 43 = .ok (.aload_n 0, 1) := by decide +kernel
theorem dModel_tryOut_44 : decode prog_14_method_108_code 44 = .ok (.getfield 581, 3) := by decide +kernel
theorem dModel_tryOut_47 : decode prog_14_method_108_code 47 = .ok (.lastore, 1) := by decide +kernel
theorem dModel_tryOut_48 : decode prog_14_method_108_code 48 = .ok (.return_, 1) := by decide +kernel
theorem dModel_judge_0 : decode prog_14_method_109_code 0 = .ok (.iload_n 1, 1) := by decide +kernel
theorem dModel_judge_1 : decode prog_14_method_109_code 1 = .ok (.iconst 0, 1) := by decide +kernel
theorem dModel_judge_2 : decode prog_14_method_109_code 2 = .ok (.iconst 3, 1) := by decide +kernel
theorem dModel_judge_3 : decode prog_14_method_109_code 3 = .ok (.invokestatic 393, 3) := by decide +kernel
theorem dModel_judge_6 : decode prog_14_method_109_code 6 = .ok (.ifCond .eq 23, 3) := by decide +kernel
theorem dModel_judge_9 : decode prog_14_method_109_code 9 = .ok (.iload_n 2, 1) := by decide +kernel
theorem dModel_judge_10 : decode prog_14_method_109_code 10 = .ok (.iconst 0, 1) := by decide +kernel
theorem dModel_judge_11 : decode prog_14_method_109_code 11 = .ok (.iconst 3, 1) := by decide +kernel
theorem dModel_judge_12 : decode prog_14_method_109_code 12 = .ok (.invokestatic 393, 3) := by decide +kernel
theorem dModel_judge_15 : decode prog_14_method_109_code 15 = .ok (.ifCond .eq 14, 3) := by decide +kernel
theorem dModel_judge_18 : decode prog_14_method_109_code 18 = .ok (.iload_n 3, 1) := by decide +kernel
theorem dModel_judge_19 : decode prog_14_method_109_code 19 = .ok (.iconst 0, 1) := by decide +kernel
theorem dModel_judge_20 : decode prog_14_method_109_code 20 = .ok (.sipush 240, 3) := by decide +kernel
theorem dModel_judge_23 : decode prog_14_method_109_code 23 = .ok (.invokestatic 393, 3) := by decide +kernel
theorem dModel_judge_26 : decode prog_14_method_109_code 26 = .ok (.ifCond .ne 5, 3) := by decide +kernel
theorem dModel_judge_29 : decode prog_14_method_109_code 29 = .ok (.iconst (-1), 1) := by decide +kernel
theorem dModel_judge_30 : decode prog_14_method_109_code 30 = .ok (.ireturn, 1) := by decide +kernel
theorem dModel_judge_31 : decode prog_14_method_109_code 31 = .ok (.aload_n 0, 1) := by decide +kernel
theorem dModel_judge_32 : decode prog_14_method_109_code 32 = .ok (.iconst 0, 1) := by decide +kernel
theorem dModel_judge_33 : decode prog_14_method_109_code 33 = .ok (.iload_n 1, 1) := by decide +kernel
theorem dModel_judge_34 : decode prog_14_method_109_code 34 = .ok (.iload_n 3, 1) := by decide +kernel
theorem dModel_judge_35 : decode prog_14_method_109_code 35 = .ok (.iload 4, 2) := by decide +kernel
theorem dModel_judge_37 : decode prog_14_method_109_code 37 = .ok (.invokevirtual 798, 3) := by decide +kernel
theorem dModel_judge_40 : decode prog_14_method_109_code 40 = .ok (.aload_n 0, 1) := by decide +kernel
theorem dModel_judge_41 : decode prog_14_method_109_code 41 = .ok (.iconst 1, 1) := by decide +kernel
theorem dModel_judge_42 : decode prog_14_method_109_code 42 = .ok (.iload_n 2, 1) := by decide +kernel
theorem dModel_judge_43 : decode prog_14_method_109_code 43 = .ok (.iload_n 3, 1) := by decide +kernel
theorem dModel_judge_44 : decode prog_14_method_109_code 44 = .ok (.iload 4, 2) := by decide +kernel
theorem dModel_judge_46 : decode prog_14_method_109_code 46 = .ok (.invokevirtual 798, 3) := by decide +kernel
theorem dModel_judge_49 : decode prog_14_method_109_code 49 = .ok (.aload_n 0, 1) := by decide +kernel
theorem dModel_judge_50 : decode prog_14_method_109_code 50 = .ok (.getfield 172, 3) := by decide +kernel
theorem dModel_judge_53 : decode prog_14_method_109_code 53 = .ok (.ifCond .eq 7, 3) := by decide +kernel
theorem dModel_judge_56 : decode prog_14_method_109_code 56 = .ok (.aload_n 0, 1) := by decide +kernel
theorem dModel_judge_57 : decode prog_14_method_109_code 57 = .ok (.invokevirtual 802, 3) := by decide +kernel
theorem dModel_judge_60 : decode prog_14_method_109_code 60 = .ok (.aload_n 0, 1) := by decide +kernel
theorem dModel_judge_61 : decode prog_14_method_109_code 61 = .ok (.getfield 786, 3) := by decide +kernel
theorem dModel_judge_64 : decode prog_14_method_109_code 64 = .ok (.iconst 0, 1) := by decide +kernel
theorem dModel_judge_65 : decode prog_14_method_109_code 65 = .ok (.laload, 1) := by decide +kernel
theorem dModel_judge_66 : decode prog_14_method_109_code 66 = .ok (.aload_n 0, 1) := by decide +kernel
theorem dModel_judge_67 : decode prog_14_method_109_code 67 = .ok (.getfield 786, 3) := by decide +kernel
theorem dModel_judge_70 : decode prog_14_method_109_code 70 = .ok (.iconst 1, 1) := by decide +kernel
theorem dModel_judge_71 : decode prog_14_method_109_code 71 = .ok (.laload, 1) := by decide +kernel
theorem dModel_judge_72 : decode prog_14_method_109_code 72 = .ok (.lcmp, 1) := by decide +kernel
theorem dModel_judge_73 : decode prog_14_method_109_code 73 = .ok (.ifCond .eq 25, 3) := by decide +kernel
theorem dModel_judge_76 : decode prog_14_method_109_code 76 = .ok (.aload_n 0, 1) := by decide +kernel
theorem dModel_judge_77 : decode prog_14_method_109_code 77 = .ok (.getfield 786, 3) := by decide +kernel
theorem dModel_judge_80 : decode prog_14_method_109_code 80 = .ok (.iconst 0, 1) := by decide +kernel
theorem dModel_judge_81 : decode prog_14_method_109_code 81 = .ok (.laload, 1) := by decide +kernel
theorem dModel_judge_82 : decode prog_14_method_109_code 82 = .ok (.aload_n 0, 1) := by decide +kernel
theorem dModel_judge_83 : decode prog_14_method_109_code 83 = .ok (.getfield 786, 3) := by decide +kernel
theorem dModel_judge_86 : decode prog_14_method_109_code 86 = .ok (.iconst 1, 1) := by decide +kernel
theorem dModel_judge_87 : decode prog_14_method_109_code 87 = .ok (.laload, 1) := by decide +kernel
theorem dModel_judge_88 : decode prog_14_method_109_code 88 = .ok (.lcmp, 1) := by decide +kernel
theorem dModel_judge_89 : decode prog_14_method_109_code 89 = .ok (.ifCond .ge 7, 3) := by decide +kernel
theorem dModel_judge_92 : decode prog_14_method_109_code 92 = .ok (.iconst 0, 1) := by decide +kernel
theorem dModel_judge_93 : decode prog_14_method_109_code 93 = .ok (.goto 4, 3) := by decide +kernel
theorem dModel_judge_96 : decode prog_14_method_109_code 96 = .ok (.iconst 1, 1) := by decide +kernel
theorem dModel_judge_97 : decode prog_14_method_109_code 97 = .ok (.ireturn, 1) := by decide +kernel
theorem dModel_judge_98 : decode prog_14_method_109_code 98 = .ok (.aload_n 0, 1) := by decide +kernel
theorem dModel_judge_99 : decode prog_14_method_109_code 99 = .ok (.getfield 792, 3) := by decide +kernel
theorem dModel_judge_102 : decode prog_14_method_109_code 102 = .ok (.iconst 0, 1) := by decide +kernel
theorem dModel_judge_103 : decode prog_14_method_109_code 103 = .ok (.laload, 1) := by decide +kernel
theorem dModel_judge_104 : decode prog_14_method_109_code 104 = .ok (.lconst 0, 1) := by decide +kernel
theorem dModel_judge_105 : decode prog_14_method_109_code 105 = .ok (.lcmp, 1) := by decide +kernel
theorem dModel_judge_106 : decode prog_14_method_109_code 106 = .ok (.ifCond .ne 7, 3) := by decide +kernel
theorem dModel_judge_109 : decode prog_14_method_109_code 109 = .ok (.iconst 1, 1) := by decide +kernel
theorem dModel_judge_110 : decode prog_14_method_109_code 110 = .ok (.goto 4, 3) := by decide +kernel
theorem dModel_judge_113 : decode prog_14_method_109_code 113 = .ok (.iconst 0, 1) := by decide +kernel
theorem dModel_judge_114 : decode prog_14_method_109_code 114 = .ok (.aload_n 0, 1) := by decide +kernel
theorem dModel_judge_115 : decode prog_14_method_109_code 115 = .ok (.getfield 792, 3) := by decide +kernel
theorem dModel_judge_118 : decode prog_14_method_109_code 118 = .ok (.iconst 1, 1) := by decide +kernel
theorem dModel_judge_119 : decode prog_14_method_109_code 119 = .ok (.laload, 1) := by decide +kernel
theorem dModel_judge_120 : decode prog_14_method_109_code 120 = .ok (.lconst 0, 1) := by decide +kernel
theorem dModel_judge_121 : decode prog_14_method_109_code 121 = .ok (.lcmp, 1) := by decide +kernel
theorem dModel_judge_122 : decode prog_14_method_109_code 122 = .ok (.ifCond .ne 7, 3) := by decide +kernel
theorem dModel_judge_125 : decode prog_14_method_109_code 125 = .ok (.iconst 1, 1) := by decide +kernel
theorem dModel_judge_126 : decode prog_14_method_109_code 126 = .ok (.goto 4, 3) := by decide +kernel
theorem dModel_judge_129 : decode prog_14_method_109_code 129 = .ok (.iconst 0, 1) := by decide +kernel
theorem dModel_judge_130 : decode prog_14_method_109_code 130 = .ok (.if_icmp .eq 20, 3) := by decide +kernel
theorem dModel_judge_133 : decode prog_14_method_109_code 133 = .ok (.aload_n 0, 1) := by decide +kernel
theorem dModel_judge_134 : decode prog_14_method_109_code 134 = .ok (.getfield 792, 3) := by decide +kernel
theorem dModel_judge_137 : decode prog_14_method_109_code 137 = .ok (.iconst 0, 1) := by decide +kernel
theorem dModel_judge_138 : decode prog_14_method_109_code 138 = .ok (.laload, 1) := by decide +kernel
theorem dModel_judge_139 : decode prog_14_method_109_code 139 = .ok (.lconst 0, 1) := by decide +kernel
theorem dModel_judge_140 : decode prog_14_method_109_code 140 = .ok (.lcmp, 1) := by decide +kernel
theorem dModel_judge_141 : decode prog_14_method_109_code 141 = .ok (.ifCond .le 7, 3) := by decide +kernel
theorem dModel_judge_144 : decode prog_14_method_109_code 144 = .ok (.iconst 0, 1) := by decide +kernel
theorem dModel_judge_145 : decode prog_14_method_109_code 145 = .ok (.goto 4, 3) := by decide +kernel
theorem dModel_judge_148 : decode prog_14_method_109_code 148 = .ok (.iconst 1, 1) := by decide +kernel
theorem dModel_judge_149 : decode prog_14_method_109_code 149 = .ok (.ireturn, 1) := by decide +kernel
theorem dModel_judge_150 : decode prog_14_method_109_code 150 = .ok (.aload_n 0, 1) := by decide +kernel
theorem dModel_judge_151 : decode prog_14_method_109_code 151 = .ok (.getfield 789, 3) := by decide +kernel
theorem dModel_judge_154 : decode prog_14_method_109_code 154 = .ok (.iconst 0, 1) := by decide +kernel
theorem dModel_judge_155 : decode prog_14_method_109_code 155 = .ok (.laload, 1) := by decide +kernel
theorem dModel_judge_156 : decode prog_14_method_109_code 156 = .ok (.aload_n 0, 1) := by decide +kernel
theorem dModel_judge_157 : decode prog_14_method_109_code 157 = .ok (.getfield 792, 3) := by decide +kernel
theorem dModel_judge_160 : decode prog_14_method_109_code 160 = .ok (.iconst 1, 1) := by decide +kernel
theorem dModel_judge_161 : decode prog_14_method_109_code 161 = .ok (.laload, 1) := by decide +kernel
theorem dModel_judge_162 : decode prog_14_method_109_code 162 = .ok (.lmul, 1) := by decide +kernel
theorem dModel_judge_163 : decode prog_14_method_109_code 163 = .ok (.lstore 5, 2) := by decide +kernel
theorem dModel_judge_165 : decode prog_14_method_109_code 165 = .ok (.aload_n 0, 1) := by decide +kernel
theorem dModel_judge_166 : decode prog_14_method_109_code 166 = .ok (.getfield 789, 3) := by decide +kernel
theorem dModel_judge_169 : decode prog_14_method_109_code 169 = .ok (.iconst 1, 1) := by decide +kernel
theorem dModel_judge_170 : decode prog_14_method_109_code 170 = .ok (.laload, 1) := by decide +kernel
theorem dModel_judge_171 : decode prog_14_method_109_code 171 = .ok (.aload_n 0, 1) := by decide +kernel
theorem dModel_judge_172 : decode prog_14_method_109_code 172 = .ok (.getfield 792, 3) := by decide +kernel
theorem dModel_judge_175 : decode prog_14_method_109_code 175 = .ok (.iconst 0, 1) := by decide +kernel
theorem dModel_judge_176 : decode prog_14_method_109_code 176 = .ok (.laload, 1) := by decide +kernel
theorem dModel_judge_177 : decode prog_14_method_109_code 177 = .ok (.lmul, 1) := by decide +kernel
theorem dModel_judge_178 : decode prog_14_method_109_code 178 = .ok (.lstore 7, 2) := by decide +kernel
theorem dModel_judge_180 : decode prog_14_method_109_code 180 = .ok (.lload 5, 2) := by decide +kernel
theorem dModel_judge_182 : decode prog_14_method_109_code 182 = .ok (.lload 7, 2) := by decide +kernel
theorem dModel_judge_184 : decode prog_14_method_109_code 184 = .ok (.lcmp, 1) := by decide +kernel
theorem dModel_judge_185 : decode prog_14_method_109_code 185 = .ok (.ifCond .eq 17, 3) := by decide +kernel
theorem dModel_judge_188 : decode prog_14_method_109_code 188 = .ok (.lload 5, 2) := by decide +kernel
theorem dModel_judge_190 : decode prog_14_method_109_code 190 = .ok (.lload 7, 2) := by decide +kernel
theorem dModel_judge_192 : decode prog_14_method_109_code 192 = .ok (.lcmp, 1) := by decide +kernel
theorem dModel_judge_193 : decode prog_14_method_109_code 193 = .ok (.ifCond .ge 7, 3) := by decide +kernel
theorem dModel_judge_196 : decode prog_14_method_109_code 196 = .ok (.iconst 0, 1) := by decide +kernel
theorem dModel_judge_197 : decode prog_14_method_109_code 197 = .ok (.goto 4, 3) := by decide +kernel
theorem dModel_judge_200 : decode prog_14_method_109_code 200 = .ok (.iconst 1, 1) := by decide +kernel
theorem dModel_judge_201 : decode prog_14_method_109_code 201 = .ok (.ireturn, 1) := by decide +kernel
theorem dModel_judge_202 : decode prog_14_method_109_code 202 = .ok (.aload_n 0, 1) := by decide +kernel
theorem dModel_judge_203 : decode prog_14_method_109_code 203 = .ok (.getfield 795, 3) := by decide +kernel
theorem dModel_judge_206 : decode prog_14_method_109_code 206 = .ok (.iconst 0, 1) := by decide +kernel
theorem dModel_judge_207 : decode prog_14_method_109_code 207 = .ok (.laload, 1) := by decide +kernel
theorem dModel_judge_208 : decode prog_14_method_109_code 208 = .ok (.aload_n 0, 1) := by decide +kernel
theorem dModel_judge_209 : decode prog_14_method_109_code 209 = .ok (.getfield 795, 3) := by decide +kernel
theorem dModel_judge_212 : decode prog_14_method_109_code 212 = .ok (.iconst 1, 1) := by decide +kernel
theorem dModel_judge_213 : decode prog_14_method_109_code 213 = .ok (.laload, 1) := by decide +kernel
theorem dModel_judge_214 : decode prog_14_method_109_code 214 = .ok (.lcmp, 1) := by decide +kernel
theorem dModel_judge_215 : decode prog_14_method_109_code 215 = .ok (.ifCond .le 7, 3) := by decide +kernel
theorem dModel_judge_218 : decode prog_14_method_109_code 218 = .ok (.iconst 0, 1) := by decide +kernel
theorem dModel_judge_219 : decode prog_14_method_109_code 219 = .ok (.goto 24, 3) := by decide +kernel
theorem dModel_judge_222 : decode prog_14_method_109_code 222 = .ok (.aload_n 0, 1) := by decide +kernel
theorem dModel_judge_223 : decode prog_14_method_109_code 223 = .ok (.getfield 795, 3) := by decide +kernel
theorem dModel_judge_226 : decode prog_14_method_109_code 226 = .ok (.iconst 0, 1) := by decide +kernel
theorem dModel_judge_227 : decode prog_14_method_109_code 227 = .ok (.laload, 1) := by decide +kernel
theorem dModel_judge_228 : decode prog_14_method_109_code 228 = .ok (.aload_n 0, 1) := by decide +kernel
theorem dModel_judge_229 : decode prog_14_method_109_code 229 = .ok (.getfield 795, 3) := by decide +kernel
theorem dModel_judge_232 : decode prog_14_method_109_code 232 = .ok (.iconst 1, 1) := by decide +kernel
theorem dModel_judge_233 : decode prog_14_method_109_code 233 = .ok (.laload, 1) := by decide +kernel
theorem dModel_judge_234 : decode prog_14_method_109_code 234 = .ok (.lcmp, 1) := by decide +kernel
theorem dModel_judge_235 : decode prog_14_method_109_code 235 = .ok (.ifCond .ge 7, 3) := by decide +kernel
theorem dModel_judge_238 : decode prog_14_method_109_code 238 = .ok (.iconst 1, 1) := by decide +kernel
theorem dModel_judge_239 : decode prog_14_method_109_code 239 = .ok (.goto 4, 3) := by decide +kernel
theorem dModel_judge_242 : decode prog_14_method_109_code 242 = .ok (.iconst 2, 1) := by decide +kernel
theorem dModel_judge_243 : decode prog_14_method_109_code 243 = .ok (.ireturn, 1) := by decide +kernel
theorem dModel_copy_0 : decode prog_14_method_110_code 0 = .ok (.iconst 0, 1) := by decide +kernel
theorem dModel_copy_1 : decode prog_14_method_110_code 1 = .ok (.istore_n 3, 1) := by decide +kernel
theorem dModel_copy_2 : decode prog_14_method_110_code 2 = .ok (.iload_n 3, 1) := by decide +kernel
theorem dModel_copy_3 : decode prog_14_method_110_code 3 = .ok (.iload_n 2, 1) := by decide +kernel
theorem dModel_copy_4 : decode prog_14_method_110_code 4 = .ok (.if_icmp .ge 15, 3) := by decide +kernel
theorem dModel_copy_7 : decode prog_14_method_110_code 7 = .ok (.aload_n 1, 1) := by decide +kernel
theorem dModel_copy_8 : decode prog_14_method_110_code 8 = .ok (.iload_n 3, 1) := by decide +kernel
theorem dModel_copy_9 : decode prog_14_method_110_code 9 = .ok (.aload_n 0, 1) := by decide +kernel
theorem dModel_copy_10 : decode prog_14_method_110_code 10 = .ok (.iload_n 3, 1) := by decide +kernel
theorem dModel_copy_11 : decode prog_14_method_110_code 11 = .ok (.iaload, 1) := by decide +kernel
theorem dModel_copy_12 : decode prog_14_method_110_code 12 = .ok (.iastore, 1) := by decide +kernel
theorem dModel_copy_13 : decode prog_14_method_110_code 13 = .ok (.iinc 3 1, 3) := by decide +kernel
theorem dModel_copy_16 : decode prog_14_method_110_code 16 = .ok (.goto (-14), 3) := by decide +kernel
theorem dModel_copy_19 : decode prog_14_method_110_code 19 = .ok (.return_, 1) := by decide +kernel
theorem dModel_copyLongs_0 : decode prog_14_method_111_code 0 = .ok (.iconst 0, 1) := by decide +kernel
theorem dModel_copyLongs_1 : decode prog_14_method_111_code 1 = .ok (.istore_n 3, 1) := by decide +kernel
theorem dModel_copyLongs_2 : decode prog_14_method_111_code 2 = .ok (.iload_n 3, 1) := by decide +kernel
theorem dModel_copyLongs_3 : decode prog_14_method_111_code 3 = .ok (.iload_n 2, 1) := by decide +kernel
theorem dModel_copyLongs_4 : decode prog_14_method_111_code 4 = .ok (.if_icmp .ge 15, 3) := by decide +kernel
theorem dModel_copyLongs_7 : decode prog_14_method_111_code 7 = .ok (.aload_n 1, 1) := by decide +kernel
theorem dModel_copyLongs_8 : decode prog_14_method_111_code 8 = .ok (.iload_n 3, 1) := by decide +kernel
theorem dModel_copyLongs_9 : decode prog_14_method_111_code 9 = .ok (.aload_n 0, 1) := by decide +kernel
theorem dModel_copyLongs_10 : decode prog_14_method_111_code 10 = .ok (.iload_n 3, 1) := by decide +kernel
theorem dModel_copyLongs_11 : decode prog_14_method_111_code 11 = .ok (.laload, 1) := by decide +kernel
theorem dModel_copyLongs_12 : decode prog_14_method_111_code 12 = .ok (.lastore, 1) := by decide +kernel
theorem dModel_copyLongs_13 : decode prog_14_method_111_code 13 = .ok (.iinc 3 1, 3) := by decide +kernel
theorem dModel_copyLongs_16 : decode prog_14_method_111_code 16 = .ok (.goto (-14), 3) := by decide +kernel
theorem dModel_copyLongs_19 : decode prog_14_method_111_code 19 = .ok (.return_, 1) := by decide +kernel
theorem dModel_copyTruths_0 : decode prog_14_method_112_code 0 = .ok (.iconst 0, 1) := by decide +kernel
theorem dModel_copyTruths_1 : decode prog_14_method_112_code 1 = .ok (.istore_n 3, 1) := by decide +kernel
theorem dModel_copyTruths_2 : decode prog_14_method_112_code 2 = .ok (.iload_n 3, 1) := by decide +kernel
theorem dModel_copyTruths_3 : decode prog_14_method_112_code 3 = .ok (.iload_n 2, 1) := by decide +kernel
theorem dModel_copyTruths_4 : decode prog_14_method_112_code 4 = .ok (.if_icmp .ge 15, 3) := by decide +kernel
theorem dModel_copyTruths_7 : decode prog_14_method_112_code 7 = .ok (.aload_n 1, 1) := by decide +kernel
theorem dModel_copyTruths_8 : decode prog_14_method_112_code 8 = .ok (.iload_n 3, 1) := by decide +kernel
theorem dModel_copyTruths_9 : decode prog_14_method_112_code 9 = .ok (.aload_n 0, 1) := by decide +kernel
theorem dModel_copyTruths_10 : decode prog_14_method_112_code 10 = .ok (.iload_n 3, 1) := by decide +kernel
theorem dModel_copyTruths_11 : decode prog_14_method_112_code 11 = .ok (.baload, 1) := by decide +kernel
theorem dModel_copyTruths_12 : decode prog_14_method_112_code 12 = .ok (.bastore, 1) := by decide +kernel
theorem dModel_copyTruths_13 : decode prog_14_method_112_code 13 = .ok (.iinc 3 1, 3) := by decide +kernel
theorem dModel_copyTruths_16 : decode prog_14_method_112_code 16 = .ok (.goto (-14), 3) := by decide +kernel
theorem dModel_copyTruths_19 : decode prog_14_method_112_code 19 = .ok (.return_, 1) := by decide +kernel
theorem dModel_keep_0 : decode prog_14_method_113_code 0 = .ok (.aload_n 0, 1) := by decide +kernel
theorem dModel_keep_1 : decode prog_14_method_113_code 1 = .ok (.aload_n 0, 1) := by decide +kernel
theorem dModel_keep_2 : decode prog_14_method_113_code 2 = .ok (.getfield 454, 3) := by decide +kernel
theorem dModel_keep_5 : decode prog_14_method_113_code 5 = .ok (.putfield 805, 3) := by decide +kernel
theorem dModel_keep_8 : decode prog_14_method_113_code 8 = .ok (.aload_n 0, 1) := by decide +kernel
theorem dModel_keep_9 : decode prog_14_method_113_code 9 = .ok (.getfield 525, 3) := by decide +kernel
theorem dModel_keep_12 : decode prog_14_method_113_code 12 = .ok (.aload_n 0, 1) := by decide +kernel
theorem dModel_keep_13 : decode prog_14_method_113_code 13 = .ok (.getfield 808, 3) := by decide +kernel
theorem dModel_keep_16 : decode prog_14_method_113_code 16 = .ok (.aload_n 0, 1) := by decide +kernel
theorem dModel_keep_17 : decode prog_14_method_113_code 17 = .ok (.getfield 454, 3) := by decide +kernel
theorem dModel_keep_20 : decode prog_14_method_113_code 20 = .ok (.invokestatic 811, 3) := by decide +kernel
theorem dModel_keep_23 : decode prog_14_method_113_code 23 = .ok (.aload_n 0, 1) := by decide +kernel
theorem dModel_keep_24 : decode prog_14_method_113_code 24 = .ok (.getfield 457, 3) := by decide +kernel
theorem dModel_keep_27 : decode prog_14_method_113_code 27 = .ok (.aload_n 0, 1) := by decide +kernel
theorem dModel_keep_28 : decode prog_14_method_113_code 28 = .ok (.getfield 815, 3) := by decide +kernel
theorem dModel_keep_31 : decode prog_14_method_113_code 31 = .ok (.aload_n 0, 1) := by decide +kernel
theorem dModel_keep_32 : decode prog_14_method_113_code 32 = .ok (.getfield 454, 3) := by decide +kernel
theorem dModel_keep_35 : decode prog_14_method_113_code 35 = .ok (.invokestatic 811, 3) := by decide +kernel
theorem dModel_keep_38 : decode prog_14_method_113_code 38 = .ok (.aload_n 0, 1) := by decide +kernel
theorem dModel_keep_39 : decode prog_14_method_113_code 39 = .ok (.getfield 463, 3) := by decide +kernel
theorem dModel_keep_42 : decode prog_14_method_113_code 42 = .ok (.aload_n 0, 1) := by decide +kernel
theorem dModel_keep_43 : decode prog_14_method_113_code 43 = .ok (.getfield 818, 3) := by decide +kernel
theorem dModel_keep_46 : decode prog_14_method_113_code 46 = .ok (.aload_n 0, 1) := by decide +kernel
theorem dModel_keep_47 : decode prog_14_method_113_code 47 = .ok (.getfield 454, 3) := by decide +kernel
theorem dModel_keep_50 : decode prog_14_method_113_code 50 = .ok (.invokestatic 811, 3) := by decide +kernel
theorem dModel_keep_53 : decode prog_14_method_113_code 53 = .ok (.aload_n 0, 1) := by decide +kernel
theorem dModel_keep_54 : decode prog_14_method_113_code 54 = .ok (.getfield 528, 3) := by decide +kernel
theorem dModel_keep_57 : decode prog_14_method_113_code 57 = .ok (.aload_n 0, 1) := by decide +kernel
theorem dModel_keep_58 : decode prog_14_method_113_code 58 = .ok (.getfield 821, 3) := by decide +kernel
theorem dModel_keep_61 : decode prog_14_method_113_code 61 = .ok (.aload_n 0, 1) := by decide +kernel
theorem dModel_keep_62 : decode prog_14_method_113_code 62 = .ok (.getfield 454, 3) := by decide +kernel
theorem dModel_keep_65 : decode prog_14_method_113_code 65 = .ok (.invokestatic 811, 3) := by decide +kernel
theorem dModel_keep_68 : decode prog_14_method_113_code 68 = .ok (.aload_n 0, 1) := by decide +kernel
theorem dModel_keep_69 : decode prog_14_method_113_code 69 = .ok (.getfield 531, 3) := by decide +kernel
theorem dModel_keep_72 : decode prog_14_method_113_code 72 = .ok (.aload_n 0, 1) := by decide +kernel
theorem dModel_keep_73 : decode prog_14_method_113_code 73 = .ok (.getfield 824, 3) := by decide +kernel
theorem dModel_keep_76 : decode prog_14_method_113_code 76 = .ok (.aload_n 0, 1) := by decide +kernel
theorem dModel_keep_77 : decode prog_14_method_113_code 77 = .ok (.getfield 454, 3) := by decide +kernel
theorem dModel_keep_80 : decode prog_14_method_113_code 80 = .ok (.invokestatic 811, 3) := by decide +kernel
theorem dModel_keep_83 : decode prog_14_method_113_code 83 = .ok (.aload_n 0, 1) := by decide +kernel
theorem dModel_keep_84 : decode prog_14_method_113_code 84 = .ok (.getfield 447, 3) := by decide +kernel
theorem dModel_keep_87 : decode prog_14_method_113_code 87 = .ok (.aload_n 0, 1) := by decide +kernel
theorem dModel_keep_88 : decode prog_14_method_113_code 88 = .ok (.getfield 827, 3) := by decide +kernel
theorem dModel_keep_91 : decode prog_14_method_113_code 91 = .ok (.aload_n 0, 1) := by decide +kernel
theorem dModel_keep_92 : decode prog_14_method_113_code 92 = .ok (.getfield 454, 3) := by decide +kernel
theorem dModel_keep_95 : decode prog_14_method_113_code 95 = .ok (.invokestatic 811, 3) := by decide +kernel
theorem dModel_keep_98 : decode prog_14_method_113_code 98 = .ok (.aload_n 0, 1) := by decide +kernel
theorem dModel_keep_99 : decode prog_14_method_113_code 99 = .ok (.getfield 534, 3) := by decide +kernel
theorem dModel_keep_102 : decode prog_14_method_113_code 102 = .ok (.aload_n 0, 1) := by decide +kernel
theorem dModel_keep_103 : decode prog_14_method_113_code 103 = .ok (.getfield 830, 3) := by decide +kernel
theorem dModel_keep_106 : decode prog_14_method_113_code 106 = .ok (.aload_n 0, 1) := by decide +kernel
theorem dModel_keep_107 : decode prog_14_method_113_code 107 = .ok (.getfield 454, 3) := by decide +kernel
theorem dModel_keep_110 : decode prog_14_method_113_code 110 = .ok (.invokestatic 833, 3) := by decide +kernel
theorem dModel_keep_113 : decode prog_14_method_113_code 113 = .ok (.aload_n 0, 1) := by decide +kernel
theorem dModel_keep_114 : decode prog_14_method_113_code 114 = .ok (.getfield 450, 3) := by decide +kernel
theorem dModel_keep_117 : decode prog_14_method_113_code 117 = .ok (.aload_n 0, 1) := by decide +kernel
theorem dModel_keep_118 : decode prog_14_method_113_code 118 = .ok (.getfield 837, 3) := by decide +kernel
theorem dModel_keep_121 : decode prog_14_method_113_code 121 = .ok (.aload_n 0, 1) := by decide +kernel
theorem dModel_keep_122 : decode prog_14_method_113_code 122 = .ok (.getfield 454, 3) := by decide +kernel
theorem dModel_keep_125 : decode prog_14_method_113_code 125 = .ok (.invokestatic 833, 3) := by decide +kernel
theorem dModel_keep_128 : decode prog_14_method_113_code 128 = .ok (.aload_n 0, 1) := by decide +kernel
theorem dModel_keep_129 : decode prog_14_method_113_code 129 = .ok (.getfield 513, 3) := by decide +kernel
theorem dModel_keep_132 : decode prog_14_method_113_code 132 = .ok (.aload_n 0, 1) := by decide +kernel
theorem dModel_keep_133 : decode prog_14_method_113_code 133 = .ok (.getfield 840, 3) := by decide +kernel
theorem dModel_keep_136 : decode prog_14_method_113_code 136 = .ok (.iconst 3, 1) := by decide +kernel
theorem dModel_keep_137 : decode prog_14_method_113_code 137 = .ok (.invokestatic 811, 3) := by decide +kernel
theorem dModel_keep_140 : decode prog_14_method_113_code 140 = .ok (.aload_n 0, 1) := by decide +kernel
theorem dModel_keep_141 : decode prog_14_method_113_code 141 = .ok (.getfield 469, 3) := by decide +kernel
theorem dModel_keep_144 : decode prog_14_method_113_code 144 = .ok (.aload_n 0, 1) := by decide +kernel
theorem dModel_keep_145 : decode prog_14_method_113_code 145 = .ok (.getfield 843, 3) := by decide +kernel
theorem dModel_keep_148 : decode prog_14_method_113_code 148 = .ok (.iconst 3, 1) := by decide +kernel
theorem dModel_keep_149 : decode prog_14_method_113_code 149 = .ok (.invokestatic 811, 3) := by decide +kernel
theorem dModel_keep_152 : decode prog_14_method_113_code 152 = .ok (.aload_n 0, 1) := by decide +kernel
theorem dModel_keep_153 : decode prog_14_method_113_code 153 = .ok (.getfield 474, 3) := by decide +kernel
theorem dModel_keep_156 : decode prog_14_method_113_code 156 = .ok (.aload_n 0, 1) := by decide +kernel
theorem dModel_keep_157 : decode prog_14_method_113_code 157 = .ok (.getfield 846, 3) := by decide +kernel
theorem dModel_keep_160 : decode prog_14_method_113_code 160 = .ok (.iconst 5, 1) := by decide +kernel
theorem dModel_keep_161 : decode prog_14_method_113_code 161 = .ok (.invokestatic 811, 3) := by decide +kernel
theorem dModel_keep_164 : decode prog_14_method_113_code 164 = .ok (.aload_n 0, 1) := by decide +kernel
theorem dModel_keep_165 : decode prog_14_method_113_code 165 = .ok (.getfield 584, 3) := by decide +kernel
theorem dModel_keep_168 : decode prog_14_method_113_code 168 = .ok (.aload_n 0, 1) := by decide +kernel
theorem dModel_keep_169 : decode prog_14_method_113_code 169 = .ok (.getfield 849, 3) := by decide +kernel
theorem dModel_keep_172 : decode prog_14_method_113_code 172 = .ok (.bipush 18, 2) := by decide +kernel
theorem dModel_keep_174 : decode prog_14_method_113_code 174 = .ok (.invokestatic 811, 3) := by decide +kernel
theorem dModel_keep_177 : decode prog_14_method_113_code 177 = .ok (.aload_n 0, 1) := by decide +kernel
theorem dModel_keep_178 : decode prog_14_method_113_code 178 = .ok (.getfield 522, 3) := by decide +kernel
theorem dModel_keep_181 : decode prog_14_method_113_code 181 = .ok (.aload_n 0, 1) := by decide +kernel
theorem dModel_keep_182 : decode prog_14_method_113_code 182 = .ok (.getfield 852, 3) := by decide +kernel
theorem dModel_keep_185 : decode prog_14_method_113_code 185 = .ok (.bipush 6, 2) := by decide +kernel
theorem dModel_keep_187 : decode prog_14_method_113_code 187 = .ok (.invokestatic 811, 3) := by decide +kernel
theorem dModel_keep_190 : decode prog_14_method_113_code 190 = .ok (.aload_n 0, 1) := by decide +kernel
theorem dModel_keep_191 : decode prog_14_method_113_code 191 = .ok (.getfield 578, 3) := by decide +kernel
theorem dModel_keep_194 : decode prog_14_method_113_code 194 = .ok (.aload_n 0, 1) := by decide +kernel
theorem dModel_keep_195 : decode prog_14_method_113_code 195 = .ok (.getfield 855, 3) := by decide +kernel
theorem dModel_keep_198 : decode prog_14_method_113_code 198 = .ok (.bipush 6, 2) := by decide +kernel
theorem dModel_keep_200 : decode prog_14_method_113_code 200 = .ok (.invokestatic 858, 3) := by decide +kernel
theorem dModel_keep_203 : decode prog_14_method_113_code 203 = .ok (.aload_n 0, 1) := by decide +kernel
theorem dModel_keep_204 : decode prog_14_method_113_code 204 = .ok (.getfield 745, 3) := by decide +kernel
theorem dModel_keep_207 : decode prog_14_method_113_code 207 = .ok (.aload_n 0, 1) := by decide +kernel
theorem dModel_keep_208 : decode prog_14_method_113_code 208 = .ok (.getfield 862, 3) := by decide +kernel
theorem dModel_keep_211 : decode prog_14_method_113_code 211 = .ok (.sipush 1440, 3) := by decide +kernel
theorem dModel_keep_214 : decode prog_14_method_113_code 214 = .ok (.invokestatic 811, 3) := by decide +kernel
theorem dModel_keep_217 : decode prog_14_method_113_code 217 = .ok (.aload_n 0, 1) := by decide +kernel
theorem dModel_keep_218 : decode prog_14_method_113_code 218 = .ok (.getfield 748, 3) := by decide +kernel
theorem dModel_keep_221 : decode prog_14_method_113_code 221 = .ok (.aload_n 0, 1) := by decide +kernel
theorem dModel_keep_222 : decode prog_14_method_113_code 222 = .ok (.getfield 865, 3) := by decide +kernel
theorem dModel_keep_225 : decode prog_14_method_113_code 225 = .ok (.sipush 1440, 3) := by decide +kernel
theorem dModel_keep_228 : decode prog_14_method_113_code 228 = .ok (.invokestatic 811, 3) := by decide +kernel
theorem dModel_keep_231 : decode prog_14_method_113_code 231 = .ok (.aload_n 0, 1) := by decide +kernel
theorem dModel_keep_232 : decode prog_14_method_113_code 232 = .ok (.getfield 751, 3) := by decide +kernel
theorem dModel_keep_235 : decode prog_14_method_113_code 235 = .ok (.aload_n 0, 1) := by decide +kernel
theorem dModel_keep_236 : decode prog_14_method_113_code 236 = .ok (.getfield 868, 3) := by decide +kernel
theorem dModel_keep_239 : decode prog_14_method_113_code 239 = .ok (.sipush 3600, 3) := by decide +kernel
theorem dModel_keep_242 : decode prog_14_method_113_code 242 = .ok (.invokestatic 811, 3) := by decide +kernel
theorem dModel_keep_245 : decode prog_14_method_113_code 245 = .ok (.aload_n 0, 1) := by decide +kernel
theorem dModel_keep_246 : decode prog_14_method_113_code 246 = .ok (.getfield 757, 3) := by decide +kernel
theorem dModel_keep_249 : decode prog_14_method_113_code 249 = .ok (.aload_n 0, 1) := by decide +kernel
theorem dModel_keep_250 : decode prog_14_method_113_code 250 = .ok (.getfield 871, 3) := by decide +kernel
theorem dModel_keep_253 : decode prog_14_method_113_code 253 = .ok (.sipush 1440, 3) := by decide +kernel
theorem dModel_keep_256 : decode prog_14_method_113_code 256 = .ok (.invokestatic 811, 3) := by decide +kernel
theorem dModel_keep_259 : decode prog_14_method_113_code 259 = .ok (.aload_n 0, 1) := by decide +kernel
theorem dModel_keep_260 : decode prog_14_method_113_code 260 = .ok (.getfield 754, 3) := by decide +kernel
theorem dModel_keep_263 : decode prog_14_method_113_code 263 = .ok (.aload_n 0, 1) := by decide +kernel
theorem dModel_keep_264 : decode prog_14_method_113_code 264 = .ok (.getfield 874, 3) := by decide +kernel
theorem dModel_keep_267 : decode prog_14_method_113_code 267 = .ok (.sipush 1440, 3) := by decide +kernel
theorem dModel_keep_270 : decode prog_14_method_113_code 270 = .ok (.invokestatic 858, 3) := by decide +kernel
theorem dModel_keep_273 : decode prog_14_method_113_code 273 = .ok (.aload_n 0, 1) := by decide +kernel
theorem dModel_keep_274 : decode prog_14_method_113_code 274 = .ok (.getfield 760, 3) := by decide +kernel
theorem dModel_keep_277 : decode prog_14_method_113_code 277 = .ok (.aload_n 0, 1) := by decide +kernel
theorem dModel_keep_278 : decode prog_14_method_113_code 278 = .ok (.getfield 877, 3) := by decide +kernel
theorem dModel_keep_281 : decode prog_14_method_113_code 281 = .ok (.sipush 1440, 3) := by decide +kernel
theorem dModel_keep_284 : decode prog_14_method_113_code 284 = .ok (.invokestatic 858, 3) := by decide +kernel
theorem dModel_keep_287 : decode prog_14_method_113_code 287 = .ok (.aload_n 0, 1) := by decide +kernel
theorem dModel_keep_288 : decode prog_14_method_113_code 288 = .ok (.getfield 880, 3) := by decide +kernel
theorem dModel_keep_291 : decode prog_14_method_113_code 291 = .ok (.iconst 0, 1) := by decide +kernel
theorem dModel_keep_292 : decode prog_14_method_113_code 292 = .ok (.aload_n 0, 1) := by decide +kernel
theorem dModel_keep_293 : decode prog_14_method_113_code 293 = .ok (.getfield 630, 3) := by decide +kernel
theorem dModel_keep_296 : decode prog_14_method_113_code 296 = .ok (.lastore, 1) := by decide +kernel
theorem dModel_keep_297 : decode prog_14_method_113_code 297 = .ok (.aload_n 0, 1) := by decide +kernel
theorem dModel_keep_298 : decode prog_14_method_113_code 298 = .ok (.getfield 880, 3) := by decide +kernel
theorem dModel_keep_301 : decode prog_14_method_113_code 301 = .ok (.iconst 1, 1) := by decide +kernel
theorem dModel_keep_302 : decode prog_14_method_113_code 302 = .ok (.aload_n 0, 1) := by decide +kernel
theorem dModel_keep_303 : decode prog_14_method_113_code 303 = .ok (.getfield 597, 3) := by decide +kernel
theorem dModel_keep_306 : decode prog_14_method_113_code 306 = .ok (.lastore, 1) := by decide +kernel
theorem dModel_keep_307 : decode prog_14_method_113_code 307 = .ok (.aload_n 0, 1) := by decide +kernel
theorem dModel_keep_308 : decode prog_14_method_113_code 308 = .ok (.getfield 880, 3) := by decide +kernel
theorem dModel_keep_311 : decode prog_14_method_113_code 311 = .ok (.iconst 2, 1) := by decide +kernel
theorem dModel_keep_312 : decode prog_14_method_113_code 312 = .ok (.aload_n 0, 1) := by decide +kernel
theorem dModel_keep_313 : decode prog_14_method_113_code 313 = .ok (.getfield 581, 3) := by decide +kernel
theorem dModel_keep_316 : decode prog_14_method_113_code 316 = .ok (.lastore, 1) := by decide +kernel
theorem dModel_keep_317 : decode prog_14_method_113_code 317 = .ok (.aload_n 0, 1) := by decide +kernel
theorem dModel_keep_318 : decode prog_14_method_113_code 318 = .ok (.getfield 880, 3) := by decide +kernel
theorem dModel_keep_321 : decode prog_14_method_113_code 321 = .ok (.iconst 3, 1) := by decide +kernel
theorem dModel_keep_322 : decode prog_14_method_113_code 322 = .ok (.aload_n 0, 1) := by decide +kernel
theorem dModel_keep_323 : decode prog_14_method_113_code 323 = .ok (.getfield 700, 3) := by decide +kernel
theorem dModel_keep_326 : decode prog_14_method_113_code 326 = .ok (.lastore, 1) := by decide +kernel
theorem dModel_keep_327 : decode prog_14_method_113_code 327 = .ok (.aload_n 0, 1) := by decide +kernel
theorem dModel_keep_328 : decode prog_14_method_113_code 328 = .ok (.getfield 880, 3) := by decide +kernel
theorem dModel_keep_331 : decode prog_14_method_113_code 331 = .ok (.iconst 4, 1) := by decide +kernel
theorem dModel_keep_332 : decode prog_14_method_113_code 332 = .ok (.aload_n 0, 1) := by decide +kernel
theorem dModel_keep_333 : decode prog_14_method_113_code 333 = .ok (.getfield 703, 3) := by decide +kernel
theorem dModel_keep_336 : decode prog_14_method_113_code 336 = .ok (.lastore, 1) := by decide +kernel
theorem dModel_keep_337 : decode prog_14_method_113_code 337 = .ok (.aload_n 0, 1) := by decide +kernel
theorem dModel_keep_338 : decode prog_14_method_113_code 338 = .ok (.getfield 880, 3) := by decide +kernel
theorem dModel_keep_341 : decode prog_14_method_113_code 341 = .ok (.iconst 5, 1) := by decide +kernel
theorem dModel_keep_342 : decode prog_14_method_113_code 342 = .ok (.aload_n 0, 1) := by decide +kernel
theorem dModel_keep_343 : decode prog_14_method_113_code 343 = .ok (.getfield 617, 3) := by decide +kernel
theorem dModel_keep_346 : decode prog_14_method_113_code 346 = .ok (.lastore, 1) := by decide +kernel
theorem dModel_keep_347 : decode prog_14_method_113_code 347 = .ok (.aload_n 0, 1) := by decide +kernel
theorem dModel_keep_348 : decode prog_14_method_113_code 348 = .ok (.getfield 880, 3) := by decide +kernel
theorem dModel_keep_351 : decode prog_14_method_113_code 351 = .ok (.bipush 6, 2) := by decide +kernel
theorem dModel_keep_353 : decode prog_14_method_113_code 353 = .ok (.aload_n 0, 1) := by decide +kernel
theorem dModel_keep_354 : decode prog_14_method_113_code 354 = .ok (.getfield 614, 3) := by decide +kernel
theorem dModel_keep_357 : decode prog_14_method_113_code 357 = .ok (.lastore, 1) := by decide +kernel
theorem dModel_keep_358 : decode prog_14_method_113_code 358 = .ok (.aload_n 0, 1) := by decide +kernel
theorem dModel_keep_359 : decode prog_14_method_113_code 359 = .ok (.getfield 880, 3) := by decide +kernel
theorem dModel_keep_362 : decode prog_14_method_113_code 362 = .ok (.bipush 7, 2) := by decide +kernel
theorem dModel_keep_364 : decode prog_14_method_113_code 364 = .ok (.aload_n 0, 1) := by decide +kernel
theorem dModel_keep_365 : decode prog_14_method_113_code 365 = .ok (.getfield 611, 3) := by decide +kernel
theorem dModel_keep_368 : decode prog_14_method_113_code 368 = .ok (.lastore, 1) := by decide +kernel
theorem dModel_keep_369 : decode prog_14_method_113_code 369 = .ok (.return_, 1) := by decide +kernel
theorem dModel_restore_0 : decode prog_14_method_114_code 0 = .ok (.aload_n 0, 1) := by decide +kernel
theorem dModel_restore_1 : decode prog_14_method_114_code 1 = .ok (.aload_n 0, 1) := by decide +kernel
theorem dModel_restore_2 : decode prog_14_method_114_code 2 = .ok (.getfield 805, 3) := by decide +kernel
theorem dModel_restore_5 : decode prog_14_method_114_code 5 = .ok (.putfield 454, 3) := by decide +kernel
theorem dModel_restore_8 : decode prog_14_method_114_code 8 = .ok (.aload_n 0, 1) := by decide +kernel
theorem dModel_restore_9 : decode prog_14_method_114_code 9 = .ok (.getfield 808, 3) := by decide +kernel
theorem dModel_restore_12 : decode prog_14_method_114_code 12 = .ok (.aload_n 0, 1) := by decide +kernel
theorem dModel_restore_13 : decode prog_14_method_114_code 13 = .ok (.getfield 525, 3) := by decide +kernel
theorem dModel_restore_16 : decode prog_14_method_114_code 16 = .ok (.aload_n 0, 1) := by decide +kernel
theorem dModel_restore_17 : decode prog_14_method_114_code 17 = .ok (.getfield 454, 3) := by decide +kernel
theorem dModel_restore_20 : decode prog_14_method_114_code 20 = .ok (.invokestatic 811, 3) := by decide +kernel
theorem dModel_restore_23 : decode prog_14_method_114_code 23 = .ok (.aload_n 0, 1) := by decide +kernel
theorem dModel_restore_24 : decode prog_14_method_114_code 24 = .ok (.getfield 815, 3) := by decide +kernel
theorem dModel_restore_27 : decode prog_14_method_114_code 27 = .ok (.aload_n 0, 1) := by decide +kernel
theorem dModel_restore_28 : decode prog_14_method_114_code 28 = .ok (.getfield 457, 3) := by decide +kernel
theorem dModel_restore_31 : decode prog_14_method_114_code 31 = .ok (.aload_n 0, 1) := by decide +kernel
theorem dModel_restore_32 : decode prog_14_method_114_code 32 = .ok (.getfield 454, 3) := by decide +kernel
theorem dModel_restore_35 : decode prog_14_method_114_code 35 = .ok (.invokestatic 811, 3) := by decide +kernel
theorem dModel_restore_38 : decode prog_14_method_114_code 38 = .ok (.aload_n 0, 1) := by decide +kernel
theorem dModel_restore_39 : decode prog_14_method_114_code 39 = .ok (.getfield 818, 3) := by decide +kernel
theorem dModel_restore_42 : decode prog_14_method_114_code 42 = .ok (.aload_n 0, 1) := by decide +kernel
theorem dModel_restore_43 : decode prog_14_method_114_code 43 = .ok (.getfield 463, 3) := by decide +kernel
theorem dModel_restore_46 : decode prog_14_method_114_code 46 = .ok (.aload_n 0, 1) := by decide +kernel
theorem dModel_restore_47 : decode prog_14_method_114_code 47 = .ok (.getfield 454, 3) := by decide +kernel
theorem dModel_restore_50 : decode prog_14_method_114_code 50 = .ok (.invokestatic 811, 3) := by decide +kernel
theorem dModel_restore_53 : decode prog_14_method_114_code 53 = .ok (.aload_n 0, 1) := by decide +kernel
theorem dModel_restore_54 : decode prog_14_method_114_code 54 = .ok (.getfield 821, 3) := by decide +kernel
theorem dModel_restore_57 : decode prog_14_method_114_code 57 = .ok (.aload_n 0, 1) := by decide +kernel
theorem dModel_restore_58 : decode prog_14_method_114_code 58 = .ok (.getfield 528, 3) := by decide +kernel
theorem dModel_restore_61 : decode prog_14_method_114_code 61 = .ok (.aload_n 0, 1) := by decide +kernel
theorem dModel_restore_62 : decode prog_14_method_114_code 62 = .ok (.getfield 454, 3) := by decide +kernel
theorem dModel_restore_65 : decode prog_14_method_114_code 65 = .ok (.invokestatic 811, 3) := by decide +kernel
theorem dModel_restore_68 : decode prog_14_method_114_code 68 = .ok (.aload_n 0, 1) := by decide +kernel
theorem dModel_restore_69 : decode prog_14_method_114_code 69 = .ok (.getfield 824, 3) := by decide +kernel
theorem dModel_restore_72 : decode prog_14_method_114_code 72 = .ok (.aload_n 0, 1) := by decide +kernel
theorem dModel_restore_73 : decode prog_14_method_114_code 73 = .ok (.getfield 531, 3) := by decide +kernel
theorem dModel_restore_76 : decode prog_14_method_114_code 76 = .ok (.aload_n 0, 1) := by decide +kernel
theorem dModel_restore_77 : decode prog_14_method_114_code 77 = .ok (.getfield 454, 3) := by decide +kernel
theorem dModel_restore_80 : decode prog_14_method_114_code 80 = .ok (.invokestatic 811, 3) := by decide +kernel
theorem dModel_restore_83 : decode prog_14_method_114_code 83 = .ok (.aload_n 0, 1) := by decide +kernel
theorem dModel_restore_84 : decode prog_14_method_114_code 84 = .ok (.getfield 827, 3) := by decide +kernel
theorem dModel_restore_87 : decode prog_14_method_114_code 87 = .ok (.aload_n 0, 1) := by decide +kernel
theorem dModel_restore_88 : decode prog_14_method_114_code 88 = .ok (.getfield 447, 3) := by decide +kernel
theorem dModel_restore_91 : decode prog_14_method_114_code 91 = .ok (.aload_n 0, 1) := by decide +kernel
theorem dModel_restore_92 : decode prog_14_method_114_code 92 = .ok (.getfield 454, 3) := by decide +kernel
theorem dModel_restore_95 : decode prog_14_method_114_code 95 = .ok (.invokestatic 811, 3) := by decide +kernel
theorem dModel_restore_98 : decode prog_14_method_114_code 98 = .ok (.aload_n 0, 1) := by decide +kernel
theorem dModel_restore_99 : decode prog_14_method_114_code 99 = .ok (.getfield 830, 3) := by decide +kernel
theorem dModel_restore_102 : decode prog_14_method_114_code 102 = .ok (.aload_n 0, 1) := by decide +kernel
theorem dModel_restore_103 : decode prog_14_method_114_code 103 = .ok (.getfield 534, 3) := by decide +kernel
theorem dModel_restore_106 : decode prog_14_method_114_code 106 = .ok (.aload_n 0, 1) := by decide +kernel
theorem dModel_restore_107 : decode prog_14_method_114_code 107 = .ok (.getfield 454, 3) := by decide +kernel
theorem dModel_restore_110 : decode prog_14_method_114_code 110 = .ok (.invokestatic 833, 3) := by decide +kernel
theorem dModel_restore_113 : decode prog_14_method_114_code 113 = .ok (.aload_n 0, 1) := by decide +kernel
theorem dModel_restore_114 : decode prog_14_method_114_code 114 = .ok (.getfield 837, 3) := by decide +kernel
theorem dModel_restore_117 : decode prog_14_method_114_code 117 = .ok (.aload_n 0, 1) := by decide +kernel
theorem dModel_restore_118 : decode prog_14_method_114_code 118 = .ok (.getfield 450, 3) := by decide +kernel
theorem dModel_restore_121 : decode prog_14_method_114_code 121 = .ok (.aload_n 0, 1) := by decide +kernel
theorem dModel_restore_122 : decode prog_14_method_114_code 122 = .ok (.getfield 454, 3) := by decide +kernel
theorem dModel_restore_125 : decode prog_14_method_114_code 125 = .ok (.invokestatic 833, 3) := by decide +kernel
theorem dModel_restore_128 : decode prog_14_method_114_code 128 = .ok (.aload_n 0, 1) := by decide +kernel
theorem dModel_restore_129 : decode prog_14_method_114_code 129 = .ok (.getfield 840, 3) := by decide +kernel
theorem dModel_restore_132 : decode prog_14_method_114_code 132 = .ok (.aload_n 0, 1) := by decide +kernel
theorem dModel_restore_133 : decode prog_14_method_114_code 133 = .ok (.getfield 513, 3) := by decide +kernel
theorem dModel_restore_136 : decode prog_14_method_114_code 136 = .ok (.iconst 3, 1) := by decide +kernel
theorem dModel_restore_137 : decode prog_14_method_114_code 137 = .ok (.invokestatic 811, 3) := by decide +kernel
theorem dModel_restore_140 : decode prog_14_method_114_code 140 = .ok (.aload_n 0, 1) := by decide +kernel
theorem dModel_restore_141 : decode prog_14_method_114_code 141 = .ok (.getfield 843, 3) := by decide +kernel
theorem dModel_restore_144 : decode prog_14_method_114_code 144 = .ok (.aload_n 0, 1) := by decide +kernel
theorem dModel_restore_145 : decode prog_14_method_114_code 145 = .ok (.getfield 469, 3) := by decide +kernel
theorem dModel_restore_148 : decode prog_14_method_114_code 148 = .ok (.iconst 3, 1) := by decide +kernel
theorem dModel_restore_149 : decode prog_14_method_114_code 149 = .ok (.invokestatic 811, 3) := by decide +kernel
theorem dModel_restore_152 : decode prog_14_method_114_code 152 = .ok (.aload_n 0, 1) := by decide +kernel
theorem dModel_restore_153 : decode prog_14_method_114_code 153 = .ok (.getfield 846, 3) := by decide +kernel
theorem dModel_restore_156 : decode prog_14_method_114_code 156 = .ok (.aload_n 0, 1) := by decide +kernel
theorem dModel_restore_157 : decode prog_14_method_114_code 157 = .ok (.getfield 474, 3) := by decide +kernel
theorem dModel_restore_160 : decode prog_14_method_114_code 160 = .ok (.iconst 5, 1) := by decide +kernel
theorem dModel_restore_161 : decode prog_14_method_114_code 161 = .ok (.invokestatic 811, 3) := by decide +kernel
theorem dModel_restore_164 : decode prog_14_method_114_code 164 = .ok (.aload_n 0, 1) := by decide +kernel
theorem dModel_restore_165 : decode prog_14_method_114_code 165 = .ok (.getfield 849, 3) := by decide +kernel
theorem dModel_restore_168 : decode prog_14_method_114_code 168 = .ok (.aload_n 0, 1) := by decide +kernel
theorem dModel_restore_169 : decode prog_14_method_114_code 169 = .ok (.getfield 584, 3) := by decide +kernel
theorem dModel_restore_172 : decode prog_14_method_114_code 172 = .ok (.bipush 18, 2) := by decide +kernel
theorem dModel_restore_174 : decode prog_14_method_114_code 174 = .ok (.invokestatic 811, 3) := by decide +kernel
theorem dModel_restore_177 : decode prog_14_method_114_code 177 = .ok (.aload_n 0, 1) := by decide +kernel
theorem dModel_restore_178 : decode prog_14_method_114_code 178 = .ok (.getfield 852, 3) := by decide +kernel
theorem dModel_restore_181 : decode prog_14_method_114_code 181 = .ok (.aload_n 0, 1) := by decide +kernel
theorem dModel_restore_182 : decode prog_14_method_114_code 182 = .ok (.getfield 522, 3) := by decide +kernel
theorem dModel_restore_185 : decode prog_14_method_114_code 185 = .ok (.bipush 6, 2) := by decide +kernel
theorem dModel_restore_187 : decode prog_14_method_114_code 187 = .ok (.invokestatic 811, 3) := by decide +kernel
theorem dModel_restore_190 : decode prog_14_method_114_code 190 = .ok (.aload_n 0, 1) := by decide +kernel
theorem dModel_restore_191 : decode prog_14_method_114_code 191 = .ok (.getfield 855, 3) := by decide +kernel
theorem dModel_restore_194 : decode prog_14_method_114_code 194 = .ok (.aload_n 0, 1) := by decide +kernel
theorem dModel_restore_195 : decode prog_14_method_114_code 195 = .ok (.getfield 578, 3) := by decide +kernel
theorem dModel_restore_198 : decode prog_14_method_114_code 198 = .ok (.bipush 6, 2) := by decide +kernel
theorem dModel_restore_200 : decode prog_14_method_114_code 200 = .ok (.invokestatic 858, 3) := by decide +kernel
theorem dModel_restore_203 : decode prog_14_method_114_code 203 = .ok (.aload_n 0, 1) := by decide +kernel
theorem dModel_restore_204 : decode prog_14_method_114_code 204 = .ok (.getfield 862, 3) := by decide +kernel
theorem dModel_restore_207 : decode prog_14_method_114_code 207 = .ok (.aload_n 0, 1) := by decide +kernel
theorem dModel_restore_208 : decode prog_14_method_114_code 208 = .ok (.getfield 745, 3) := by decide +kernel
theorem dModel_restore_211 : decode prog_14_method_114_code 211 = .ok (.sipush 1440, 3) := by decide +kernel
theorem dModel_restore_214 : decode prog_14_method_114_code 214 = .ok (.invokestatic 811, 3) := by decide +kernel
theorem dModel_restore_217 : decode prog_14_method_114_code 217 = .ok (.aload_n 0, 1) := by decide +kernel
theorem dModel_restore_218 : decode prog_14_method_114_code 218 = .ok (.getfield 865, 3) := by decide +kernel
theorem dModel_restore_221 : decode prog_14_method_114_code 221 = .ok (.aload_n 0, 1) := by decide +kernel
theorem dModel_restore_222 : decode prog_14_method_114_code 222 = .ok (.getfield 748, 3) := by decide +kernel
theorem dModel_restore_225 : decode prog_14_method_114_code 225 = .ok (.sipush 1440, 3) := by decide +kernel
theorem dModel_restore_228 : decode prog_14_method_114_code 228 = .ok (.invokestatic 811, 3) := by decide +kernel
theorem dModel_restore_231 : decode prog_14_method_114_code 231 = .ok (.aload_n 0, 1) := by decide +kernel
theorem dModel_restore_232 : decode prog_14_method_114_code 232 = .ok (.getfield 868, 3) := by decide +kernel
theorem dModel_restore_235 : decode prog_14_method_114_code 235 = .ok (.aload_n 0, 1) := by decide +kernel
theorem dModel_restore_236 : decode prog_14_method_114_code 236 = .ok (.getfield 751, 3) := by decide +kernel
theorem dModel_restore_239 : decode prog_14_method_114_code 239 = .ok (.sipush 3600, 3) := by decide +kernel
theorem dModel_restore_242 : decode prog_14_method_114_code 242 = .ok (.invokestatic 811, 3) := by decide +kernel
theorem dModel_restore_245 : decode prog_14_method_114_code 245 = .ok (.aload_n 0, 1) := by decide +kernel
theorem dModel_restore_246 : decode prog_14_method_114_code 246 = .ok (.getfield 871, 3) := by decide +kernel
theorem dModel_restore_249 : decode prog_14_method_114_code 249 = .ok (.aload_n 0, 1) := by decide +kernel
theorem dModel_restore_250 : decode prog_14_method_114_code 250 = .ok (.getfield 757, 3) := by decide +kernel
theorem dModel_restore_253 : decode prog_14_method_114_code 253 = .ok (.sipush 1440, 3) := by decide +kernel
theorem dModel_restore_256 : decode prog_14_method_114_code 256 = .ok (.invokestatic 811, 3) := by decide +kernel
theorem dModel_restore_259 : decode prog_14_method_114_code 259 = .ok (.aload_n 0, 1) := by decide +kernel
theorem dModel_restore_260 : decode prog_14_method_114_code 260 = .ok (.getfield 874, 3) := by decide +kernel
theorem dModel_restore_263 : decode prog_14_method_114_code 263 = .ok (.aload_n 0, 1) := by decide +kernel
theorem dModel_restore_264 : decode prog_14_method_114_code 264 = .ok (.getfield 754, 3) := by decide +kernel
theorem dModel_restore_267 : decode prog_14_method_114_code 267 = .ok (.sipush 1440, 3) := by decide +kernel
theorem dModel_restore_270 : decode prog_14_method_114_code 270 = .ok (.invokestatic 858, 3) := by decide +kernel
theorem dModel_restore_273 : decode prog_14_method_114_code 273 = .ok (.aload_n 0, 1) := by decide +kernel
theorem dModel_restore_274 : decode prog_14_method_114_code 274 = .ok (.getfield 877, 3) := by decide +kernel
theorem dModel_restore_277 : decode prog_14_method_114_code 277 = .ok (.aload_n 0, 1) := by decide +kernel
theorem dModel_restore_278 : decode prog_14_method_114_code 278 = .ok (.getfield 760, 3) := by decide +kernel
theorem dModel_restore_281 : decode prog_14_method_114_code 281 = .ok (.sipush 1440, 3) := by decide +kernel
theorem dModel_restore_284 : decode prog_14_method_114_code 284 = .ok (.invokestatic 858, 3) := by decide +kernel
theorem dModel_restore_287 : decode prog_14_method_114_code 287 = .ok (.aload_n 0, 1) := by decide +kernel
theorem dModel_restore_288 : decode prog_14_method_114_code 288 = .ok (.aload_n 0, 1) := by decide +kernel
theorem dModel_restore_289 : decode prog_14_method_114_code 289 = .ok (.getfield 880, 3) := by decide +kernel
theorem dModel_restore_292 : decode prog_14_method_114_code 292 = .ok (.iconst 0, 1) := by decide +kernel
theorem dModel_restore_293 : decode prog_14_method_114_code 293 = .ok (.laload, 1) := by decide +kernel
theorem dModel_restore_294 : decode prog_14_method_114_code 294 = .ok (.putfield 630, 3) := by decide +kernel
theorem dModel_restore_297 : decode prog_14_method_114_code 297 = .ok (.aload_n 0, 1) := by decide +kernel
theorem dModel_restore_298 : decode prog_14_method_114_code 298 = .ok (.aload_n 0, 1) := by decide +kernel
theorem dModel_restore_299 : decode prog_14_method_114_code 299 = .ok (.getfield 880, 3) := by decide +kernel
theorem dModel_restore_302 : decode prog_14_method_114_code 302 = .ok (.iconst 1, 1) := by decide +kernel
theorem dModel_restore_303 : decode prog_14_method_114_code 303 = .ok (.laload, 1) := by decide +kernel
theorem dModel_restore_304 : decode prog_14_method_114_code 304 = .ok (.putfield 597, 3) := by decide +kernel
theorem dModel_restore_307 : decode prog_14_method_114_code 307 = .ok (.aload_n 0, 1) := by decide +kernel
theorem dModel_restore_308 : decode prog_14_method_114_code 308 = .ok (.aload_n 0, 1) := by decide +kernel
theorem dModel_restore_309 : decode prog_14_method_114_code 309 = .ok (.getfield 880, 3) := by decide +kernel
theorem dModel_restore_312 : decode prog_14_method_114_code 312 = .ok (.iconst 2, 1) := by decide +kernel
theorem dModel_restore_313 : decode prog_14_method_114_code 313 = .ok (.laload, 1) := by decide +kernel
theorem dModel_restore_314 : decode prog_14_method_114_code 314 = .ok (.putfield 581, 3) := by decide +kernel
theorem dModel_restore_317 : decode prog_14_method_114_code 317 = .ok (.aload_n 0, 1) := by decide +kernel
theorem dModel_restore_318 : decode prog_14_method_114_code 318 = .ok (.aload_n 0, 1) := by decide +kernel
theorem dModel_restore_319 : decode prog_14_method_114_code 319 = .ok (.getfield 880, 3) := by decide +kernel
theorem dModel_restore_322 : decode prog_14_method_114_code 322 = .ok (.iconst 3, 1) := by decide +kernel
theorem dModel_restore_323 : decode prog_14_method_114_code 323 = .ok (.laload, 1) := by decide +kernel
theorem dModel_restore_324 : decode prog_14_method_114_code 324 = .ok (.putfield 700, 3) := by decide +kernel
theorem dModel_restore_327 : decode prog_14_method_114_code 327 = .ok (.aload_n 0, 1) := by decide +kernel
theorem dModel_restore_328 : decode prog_14_method_114_code 328 = .ok (.aload_n 0, 1) := by decide +kernel
theorem dModel_restore_329 : decode prog_14_method_114_code 329 = .ok (.getfield 880, 3) := by decide +kernel
theorem dModel_restore_332 : decode prog_14_method_114_code 332 = .ok (.iconst 4, 1) := by decide +kernel
theorem dModel_restore_333 : decode prog_14_method_114_code 333 = .ok (.laload, 1) := by decide +kernel
theorem dModel_restore_334 : decode prog_14_method_114_code 334 = .ok (.putfield 703, 3) := by decide +kernel
theorem dModel_restore_337 : decode prog_14_method_114_code 337 = .ok (.aload_n 0, 1) := by decide +kernel
theorem dModel_restore_338 : decode prog_14_method_114_code 338 = .ok (.aload_n 0, 1) := by decide +kernel
theorem dModel_restore_339 : decode prog_14_method_114_code 339 = .ok (.getfield 880, 3) := by decide +kernel
theorem dModel_restore_342 : decode prog_14_method_114_code 342 = .ok (.iconst 5, 1) := by decide +kernel
theorem dModel_restore_343 : decode prog_14_method_114_code 343 = .ok (.laload, 1) := by decide +kernel
theorem dModel_restore_344 : decode prog_14_method_114_code 344 = .ok (.putfield 617, 3) := by decide +kernel
theorem dModel_restore_347 : decode prog_14_method_114_code 347 = .ok (.aload_n 0, 1) := by decide +kernel
theorem dModel_restore_348 : decode prog_14_method_114_code 348 = .ok (.aload_n 0, 1) := by decide +kernel
theorem dModel_restore_349 : decode prog_14_method_114_code 349 = .ok (.getfield 880, 3) := by decide +kernel
theorem dModel_restore_352 : decode prog_14_method_114_code 352 = .ok (.bipush 6, 2) := by decide +kernel
theorem dModel_restore_354 : decode prog_14_method_114_code 354 = .ok (.laload, 1) := by decide +kernel
theorem dModel_restore_355 : decode prog_14_method_114_code 355 = .ok (.putfield 614, 3) := by decide +kernel
theorem dModel_restore_358 : decode prog_14_method_114_code 358 = .ok (.aload_n 0, 1) := by decide +kernel
theorem dModel_restore_359 : decode prog_14_method_114_code 359 = .ok (.aload_n 0, 1) := by decide +kernel
theorem dModel_restore_360 : decode prog_14_method_114_code 360 = .ok (.getfield 880, 3) := by decide +kernel
theorem dModel_restore_363 : decode prog_14_method_114_code 363 = .ok (.bipush 7, 2) := by decide +kernel
theorem dModel_restore_365 : decode prog_14_method_114_code 365 = .ok (.laload, 1) := by decide +kernel
theorem dModel_restore_366 : decode prog_14_method_114_code 366 = .ok (.putfield 611, 3) := by decide +kernel
theorem dModel_restore_369 : decode prog_14_method_114_code 369 = .ok (.return_, 1) := by decide +kernel
theorem dModel_about_0 : decode prog_14_method_115_code 0 = .ok (.iload_n 1, 1) := by decide +kernel
theorem dModel_about_1 : decode prog_14_method_115_code 1 = .ok (.tableswitch 92 0 7 #[47, 52, 57, 62, 72, 77, 82, 87], 47) := by decide +kernel
theorem dModel_about_48 : decode prog_14_method_115_code 48 = .ok (.aload_n 0, 1) := by decide +kernel
theorem dModel_about_49 : decode prog_14_method_115_code 49 = .ok (.invokevirtual 624, 3) := by decide +kernel
theorem dModel_about_52 : decode prog_14_method_115_code 52 = .ok (.ireturn, 1) := by decide +kernel
theorem dModel_about_53 : decode prog_14_method_115_code 53 = .ok (.aload_n 0, 1) := by decide +kernel
theorem dModel_about_54 : decode prog_14_method_115_code 54 = .ok (.invokevirtual 433, 3) := by decide +kernel
theorem dModel_about_57 : decode prog_14_method_115_code 57 = .ok (.ireturn, 1) := by decide +kernel
theorem dModel_about_58 : decode prog_14_method_115_code 58 = .ok (.aload_n 0, 1) := by decide +kernel
theorem dModel_about_59 : decode prog_14_method_115_code 59 = .ok (.invokevirtual 488, 3) := by decide +kernel
theorem dModel_about_62 : decode prog_14_method_115_code 62 = .ok (.ireturn, 1) := by decide +kernel
theorem dModel_about_63 : decode prog_14_method_115_code 63 = .ok (.aload_n 0, 1) := by decide +kernel
theorem dModel_about_64 : decode prog_14_method_115_code 64 = .ok (.getfield 153, 3) := by decide +kernel
theorem dModel_about_67 : decode prog_14_method_115_code 67 = .ok (.aload_n 0, 1) := by decide +kernel
theorem dModel_about_68 : decode prog_14_method_115_code 68 = .ok (.getfield 147, 3) := by decide +kernel
theorem dModel_about_71 : decode prog_14_method_115_code 71 = .ok (.iaload, 1) := by decide +kernel
theorem dModel_about_72 : decode prog_14_method_115_code 72 = .ok (.ireturn, 1) := by decide +kernel
theorem dModel_about_73 : decode prog_14_method_115_code 73 = .ok (.aload_n 0, 1) := by decide +kernel
theorem dModel_about_74 : decode prog_14_method_115_code 74 = .ok (.getfield 387, 3) := by decide +kernel
theorem dModel_about_77 : decode prog_14_method_115_code 77 = .ok (.ireturn, 1) := by decide +kernel
theorem dModel_about_78 : decode prog_14_method_115_code 78 = .ok (.aload_n 0, 1) := by decide +kernel
theorem dModel_about_79 : decode prog_14_method_115_code 79 = .ok (.getfield 169, 3) := by decide +kernel
theorem dModel_about_82 : decode prog_14_method_115_code 82 = .ok (.ireturn, 1) := by decide +kernel
theorem dModel_about_83 : decode prog_14_method_115_code 83 = .ok (.aload_n 0, 1) := by decide +kernel
theorem dModel_about_84 : decode prog_14_method_115_code 84 = .ok (.getfield 427, 3) := by decide +kernel
theorem dModel_about_87 : decode prog_14_method_115_code 87 = .ok (.ireturn, 1) := by decide +kernel
theorem dModel_about_88 : decode prog_14_method_115_code 88 = .ok (.aload_n 0, 1) := by decide +kernel
theorem dModel_about_89 : decode prog_14_method_115_code 89 = .ok (.getfield 137, 3) := by decide +kernel
theorem dModel_about_92 : decode prog_14_method_115_code 92 = .ok (.ireturn, 1) := by decide +kernel
theorem dModel_about_93 : decode prog_14_method_115_code 93 = .ok (.iload_n 1, 1) := by decide +kernel
theorem dModel_about_94 : decode prog_14_method_115_code 94 = .ok (.bipush 10, 2) := by decide +kernel
theorem dModel_about_96 : decode prog_14_method_115_code 96 = .ok (.if_icmp .lt 21, 3) := by decide +kernel
theorem dModel_about_99 : decode prog_14_method_115_code 99 = .ok (.iload_n 1, 1) := by decide +kernel
theorem dModel_about_100 : decode prog_14_method_115_code 100 = .ok (.bipush 14, 2) := by decide +kernel
theorem dModel_about_102 : decode prog_14_method_115_code 102 = .ok (.if_icmp .ge 15, 3) := by decide +kernel
theorem dModel_about_105 : decode prog_14_method_115_code 105 = .ok (.aload_n 0, 1) := by decide +kernel
theorem dModel_about_106 : decode prog_14_method_115_code 106 = .ok (.getfield 282, 3) := by decide +kernel
theorem dModel_about_109 : decode prog_14_method_115_code 109 = .ok (.iload_n 1, 1) := by decide +kernel
theorem dModel_about_110 : decode prog_14_method_115_code 110 = .ok (.bipush 10, 2) := by decide +kernel
theorem dModel_about_112 : decode prog_14_method_115_code 112 = .ok (.isub, 1) := by decide +kernel
theorem dModel_about_113 : decode prog_14_method_115_code 113 = .ok (.iaload, 1) := by decide +kernel
theorem dModel_about_114 : decode prog_14_method_115_code 114 = .ok (.goto 4, 3) := by decide +kernel
theorem dModel_about_117 : decode prog_14_method_115_code 117 = .ok (.iconst (-1), 1) := by decide +kernel
theorem dModel_about_118 : decode prog_14_method_115_code 118 = .ok (.ireturn, 1) := by decide +kernel
theorem dModel_feed_0 : decode prog_14_method_116_code 0 = .ok (.aload_n 0, 1) := by decide +kernel
theorem dModel_feed_1 : decode prog_14_method_116_code 1 = .ok (.getfield 137, 3) := by decide +kernel
theorem dModel_feed_4 : decode prog_14_method_116_code 4 = .ok (.bipush 20, 2) := by decide +kernel
theorem dModel_feed_6 : decode prog_14_method_116_code 6 = .ok (.iadd, 1) := by decide +kernel
theorem dModel_feed_7 : decode prog_14_method_116_code 7 = .ok (.sipush 1600, 3) := by decide +kernel
theorem dModel_feed_10 : decode prog_14_method_116_code 10 = .ok (.if_icmp .le 5, 3) := by decide +kernel
theorem dModel_feed_13 : decode prog_14_method_116_code 13 = .ok (.iconst (-1), 1) := by decide +kernel
theorem dModel_feed_14 : decode prog_14_method_116_code 14 = .ok (.ireturn, 1) := by decide +kernel
theorem dModel_feed_15 : decode prog_14_method_116_code 15 = .ok (.iconst 0, 1) := by decide +kernel
theorem dModel_feed_16 : decode prog_14_method_116_code 16 = .ok (.istore 6, 2) := by decide +kernel
theorem dModel_feed_18 : decode prog_14_method_116_code 18 = .ok (.iload 6, 2) := by decide +kernel
theorem dModel_feed_20 : decode prog_14_method_116_code 20 = .ok (.bipush 20, 2) := by decide +kernel
theorem dModel_feed_22 : decode prog_14_method_116_code 22 = .ok (.if_icmp .ge 83, 3) := by decide +kernel
theorem dModel_feed_25 : decode prog_14_method_116_code 25 = .ok (.iload 6, 2) := by decide +kernel
theorem dModel_feed_27 : decode prog_14_method_116_code 27 = .ok (.iconst 4, 1) := by decide +kernel
theorem dModel_feed_28 : decode prog_14_method_116_code 28 = .ok (.if_icmp .ge 7, 3) := by decide +kernel
theorem dModel_feed_31 : decode prog_14_method_116_code 31 = .ok (.iload_n 1, 1) := by decide +kernel
theorem dModel_feed_32 : decode prog_14_method_116_code 32 = .ok (.goto 39, 3) := by decide +kernel
theorem dModel_feed_35 : decode prog_14_method_116_code 35 = .ok (.iload 6, 2) := by decide +kernel
theorem dModel_feed_37 : decode prog_14_method_116_code 37 = .ok (.bipush 8, 2) := by decide +kernel
theorem dModel_feed_39 : decode prog_14_method_116_code 39 = .ok (.if_icmp .ge 7, 3) := by decide +kernel
theorem dModel_feed_42 : decode prog_14_method_116_code 42 = .ok (.iload_n 2, 1) := by decide +kernel
theorem dModel_feed_43 : decode prog_14_method_116_code 43 = .ok (.goto 28, 3) := by decide +kernel
theorem dModel_feed_46 : decode prog_14_method_116_code 46 = .ok (.iload 6, 2) := by decide +kernel
theorem dModel_feed_48 : decode prog_14_method_116_code 48 = .ok (.bipush 12, 2) := by decide +kernel
theorem dModel_feed_50 : decode prog_14_method_116_code 50 = .ok (.if_icmp .ge 7, 3) := by decide +kernel
theorem dModel_feed_53 : decode prog_14_method_116_code 53 = .ok (.iload_n 3, 1) := by decide +kernel
theorem dModel_feed_54 : decode prog_14_method_116_code 54 = .ok (.goto 17, 3) := by decide +kernel
theorem dModel_feed_57 : decode prog_14_method_116_code 57 = .ok (.iload 6, 2) := by decide +kernel
theorem dModel_feed_59 : decode prog_14_method_116_code 59 = .ok (.bipush 16, 2) := by decide +kernel
theorem dModel_feed_61 : decode prog_14_method_116_code 61 = .ok (.if_icmp .ge 8, 3) := by decide +kernel
theorem dModel_feed_64 : decode prog_14_method_116_code 64 = .ok (.iload 4, 2) := by decide +kernel
theorem dModel_feed_66 : decode prog_14_method_116_code 66 = .ok (.goto 5, 3) := by decide +kernel
theorem dModel_feed_69 : decode prog_14_method_116_code 69 = .ok (.iload 5, 2) := by decide +kernel
theorem dModel_feed_71 : decode prog_14_method_116_code 71 = .ok (.istore 7, 2) := by decide +kernel
theorem dModel_feed_73 : decode prog_14_method_116_code 73 = .ok (.aload_n 0, 1) := by decide +kernel
theorem dModel_feed_74 : decode prog_14_method_116_code 74 = .ok (.getfield 140, 3) := by decide +kernel
theorem dModel_feed_77 : decode prog_14_method_116_code 77 = .ok (.aload_n 0, 1) := by decide +kernel
theorem dModel_feed_78 : decode prog_14_method_116_code 78 = .ok (.getfield 137, 3) := by decide +kernel
theorem dModel_feed_81 : decode prog_14_method_116_code 81 = .ok (.iload 6, 2) := by decide +kernel
theorem dModel_feed_83 : decode prog_14_method_116_code 83 = .ok (.iadd, 1) := by decide +kernel
theorem dModel_feed_84 : decode prog_14_method_116_code 84 = .ok (.iload 7, 2) := by decide +kernel
theorem dModel_feed_86 : decode prog_14_method_116_code 86 = .ok (.bipush 24, 2) := by decide +kernel
theorem dModel_feed_88 : decode prog_14_method_116_code 88 = .ok (.bipush 8, 2) := by decide +kernel
theorem dModel_feed_90 : decode prog_14_method_116_code 90 = .ok (.iload 6, 2) := by decide +kernel
theorem dModel_feed_92 : decode prog_14_method_116_code 92 = .ok (.iconst 3, 1) := by decide +kernel
theorem dModel_feed_93 : decode prog_14_method_116_code 93 = .ok (.iand, 1) := by decide +kernel
theorem dModel_feed_94 : decode prog_14_method_116_code 94 = .ok (.imul, 1) := by decide +kernel
theorem dModel_feed_95 : decode prog_14_method_116_code 95 = .ok (.isub, 1) := by decide +kernel
theorem dModel_feed_96 : decode prog_14_method_116_code 96 = .ok (.ishr, 1) := by decide +kernel
theorem dModel_feed_97 : decode prog_14_method_116_code 97 = .ok (.i2b, 1) := by decide +kernel
theorem dModel_feed_98 : decode prog_14_method_116_code 98 = .ok (.bastore, 1) := by decide +kernel
theorem dModel_feed_99 : decode prog_14_method_116_code 99 = .ok (.iinc 6 1, 3) := by decide +kernel
theorem dModel_feed_102 : decode prog_14_method_116_code 102 = .ok (.goto (-84), 3) := by decide +kernel
theorem dModel_feed_105 : decode prog_14_method_116_code 105 = .ok (.aload_n 0, 1) := by decide +kernel
theorem dModel_feed_106 : decode prog_14_method_116_code 106 = .ok (.dup, 1) := by decide +kernel
theorem dModel_feed_107 : decode prog_14_method_116_code 107 = .ok (.getfield 137, 3) := by decide +kernel
theorem dModel_feed_110 : decode prog_14_method_116_code 110 = .ok (.bipush 20, 2) := by decide +kernel
theorem dModel_feed_112 : decode prog_14_method_116_code 112 = .ok (.iadd, 1) := by decide +kernel
theorem dModel_feed_113 : decode prog_14_method_116_code 113 = .ok (.putfield 137, 3) := by decide +kernel
theorem dModel_feed_116 : decode prog_14_method_116_code 116 = .ok (.aload_n 0, 1) := by decide +kernel
theorem dModel_feed_117 : decode prog_14_method_116_code 117 = .ok (.getfield 137, 3) := by decide +kernel
theorem dModel_feed_120 : decode prog_14_method_116_code 120 = .ok (.ireturn, 1) := by decide +kernel
theorem dModel_end_0 : decode prog_14_method_117_code 0 = .ok (.iload_n 1, 1) := by decide +kernel
theorem dModel_end_1 : decode prog_14_method_117_code 1 = .ok (.ifCond .lt 11, 3) := by decide +kernel
theorem dModel_end_4 : decode prog_14_method_117_code 4 = .ok (.iload_n 1, 1) := by decide +kernel
theorem dModel_end_5 : decode prog_14_method_117_code 5 = .ok (.aload_n 0, 1) := by decide +kernel
theorem dModel_end_6 : decode prog_14_method_117_code 6 = .ok (.getfield 137, 3) := by decide +kernel
theorem dModel_end_9 : decode prog_14_method_117_code 9 = .ok (.if_icmp .le 5, 3) := by decide +kernel
theorem dModel_end_12 : decode prog_14_method_117_code 12 = .ok (.iconst (-1), 1) := by decide +kernel
theorem dModel_end_13 : decode prog_14_method_117_code 13 = .ok (.ireturn, 1) := by decide +kernel
theorem dModel_end_14 : decode prog_14_method_117_code 14 = .ok (.aload_n 0, 1) := by decide +kernel
theorem dModel_end_15 : decode prog_14_method_117_code 15 = .ok (.iload_n 1, 1) := by decide +kernel
theorem dModel_end_16 : decode prog_14_method_117_code 16 = .ok (.putfield 137, 3) := by decide +kernel
theorem dModel_end_19 : decode prog_14_method_117_code 19 = .ok (.iload_n 1, 1) := by decide +kernel
theorem dModel_end_20 : decode prog_14_method_117_code 20 = .ok (.ireturn, 1) := by decide +kernel
theorem dModel_init_0 : decode prog_14_method_118_code 0 = .ok (.aload_n 0, 1) := by decide +kernel
theorem dModel_init_1 : decode prog_14_method_118_code 1 = .ok (.invokespecial 883, 3) := by decide +kernel
theorem dModel_init_4 : decode prog_14_method_118_code 4 = .ok (.aload_n 0, 1) := by decide +kernel
theorem dModel_init_5 : decode prog_14_method_118_code 5 = .ok (.sipush 1620, 3) := by decide +kernel
theorem dModel_init_8 : decode prog_14_method_118_code 8 = .ok (.newarray .byte, 2) := by decide +kernel
theorem dModel_init_10 : decode prog_14_method_118_code 10 = .ok (.putfield 140, 3) := by decide +kernel
theorem dModel_init_13 : decode prog_14_method_118_code 13 = .ok (.aload_n 0, 1) := by decide +kernel
theorem dModel_init_14 : decode prog_14_method_118_code 14 = .ok (.sipush 1600, 3) := by decide +kernel
theorem dModel_init_17 : decode prog_14_method_118_code 17 = .ok (.newarray .byte, 2) := by decide +kernel
theorem dModel_init_19 : decode prog_14_method_118_code 19 = .ok (.putfield 7, 3) := by decide +kernel
theorem dModel_init_22 : decode prog_14_method_118_code 22 = .ok (.aload_n 0, 1) := by decide +kernel
theorem dModel_init_23 : decode prog_14_method_118_code 23 = .ok (.iconst (-1), 1) := by decide +kernel

theorem dX12_laySpan_0 : decode cX12_laySpan 0 = .ok (.aload_n 0, 1) := by decide +kernel
theorem dX12_laySpan_1 : decode cX12_laySpan 1 = .ok (.getfield 39, 3) := by decide +kernel
theorem dX12_laySpan_4 : decode cX12_laySpan 4 = .ok (.iload_n 1, 1) := by decide +kernel
theorem dX12_laySpan_5 : decode cX12_laySpan 5 = .ok (.iaload, 1) := by decide +kernel
theorem dX12_laySpan_6 : decode cX12_laySpan 6 = .ok (.istore_n 2, 1) := by decide +kernel
theorem dX12_laySpan_7 : decode cX12_laySpan 7 = .ok (.iload_n 2, 1) := by decide +kernel
theorem dX12_laySpan_8 : decode cX12_laySpan 8 = .ok (.iconst 1, 1) := by decide +kernel
theorem dX12_laySpan_9 : decode cX12_laySpan 9 = .ok (.if_icmp .le 9, 3) := by decide +kernel
theorem dX12_laySpan_18 : decode cX12_laySpan 18 = .ok (.iconst 2, 1) := by decide +kernel
theorem dX12_laySpan_19 : decode cX12_laySpan 19 = .ok (.aload_n 0, 1) := by decide +kernel
theorem dX12_laySpan_20 : decode cX12_laySpan 20 = .ok (.getfield 243, 3) := by decide +kernel
theorem dX12_laySpan_23 : decode cX12_laySpan 23 = .ok (.imul, 1) := by decide +kernel
theorem dX12_laySpan_24 : decode cX12_laySpan 24 = .ok (.aload_n 0, 1) := by decide +kernel
theorem dX12_laySpan_25 : decode cX12_laySpan 25 = .ok (.getfield 42, 3) := by decide +kernel
theorem dX12_laySpan_28 : decode cX12_laySpan 28 = .ok (.iload_n 1, 1) := by decide +kernel
theorem dX12_laySpan_29 : decode cX12_laySpan 29 = .ok (.iaload, 1) := by decide +kernel
theorem dX12_laySpan_30 : decode cX12_laySpan 30 = .ok (.iadd, 1) := by decide +kernel
theorem dX12_laySpan_31 : decode cX12_laySpan 31 = .ok (.istore_n 3, 1) := by decide +kernel
theorem dX12_laySpan_32 : decode cX12_laySpan 32 = .ok (.iload_n 2, 1) := by decide +kernel
theorem dX12_laySpan_33 : decode cX12_laySpan 33 = .ok (.ifCond .ne 13, 3) := by decide +kernel
theorem dX12_laySpan_46 : decode cX12_laySpan 46 = .ok (.lconst 1, 1) := by decide +kernel
theorem dX12_laySpan_47 : decode cX12_laySpan 47 = .ok (.lstore 4, 2) := by decide +kernel
theorem dX12_laySpan_49 : decode cX12_laySpan 49 = .ok (.aload_n 0, 1) := by decide +kernel
theorem dX12_laySpan_50 : decode cX12_laySpan 50 = .ok (.getfield 70, 3) := by decide +kernel
theorem dX12_laySpan_53 : decode cX12_laySpan 53 = .ok (.iload_n 1, 1) := by decide +kernel
theorem dX12_laySpan_54 : decode cX12_laySpan 54 = .ok (.lload 4, 2) := by decide +kernel
theorem dX12_laySpan_56 : decode cX12_laySpan 56 = .ok (.aload_n 0, 1) := by decide +kernel
theorem dX12_laySpan_57 : decode cX12_laySpan 57 = .ok (.getfield 33, 3) := by decide +kernel
theorem dX12_laySpan_60 : decode cX12_laySpan 60 = .ok (.iload_n 3, 1) := by decide +kernel
theorem dX12_laySpan_61 : decode cX12_laySpan 61 = .ok (.iaload, 1) := by decide +kernel
theorem dX12_laySpan_62 : decode cX12_laySpan 62 = .ok (.i2l, 1) := by decide +kernel
theorem dX12_laySpan_63 : decode cX12_laySpan 63 = .ok (.lmul, 1) := by decide +kernel
theorem dX12_laySpan_64 : decode cX12_laySpan 64 = .ok (.lastore, 1) := by decide +kernel
theorem dX12_laySpan_65 : decode cX12_laySpan 65 = .ok (.aload_n 0, 1) := by decide +kernel
theorem dX12_laySpan_66 : decode cX12_laySpan 66 = .ok (.getfield 73, 3) := by decide +kernel
theorem dX12_laySpan_69 : decode cX12_laySpan 69 = .ok (.iload_n 1, 1) := by decide +kernel
theorem dX12_laySpan_70 : decode cX12_laySpan 70 = .ok (.lload 4, 2) := by decide +kernel
theorem dX12_laySpan_72 : decode cX12_laySpan 72 = .ok (.aload_n 0, 1) := by decide +kernel
theorem dX12_laySpan_73 : decode cX12_laySpan 73 = .ok (.getfield 36, 3) := by decide +kernel
theorem dX12_laySpan_76 : decode cX12_laySpan 76 = .ok (.iload_n 3, 1) := by decide +kernel
theorem dX12_laySpan_77 : decode cX12_laySpan 77 = .ok (.iaload, 1) := by decide +kernel
theorem dX12_laySpan_78 : decode cX12_laySpan 78 = .ok (.i2l, 1) := by decide +kernel
theorem dX12_laySpan_79 : decode cX12_laySpan 79 = .ok (.lmul, 1) := by decide +kernel
theorem dX12_laySpan_80 : decode cX12_laySpan 80 = .ok (.lastore, 1) := by decide +kernel
theorem dX12_laySpan_81 : decode cX12_laySpan 81 = .ok (.return_, 1) := by decide +kernel
theorem dX12_laySpan_36 : decode cX12_laySpan 36 = .ok (.aload_n 0, 1) := by decide +kernel
theorem dX12_laySpan_37 : decode cX12_laySpan 37 = .ok (.getfield 30, 3) := by decide +kernel
theorem dX12_laySpan_40 : decode cX12_laySpan 40 = .ok (.iload_n 3, 1) := by decide +kernel
theorem dX12_laySpan_41 : decode cX12_laySpan 41 = .ok (.iaload, 1) := by decide +kernel
theorem dX12_laySpan_42 : decode cX12_laySpan 42 = .ok (.i2l, 1) := by decide +kernel
theorem dX12_laySpan_43 : decode cX12_laySpan 43 = .ok (.goto 4, 3) := by decide +kernel
theorem dX12_laySpan_12 : decode cX12_laySpan 12 = .ok (.iload_n 2, 1) := by decide +kernel
theorem dX12_laySpan_13 : decode cX12_laySpan 13 = .ok (.bipush 6, 2) := by decide +kernel
theorem dX12_laySpan_15 : decode cX12_laySpan 15 = .ok (.if_icmp .ne 67, 3) := by decide +kernel
theorem dX12_laySpan_82 : decode cX12_laySpan 82 = .ok (.bipush 12, 2) := by decide +kernel
theorem dX12_laySpan_84 : decode cX12_laySpan 84 = .ok (.aload_n 0, 1) := by decide +kernel
theorem dX12_laySpan_85 : decode cX12_laySpan 85 = .ok (.getfield 243, 3) := by decide +kernel
theorem dX12_laySpan_88 : decode cX12_laySpan 88 = .ok (.imul, 1) := by decide +kernel
theorem dX12_laySpan_89 : decode cX12_laySpan 89 = .ok (.istore_n 3, 1) := by decide +kernel
theorem dX12_laySpan_90 : decode cX12_laySpan 90 = .ok (.aload_n 0, 1) := by decide +kernel
theorem dX12_laySpan_91 : decode cX12_laySpan 91 = .ok (.getfield 70, 3) := by decide +kernel
theorem dX12_laySpan_94 : decode cX12_laySpan 94 = .ok (.iload_n 3, 1) := by decide +kernel
theorem dX12_laySpan_95 : decode cX12_laySpan 95 = .ok (.aload_n 0, 1) := by decide +kernel
theorem dX12_laySpan_96 : decode cX12_laySpan 96 = .ok (.getfield 42, 3) := by decide +kernel
theorem dX12_laySpan_99 : decode cX12_laySpan 99 = .ok (.iload_n 1, 1) := by decide +kernel
theorem dX12_laySpan_100 : decode cX12_laySpan 100 = .ok (.iaload, 1) := by decide +kernel
theorem dX12_laySpan_101 : decode cX12_laySpan 101 = .ok (.iadd, 1) := by decide +kernel
theorem dX12_laySpan_102 : decode cX12_laySpan 102 = .ok (.laload, 1) := by decide +kernel
theorem dX12_laySpan_103 : decode cX12_laySpan 103 = .ok (.lstore 4, 2) := by decide +kernel
theorem dX12_laySpan_105 : decode cX12_laySpan 105 = .ok (.aload_n 0, 1) := by decide +kernel
theorem dX12_laySpan_106 : decode cX12_laySpan 106 = .ok (.getfield 73, 3) := by decide +kernel
theorem dX12_laySpan_109 : decode cX12_laySpan 109 = .ok (.iload_n 3, 1) := by decide +kernel
theorem dX12_laySpan_110 : decode cX12_laySpan 110 = .ok (.aload_n 0, 1) := by decide +kernel
theorem dX12_laySpan_111 : decode cX12_laySpan 111 = .ok (.getfield 42, 3) := by decide +kernel
theorem dX12_laySpan_114 : decode cX12_laySpan 114 = .ok (.iload_n 1, 1) := by decide +kernel
theorem dX12_laySpan_115 : decode cX12_laySpan 115 = .ok (.iaload, 1) := by decide +kernel
theorem dX12_laySpan_116 : decode cX12_laySpan 116 = .ok (.iadd, 1) := by decide +kernel
theorem dX12_laySpan_117 : decode cX12_laySpan 117 = .ok (.laload, 1) := by decide +kernel
theorem dX12_laySpan_118 : decode cX12_laySpan 118 = .ok (.lstore 6, 2) := by decide +kernel
theorem dX12_laySpan_120 : decode cX12_laySpan 120 = .ok (.iload_n 2, 1) := by decide +kernel
theorem dX12_laySpan_121 : decode cX12_laySpan 121 = .ok (.iconst 5, 1) := by decide +kernel
theorem dX12_laySpan_122 : decode cX12_laySpan 122 = .ok (.if_icmp .ne 94, 3) := by decide +kernel
theorem dX12_laySpan_216 : decode cX12_laySpan 216 = .ok (.aload_n 0, 1) := by decide +kernel
theorem dX12_laySpan_217 : decode cX12_laySpan 217 = .ok (.getfield 70, 3) := by decide +kernel
theorem dX12_laySpan_220 : decode cX12_laySpan 220 = .ok (.iload_n 3, 1) := by decide +kernel
theorem dX12_laySpan_221 : decode cX12_laySpan 221 = .ok (.aload_n 0, 1) := by decide +kernel
theorem dX12_laySpan_222 : decode cX12_laySpan 222 = .ok (.getfield 45, 3) := by decide +kernel
theorem dX12_laySpan_225 : decode cX12_laySpan 225 = .ok (.iload_n 1, 1) := by decide +kernel
theorem dX12_laySpan_226 : decode cX12_laySpan 226 = .ok (.iaload, 1) := by decide +kernel
theorem dX12_laySpan_227 : decode cX12_laySpan 227 = .ok (.iadd, 1) := by decide +kernel
theorem dX12_laySpan_228 : decode cX12_laySpan 228 = .ok (.laload, 1) := by decide +kernel
theorem dX12_laySpan_229 : decode cX12_laySpan 229 = .ok (.lstore 8, 2) := by decide +kernel
theorem dX12_laySpan_231 : decode cX12_laySpan 231 = .ok (.aload_n 0, 1) := by decide +kernel
theorem dX12_laySpan_232 : decode cX12_laySpan 232 = .ok (.getfield 73, 3) := by decide +kernel
theorem dX12_laySpan_235 : decode cX12_laySpan 235 = .ok (.iload_n 3, 1) := by decide +kernel
theorem dX12_laySpan_236 : decode cX12_laySpan 236 = .ok (.aload_n 0, 1) := by decide +kernel
theorem dX12_laySpan_237 : decode cX12_laySpan 237 = .ok (.getfield 45, 3) := by decide +kernel
theorem dX12_laySpan_240 : decode cX12_laySpan 240 = .ok (.iload_n 1, 1) := by decide +kernel
theorem dX12_laySpan_241 : decode cX12_laySpan 241 = .ok (.iaload, 1) := by decide +kernel
theorem dX12_laySpan_242 : decode cX12_laySpan 242 = .ok (.iadd, 1) := by decide +kernel
theorem dX12_laySpan_243 : decode cX12_laySpan 243 = .ok (.laload, 1) := by decide +kernel
theorem dX12_laySpan_244 : decode cX12_laySpan 244 = .ok (.lstore 10, 2) := by decide +kernel
theorem dX12_laySpan_246 : decode cX12_laySpan 246 = .ok (.iload_n 2, 1) := by decide +kernel
theorem dX12_laySpan_247 : decode cX12_laySpan 247 = .ok (.bipush 7, 2) := by decide +kernel
theorem dX12_laySpan_249 : decode cX12_laySpan 249 = .ok (.if_icmp .ne 30, 3) := by decide +kernel
theorem dX12_laySpan_279 : decode cX12_laySpan 279 = .ok (.iload_n 2, 1) := by decide +kernel
theorem dX12_laySpan_280 : decode cX12_laySpan 280 = .ok (.iconst 4, 1) := by decide +kernel
theorem dX12_laySpan_281 : decode cX12_laySpan 281 = .ok (.if_icmp .ne 74, 3) := by decide +kernel
theorem dX12_laySpan_355 : decode cX12_laySpan 355 = .ok (.aload_n 0, 1) := by decide +kernel
theorem dX12_laySpan_356 : decode cX12_laySpan 356 = .ok (.getfield 70, 3) := by decide +kernel
theorem dX12_laySpan_359 : decode cX12_laySpan 359 = .ok (.iload_n 1, 1) := by decide +kernel
theorem dX12_laySpan_360 : decode cX12_laySpan 360 = .ok (.iload_n 2, 1) := by decide +kernel
theorem dX12_laySpan_361 : decode cX12_laySpan 361 = .ok (.iconst 2, 1) := by decide +kernel
theorem dX12_laySpan_362 : decode cX12_laySpan 362 = .ok (.if_icmp .ne 11, 3) := by decide +kernel
theorem dX12_laySpan_373 : decode cX12_laySpan 373 = .ok (.lload 4, 2) := by decide +kernel
theorem dX12_laySpan_375 : decode cX12_laySpan 375 = .ok (.lload 10, 2) := by decide +kernel
theorem dX12_laySpan_377 : decode cX12_laySpan 377 = .ok (.lsub, 1) := by decide +kernel
theorem dX12_laySpan_378 : decode cX12_laySpan 378 = .ok (.lastore, 1) := by decide +kernel
theorem dX12_laySpan_379 : decode cX12_laySpan 379 = .ok (.aload_n 0, 1) := by decide +kernel
theorem dX12_laySpan_380 : decode cX12_laySpan 380 = .ok (.getfield 73, 3) := by decide +kernel
theorem dX12_laySpan_383 : decode cX12_laySpan 383 = .ok (.iload_n 1, 1) := by decide +kernel
theorem dX12_laySpan_384 : decode cX12_laySpan 384 = .ok (.iload_n 2, 1) := by decide +kernel
theorem dX12_laySpan_385 : decode cX12_laySpan 385 = .ok (.iconst 2, 1) := by decide +kernel
theorem dX12_laySpan_386 : decode cX12_laySpan 386 = .ok (.if_icmp .ne 11, 3) := by decide +kernel
theorem dX12_laySpan_397 : decode cX12_laySpan 397 = .ok (.lload 6, 2) := by decide +kernel
theorem dX12_laySpan_399 : decode cX12_laySpan 399 = .ok (.lload 8, 2) := by decide +kernel
theorem dX12_laySpan_401 : decode cX12_laySpan 401 = .ok (.lsub, 1) := by decide +kernel
theorem dX12_laySpan_402 : decode cX12_laySpan 402 = .ok (.lastore, 1) := by decide +kernel
theorem dX12_laySpan_403 : decode cX12_laySpan 403 = .ok (.return_, 1) := by decide +kernel
theorem dX12_laySpan_389 : decode cX12_laySpan 389 = .ok (.lload 6, 2) := by decide +kernel
theorem dX12_laySpan_391 : decode cX12_laySpan 391 = .ok (.lload 10, 2) := by decide +kernel
theorem dX12_laySpan_393 : decode cX12_laySpan 393 = .ok (.ladd, 1) := by decide +kernel
theorem dX12_laySpan_394 : decode cX12_laySpan 394 = .ok (.goto 8, 3) := by decide +kernel
theorem dX12_laySpan_365 : decode cX12_laySpan 365 = .ok (.lload 4, 2) := by decide +kernel
theorem dX12_laySpan_367 : decode cX12_laySpan 367 = .ok (.lload 8, 2) := by decide +kernel
theorem dX12_laySpan_369 : decode cX12_laySpan 369 = .ok (.ladd, 1) := by decide +kernel
theorem dX12_laySpan_370 : decode cX12_laySpan 370 = .ok (.goto 8, 3) := by decide +kernel
theorem dX12_laySpan_284 : decode cX12_laySpan 284 = .ok (.aload_n 0, 1) := by decide +kernel
theorem dX12_laySpan_285 : decode cX12_laySpan 285 = .ok (.getfield 70, 3) := by decide +kernel
theorem dX12_laySpan_288 : decode cX12_laySpan 288 = .ok (.iload_n 1, 1) := by decide +kernel
theorem dX12_laySpan_289 : decode cX12_laySpan 289 = .ok (.lload 4, 2) := by decide +kernel
theorem dX12_laySpan_291 : decode cX12_laySpan 291 = .ok (.lload 8, 2) := by decide +kernel
theorem dX12_laySpan_293 : decode cX12_laySpan 293 = .ok (.lmul, 1) := by decide +kernel
theorem dX12_laySpan_294 : decode cX12_laySpan 294 = .ok (.lload 4, 2) := by decide +kernel
theorem dX12_laySpan_296 : decode cX12_laySpan 296 = .ok (.lload 10, 2) := by decide +kernel
theorem dX12_laySpan_298 : decode cX12_laySpan 298 = .ok (.lmul, 1) := by decide +kernel
theorem dX12_laySpan_299 : decode cX12_laySpan 299 = .ok (.invokestatic 314, 3) := by decide +kernel
theorem dX12_laySpan_302 : decode cX12_laySpan 302 = .ok (.lload 6, 2) := by decide +kernel
theorem dX12_laySpan_304 : decode cX12_laySpan 304 = .ok (.lload 8, 2) := by decide +kernel
theorem dX12_laySpan_306 : decode cX12_laySpan 306 = .ok (.lmul, 1) := by decide +kernel
theorem dX12_laySpan_307 : decode cX12_laySpan 307 = .ok (.lload 6, 2) := by decide +kernel
theorem dX12_laySpan_309 : decode cX12_laySpan 309 = .ok (.lload 10, 2) := by decide +kernel
theorem dX12_laySpan_311 : decode cX12_laySpan 311 = .ok (.lmul, 1) := by decide +kernel
theorem dX12_laySpan_312 : decode cX12_laySpan 312 = .ok (.invokestatic 314, 3) := by decide +kernel
theorem dX12_laySpan_315 : decode cX12_laySpan 315 = .ok (.invokestatic 314, 3) := by decide +kernel
theorem dX12_laySpan_318 : decode cX12_laySpan 318 = .ok (.lastore, 1) := by decide +kernel
theorem dX12_laySpan_319 : decode cX12_laySpan 319 = .ok (.aload_n 0, 1) := by decide +kernel
theorem dX12_laySpan_320 : decode cX12_laySpan 320 = .ok (.getfield 73, 3) := by decide +kernel
theorem dX12_laySpan_323 : decode cX12_laySpan 323 = .ok (.iload_n 1, 1) := by decide +kernel
theorem dX12_laySpan_324 : decode cX12_laySpan 324 = .ok (.lload 4, 2) := by decide +kernel
theorem dX12_laySpan_326 : decode cX12_laySpan 326 = .ok (.lload 8, 2) := by decide +kernel
theorem dX12_laySpan_328 : decode cX12_laySpan 328 = .ok (.lmul, 1) := by decide +kernel
theorem dX12_laySpan_329 : decode cX12_laySpan 329 = .ok (.lload 4, 2) := by decide +kernel
theorem dX12_laySpan_331 : decode cX12_laySpan 331 = .ok (.lload 10, 2) := by decide +kernel
theorem dX12_laySpan_333 : decode cX12_laySpan 333 = .ok (.lmul, 1) := by decide +kernel
theorem dX12_laySpan_334 : decode cX12_laySpan 334 = .ok (.invokestatic 318, 3) := by decide +kernel
theorem dX12_laySpan_337 : decode cX12_laySpan 337 = .ok (.lload 6, 2) := by decide +kernel
theorem dX12_laySpan_339 : decode cX12_laySpan 339 = .ok (.lload 8, 2) := by decide +kernel
theorem dX12_laySpan_341 : decode cX12_laySpan 341 = .ok (.lmul, 1) := by decide +kernel
theorem dX12_laySpan_342 : decode cX12_laySpan 342 = .ok (.lload 6, 2) := by decide +kernel
theorem dX12_laySpan_344 : decode cX12_laySpan 344 = .ok (.lload 10, 2) := by decide +kernel
theorem dX12_laySpan_346 : decode cX12_laySpan 346 = .ok (.lmul, 1) := by decide +kernel
theorem dX12_laySpan_347 : decode cX12_laySpan 347 = .ok (.invokestatic 318, 3) := by decide +kernel
theorem dX12_laySpan_350 : decode cX12_laySpan 350 = .ok (.invokestatic 318, 3) := by decide +kernel
theorem dX12_laySpan_353 : decode cX12_laySpan 353 = .ok (.lastore, 1) := by decide +kernel
theorem dX12_laySpan_354 : decode cX12_laySpan 354 = .ok (.return_, 1) := by decide +kernel
theorem dX12_laySpan_252 : decode cX12_laySpan 252 = .ok (.aload_n 0, 1) := by decide +kernel
theorem dX12_laySpan_253 : decode cX12_laySpan 253 = .ok (.getfield 70, 3) := by decide +kernel
theorem dX12_laySpan_256 : decode cX12_laySpan 256 = .ok (.iload_n 1, 1) := by decide +kernel
theorem dX12_laySpan_257 : decode cX12_laySpan 257 = .ok (.lload 4, 2) := by decide +kernel
theorem dX12_laySpan_259 : decode cX12_laySpan 259 = .ok (.lload 8, 2) := by decide +kernel
theorem dX12_laySpan_261 : decode cX12_laySpan 261 = .ok (.invokestatic 314, 3) := by decide +kernel
theorem dX12_laySpan_264 : decode cX12_laySpan 264 = .ok (.lastore, 1) := by decide +kernel
theorem dX12_laySpan_265 : decode cX12_laySpan 265 = .ok (.aload_n 0, 1) := by decide +kernel
theorem dX12_laySpan_266 : decode cX12_laySpan 266 = .ok (.getfield 73, 3) := by decide +kernel
theorem dX12_laySpan_269 : decode cX12_laySpan 269 = .ok (.iload_n 1, 1) := by decide +kernel
theorem dX12_laySpan_270 : decode cX12_laySpan 270 = .ok (.lload 6, 2) := by decide +kernel
theorem dX12_laySpan_272 : decode cX12_laySpan 272 = .ok (.lload 10, 2) := by decide +kernel
theorem dX12_laySpan_274 : decode cX12_laySpan 274 = .ok (.invokestatic 318, 3) := by decide +kernel
theorem dX12_laySpan_277 : decode cX12_laySpan 277 = .ok (.lastore, 1) := by decide +kernel
theorem dX12_laySpan_278 : decode cX12_laySpan 278 = .ok (.return_, 1) := by decide +kernel
theorem dX12_laySpan_125 : decode cX12_laySpan 125 = .ok (.aload_n 0, 1) := by decide +kernel
theorem dX12_laySpan_126 : decode cX12_laySpan 126 = .ok (.getfield 70, 3) := by decide +kernel
theorem dX12_laySpan_129 : decode cX12_laySpan 129 = .ok (.iload_n 1, 1) := by decide +kernel
theorem dX12_laySpan_130 : decode cX12_laySpan 130 = .ok (.lload 4, 2) := by decide +kernel
theorem dX12_laySpan_132 : decode cX12_laySpan 132 = .ok (.aload_n 0, 1) := by decide +kernel
theorem dX12_laySpan_133 : decode cX12_laySpan 133 = .ok (.getfield 45, 3) := by decide +kernel
theorem dX12_laySpan_136 : decode cX12_laySpan 136 = .ok (.iload_n 1, 1) := by decide +kernel
theorem dX12_laySpan_137 : decode cX12_laySpan 137 = .ok (.iaload, 1) := by decide +kernel
theorem dX12_laySpan_138 : decode cX12_laySpan 138 = .ok (.i2l, 1) := by decide +kernel
theorem dX12_laySpan_139 : decode cX12_laySpan 139 = .ok (.lmul, 1) := by decide +kernel
theorem dX12_laySpan_140 : decode cX12_laySpan 140 = .ok (.aload_n 0, 1) := by decide +kernel
theorem dX12_laySpan_141 : decode cX12_laySpan 141 = .ok (.getfield 48, 3) := by decide +kernel
theorem dX12_laySpan_144 : decode cX12_laySpan 144 = .ok (.iload_n 1, 1) := by decide +kernel
theorem dX12_laySpan_145 : decode cX12_laySpan 145 = .ok (.iaload, 1) := by decide +kernel
theorem dX12_laySpan_146 : decode cX12_laySpan 146 = .ok (.i2l, 1) := by decide +kernel
theorem dX12_laySpan_147 : decode cX12_laySpan 147 = .ok (.ldiv, 1) := by decide +kernel
theorem dX12_laySpan_148 : decode cX12_laySpan 148 = .ok (.lload 6, 2) := by decide +kernel
theorem dX12_laySpan_150 : decode cX12_laySpan 150 = .ok (.aload_n 0, 1) := by decide +kernel
theorem dX12_laySpan_151 : decode cX12_laySpan 151 = .ok (.getfield 45, 3) := by decide +kernel
theorem dX12_laySpan_154 : decode cX12_laySpan 154 = .ok (.iload_n 1, 1) := by decide +kernel
theorem dX12_laySpan_155 : decode cX12_laySpan 155 = .ok (.iaload, 1) := by decide +kernel
theorem dX12_laySpan_156 : decode cX12_laySpan 156 = .ok (.i2l, 1) := by decide +kernel
theorem dX12_laySpan_157 : decode cX12_laySpan 157 = .ok (.lmul, 1) := by decide +kernel
theorem dX12_laySpan_158 : decode cX12_laySpan 158 = .ok (.aload_n 0, 1) := by decide +kernel
theorem dX12_laySpan_159 : decode cX12_laySpan 159 = .ok (.getfield 48, 3) := by decide +kernel
theorem dX12_laySpan_162 : decode cX12_laySpan 162 = .ok (.iload_n 1, 1) := by decide +kernel
theorem dX12_laySpan_163 : decode cX12_laySpan 163 = .ok (.iaload, 1) := by decide +kernel
theorem dX12_laySpan_164 : decode cX12_laySpan 164 = .ok (.i2l, 1) := by decide +kernel
theorem dX12_laySpan_165 : decode cX12_laySpan 165 = .ok (.ldiv, 1) := by decide +kernel
theorem dX12_laySpan_166 : decode cX12_laySpan 166 = .ok (.invokestatic 314, 3) := by decide +kernel
theorem dX12_laySpan_169 : decode cX12_laySpan 169 = .ok (.lastore, 1) := by decide +kernel
theorem dX12_laySpan_170 : decode cX12_laySpan 170 = .ok (.aload_n 0, 1) := by decide +kernel
theorem dX12_laySpan_171 : decode cX12_laySpan 171 = .ok (.getfield 73, 3) := by decide +kernel
theorem dX12_laySpan_174 : decode cX12_laySpan 174 = .ok (.iload_n 1, 1) := by decide +kernel
theorem dX12_laySpan_175 : decode cX12_laySpan 175 = .ok (.lload 4, 2) := by decide +kernel
theorem dX12_laySpan_177 : decode cX12_laySpan 177 = .ok (.aload_n 0, 1) := by decide +kernel
theorem dX12_laySpan_178 : decode cX12_laySpan 178 = .ok (.getfield 45, 3) := by decide +kernel
theorem dX12_laySpan_181 : decode cX12_laySpan 181 = .ok (.iload_n 1, 1) := by decide +kernel
theorem dX12_laySpan_182 : decode cX12_laySpan 182 = .ok (.iaload, 1) := by decide +kernel
theorem dX12_laySpan_183 : decode cX12_laySpan 183 = .ok (.i2l, 1) := by decide +kernel
theorem dX12_laySpan_184 : decode cX12_laySpan 184 = .ok (.lmul, 1) := by decide +kernel
theorem dX12_laySpan_185 : decode cX12_laySpan 185 = .ok (.aload_n 0, 1) := by decide +kernel
theorem dX12_laySpan_186 : decode cX12_laySpan 186 = .ok (.getfield 48, 3) := by decide +kernel
theorem dX12_laySpan_189 : decode cX12_laySpan 189 = .ok (.iload_n 1, 1) := by decide +kernel
theorem dX12_laySpan_190 : decode cX12_laySpan 190 = .ok (.iaload, 1) := by decide +kernel
theorem dX12_laySpan_191 : decode cX12_laySpan 191 = .ok (.i2l, 1) := by decide +kernel
theorem dX12_laySpan_192 : decode cX12_laySpan 192 = .ok (.ldiv, 1) := by decide +kernel
theorem dX12_laySpan_193 : decode cX12_laySpan 193 = .ok (.lload 6, 2) := by decide +kernel
theorem dX12_laySpan_195 : decode cX12_laySpan 195 = .ok (.aload_n 0, 1) := by decide +kernel
theorem dX12_laySpan_196 : decode cX12_laySpan 196 = .ok (.getfield 45, 3) := by decide +kernel
theorem dX12_laySpan_199 : decode cX12_laySpan 199 = .ok (.iload_n 1, 1) := by decide +kernel
theorem dX12_laySpan_200 : decode cX12_laySpan 200 = .ok (.iaload, 1) := by decide +kernel
theorem dX12_laySpan_201 : decode cX12_laySpan 201 = .ok (.i2l, 1) := by decide +kernel
theorem dX12_laySpan_202 : decode cX12_laySpan 202 = .ok (.lmul, 1) := by decide +kernel
theorem dX12_laySpan_203 : decode cX12_laySpan 203 = .ok (.aload_n 0, 1) := by decide +kernel
theorem dX12_laySpan_204 : decode cX12_laySpan 204 = .ok (.getfield 48, 3) := by decide +kernel
theorem dX12_laySpan_207 : decode cX12_laySpan 207 = .ok (.iload_n 1, 1) := by decide +kernel
theorem dX12_laySpan_208 : decode cX12_laySpan 208 = .ok (.iaload, 1) := by decide +kernel
theorem dX12_laySpan_209 : decode cX12_laySpan 209 = .ok (.i2l, 1) := by decide +kernel
theorem dX12_laySpan_210 : decode cX12_laySpan 210 = .ok (.ldiv, 1) := by decide +kernel
theorem dX12_laySpan_211 : decode cX12_laySpan 211 = .ok (.invokestatic 318, 3) := by decide +kernel
theorem dX12_laySpan_214 : decode cX12_laySpan 214 = .ok (.lastore, 1) := by decide +kernel
theorem dX12_laySpan_215 : decode cX12_laySpan 215 = .ok (.return_, 1) := by decide +kernel
theorem rg_169 : 27 ∈ [27, 28] := by decide
theorem rg_170 : 28 ∈ [27, 28] := by decide
def ow_n_laySpan : List Cond := [.fieldLink RX12 39 "NearEnoughModel" "sKind" "[I", .fieldLink RX12 243 "NearEnoughModel" "rb" "I", .fieldLink RX12 42 "NearEnoughModel" "sA" "[I", .fieldLink RX12 70 "NearEnoughModel" "sLeast" "[J", .fieldLink RX12 33 "NearEnoughModel" "rLeast" "[I", .fieldLink RX12 73 "NearEnoughModel" "sMost" "[J", .fieldLink RX12 36 "NearEnoughModel" "rMost" "[I", .fieldLink RX12 30 "NearEnoughModel" "rHas" "[I", .fieldLink RX12 45 "NearEnoughModel" "sB" "[I", .fieldLink RX12 48 "NearEnoughModel" "sC" "[I"]
def vs_n_laySpan : List Cond := .code yX12_laySpan cX12_laySpan 12 none :: (ow_n_laySpan ++ (([.methodLink RX12 314 yX12_lesser, .static yX12_lesser, .initialized yX12_lesser.cls] : List Cond) ++ (vs_n_lesser ++ (([.methodLink RX12 318 yX12_greater, .static yX12_greater, .initialized yX12_greater.cls] : List Cond) ++ (vs_n_greater ++ (wsX120))))))
theorem vg_n_laySpan : vs_n_laySpan.all goodWord = true := by decide +kernel
theorem dd_n_laySpan : yX12_laySpan.cls = RX12 ∧ yX12_laySpan.cls ≠ "java/lang/invoke/MethodHandle" ∧ yX12_laySpan.cls ≠ "java/lang/invoke/VarHandle" ∧ (parseMethodDescriptor yX12_laySpan.desc).map (fun d => d.parameters.length) = some 1 := by decide +kernel
def rm_n_laySpan : Room := { frames := 1, cells := 0, slots := 0, locals := 23 }
theorem gd_n_laySpan_314_n_lesser : GoodIn vs_n_laySpan (va_wsS RX12 314 yX12_lesser vs_n_lesser) := goodIn_app (goodIn_sub (fun w h => (List.mem_cons_of_mem _ (List.mem_append_right _ (List.mem_append_left _ h)))) (by decide +kernel)) (goodIn_sub (fun w h => (List.mem_cons_of_mem _ (List.mem_append_right _ (List.mem_append_right _ (List.mem_append_left _ h))))) vg_n_lesser)
theorem gd_n_laySpan_318_n_greater : GoodIn vs_n_laySpan (va_wsS RX12 318 yX12_greater vs_n_greater) := goodIn_app (goodIn_sub (fun w h => (List.mem_cons_of_mem _ (List.mem_append_right _ (List.mem_append_right _ (List.mem_append_right _ (List.mem_append_left _ h)))))) (by decide +kernel)) (goodIn_sub (fun w h => (List.mem_cons_of_mem _ (List.mem_append_right _ (List.mem_append_right _ (List.mem_append_right _ (List.mem_append_right _ (List.mem_append_left _ h))))))) vg_n_greater)
set_option maxHeartbeats 4000000 in
set_option maxRecDepth 100000 in
theorem n_laySpan (l : Launch) (dC : Nat → ClassId) (dI : Nat → Nat → Nat) (h : Nat) (ad : Nat → Nat) (cl : Nat → ClassId) (sz : Nat) (σ : MS) (x : Int32) (hI : Inv σ) (hx0 : 0 ≤ x.toInt ∧ x.toInt ≤ 23) (hst : StOk (σ.2.1 17 x.toNatClampNeg).toInt (σ.2.1 18 x.toNatClampNeg).toInt (σ.2.1 19 x.toNatClampNeg).toInt (σ.2.1 20 x.toNatClampNeg).toInt (σ.2.1 21 x.toNatClampNeg).toInt 2 12) : Met l yX12_laySpan vs_n_laySpan rm_n_laySpan (va_Pc [.ref h, .int x] (wSt dC dI (mW h ad cl σ) (mT cl) sz)) (va_Qv (fun (τ : MS) => Inv τ ∧ eqx [27, 28] τ σ) (fun (τ : MS) => wEn dC dI (va_A (mW h ad cl σ) sz) (mW h ad cl τ) []) (va_A (mW h ad cl σ) sz)) 0 0 (va_A (mW h ad cl σ) sz) := by
  refine Met.ofW (cc := cX12_laySpan) (maxL := 12) (ret := none) (by decide) rfl ?_
  intro p e s m args below meth c s₁ B hml hv
  obtain ⟨rfl, hsz, hP, hK, hD0, hE⟩ := hv
  have hx := B.exec
  have hb := B.bytes
  have hr := B.returns
  have hts := atoms_spec (ws := vs_n_laySpan) B.pre
  have hown : s.vm.findClass RX12 = some m.cls := findClass_of_methodNamed B.named
  have hlocks := B.notSynchronized
  subst hsz
  have hD := hD0.self (sz := s.heap.size)
  generalize hAe : va_A (mW h ad cl σ) s.heap.size = A at hD ⊢
  have hA : ∀ q : Nat, s.heap.size ≤ q → A q := fun q h => by rw [← hAe]; exact Or.inr h
  have hl := lv_entry ([.ref h, .int x]) (n := 12) (Nat.le_of_ble_eq_true rfl)
  rw [lg_entry_eq]
  generalize (lg_sl ([.ref h, .int x]) ++ List.replicate (12 - (lg_sl ([.ref h, .int x])).length) Slot.unset).toArray = ls at hl ⊢
  have hl : lv_has ls 12 [(0, .ref h), (1, .int x)] := hl
  have ho := fun w (h : w ∈ ow_n_laySpan) => hts w (List.mem_cons_of_mem _ (List.mem_append_left _ h))
  have hin12 : ∀ w ∈ u_ws RX12 TX12 59, w ∈ vs_n_laySpan := fun w h => (List.mem_cons_of_mem _ (List.mem_append_right _ (List.mem_append_right _ (List.mem_append_right _ (List.mem_append_right _ (List.mem_append_right _ h))))))
  refine zQ (fun Q hQ => ?_)
  refine zH (A := A) (ws := mW h ad cl σ) (fun H hP hS => ?_) hP
  have bσ_30 : 0 ≤ (σ.1 30).toInt ∧ (σ.1 30).toInt ≤ 1 := hI.1 30
  unfold StOk at hst
  refine lv_aload_n hx hb dX12_laySpan_0 rfl (lv_at hl 0 rfl) ?_
  refine va_get (D := (dC, dI)) (ci := 12) (v := .ref (ad 17)) (C := RX12) (T := TX12) (N := 59) hx hb hts hin12 hown hK hP 0 rfl rfl 17 (Nat.le_of_ble_eq_true rfl) (ho (.fieldLink RX12 39 "NearEnoughModel" "sKind" "[I") (List.mem_of_getElem? (i := 0) rfl)) (fun _ h9 => h9) rfl dX12_laySpan_1 ?_
  refine lv_iload_n hx hb dX12_laySpan_4 rfl (lv_at hl 1 rfl) ?_
  have o1 : 0 ≤ x.toInt := by omega
  have o2 : x.toInt < ((24 : Nat) : Int) := by omega
  refine va_iald hx hb hK hP 9 8 rfl rfl (ti_inx o1 o2) dX12_laySpan_5 ?_
  refine lv_topi (fun z1 ez1 => ?_)
  have gz1 : z1.toInt = ((σ.2.1 17) (Int32.toNatClampNeg x)).toInt := congrArg Int32.toInt (ez1.trans (congrFun rfl (Int32.toNatClampNeg x)))
  have bz1 : 0 ≤ z1.toInt ∧ z1.toInt ≤ 7 := by rw [ez1]; exact (hI.2 17) _ (cl_lt (n := 24) o1 o2)
  refine lv_istore_n (lv' := [(2, .int z1), (0, .ref h), (1, .int x)]) hx hb dX12_laySpan_6 rfl hl (Nat.le_of_ble_eq_true rfl) rfl (fun ls hl => ?_)
  refine lv_iload_n hx hb dX12_laySpan_7 rfl (lv_at hl 0 rfl) ?_
  refine lv_iconst (v := 1) hx hb dX12_laySpan_8 rg_6 ?_
  refine lv_icmp_le (tgt := 18) hx hb dX12_laySpan_9 rfl (fun c2 => ?_) (fun c2 => ?_)
  · have tc2 := (show z1.toInt ≤ 1 from ti_le rfl rg_18 c2)
    refine lv_iconst (v := 2) hx hb dX12_laySpan_18 rg_19 ?_
    refine lv_aload_n hx hb dX12_laySpan_19 rfl (lv_at hl 1 rfl) ?_
    refine va_get (D := (dC, dI)) (ci := 12) (v := .int (σ.1 30)) (C := RX12) (T := TX12) (N := 59) hx hb hts hin12 hown hK hP 0 rfl rfl 30 (Nat.le_of_ble_eq_true rfl) (ho (.fieldLink RX12 243 "NearEnoughModel" "rb" "I") (List.mem_of_getElem? (i := 1) rfl)) (fun _ h9 => h9) rfl dX12_laySpan_20 ?_
    have bσ_30 : 0 ≤ (σ.1 30).toInt ∧ (σ.1 30).toInt ≤ 1 := hI.1 30
    refine lv_imul hx hb dX12_laySpan_23 ?_
    refine lv_topi (fun z3 ez3 => ?_)
    have o3 : -2147483648 ≤ 2 * (σ.1 30).toInt := by omega
    have o4 : 2 * (σ.1 30).toInt ≤ 2147483647 := by omega
    have tz3 : z3.toInt = 2 * (σ.1 30).toInt := ti_mul ez3 rg_20 rfl o3 o4
    refine lv_aload_n hx hb dX12_laySpan_24 rfl (lv_at hl 1 rfl) ?_
    refine va_get (D := (dC, dI)) (ci := 12) (v := .ref (ad 18)) (C := RX12) (T := TX12) (N := 59) hx hb hts hin12 hown hK hP 0 rfl rfl 18 (Nat.le_of_ble_eq_true rfl) (ho (.fieldLink RX12 42 "NearEnoughModel" "sA" "[I") (List.mem_of_getElem? (i := 2) rfl)) (fun _ h9 => h9) rfl dX12_laySpan_25 ?_
    refine lv_iload_n hx hb dX12_laySpan_28 rfl (lv_at hl 2 rfl) ?_
    refine va_iald hx hb hK hP 10 9 rfl rfl (ti_inx o1 o2) dX12_laySpan_29 ?_
    refine lv_topi (fun z4 ez4 => ?_)
    have gz4 : z4.toInt = ((σ.2.1 18) (Int32.toNatClampNeg x)).toInt := congrArg Int32.toInt (ez4.trans (congrFun rfl (Int32.toNatClampNeg x)))
    have bz4 : (-1) ≤ z4.toInt ∧ z4.toInt ≤ 11 := by rw [ez4]; exact (hI.2 18) _ (cl_lt (n := 24) o1 o2)
    refine lv_iadd hx hb dX12_laySpan_30 ?_
    refine lv_topi (fun z5 ez5 => ?_)
    have o5 : -2147483648 ≤ z3.toInt + z4.toInt := by omega
    have o6 : z3.toInt + z4.toInt ≤ 2147483647 := by omega
    have tz5 : z5.toInt = z3.toInt + z4.toInt := ti_add ez5 rfl rfl o5 o6
    refine lv_istore_n (lv' := [(3, .int z5), (2, .int z1), (0, .ref h), (1, .int x)]) hx hb dX12_laySpan_31 rfl hl (Nat.le_of_ble_eq_true rfl) rfl (fun ls hl => ?_)
    refine lv_iload_n hx hb dX12_laySpan_32 rfl (lv_at hl 1 rfl) ?_
    refine lv_if_ne (tgt := 46) hx hb dX12_laySpan_33 rfl (fun c6 => ?_) (fun c6 => ?_)
    · have tc6 := (show z1.toInt ≠ 0 from ti_ne rfl rg_11 c6)
      refine lv_lconst (v := 1) hx hb dX12_laySpan_46 (by decide) ?_
      refine lv_lstore (lv' := [(4, .long 1), (3, .int z5), (2, .int z1), (0, .ref h), (1, .int x)]) hx hb dX12_laySpan_47 hl (Nat.le_of_ble_eq_true rfl) rfl (fun ls hl => ?_)
      refine lv_aload_n hx hb dX12_laySpan_49 rfl (lv_at hl 3 rfl) ?_
      refine va_get (D := (dC, dI)) (ci := 12) (v := .ref (ad 27)) (C := RX12) (T := TX12) (N := 59) hx hb hts hin12 hown hK hP 0 rfl rfl 27 (Nat.le_of_ble_eq_true rfl) (ho (.fieldLink RX12 70 "NearEnoughModel" "sLeast" "[J") (List.mem_of_getElem? (i := 3) rfl)) (fun _ h9 => h9) rfl dX12_laySpan_50 ?_
      refine lv_iload_n hx hb dX12_laySpan_53 rfl (lv_at hl 4 rfl) ?_
      refine lv_lload hx hb dX12_laySpan_54 (lv_at hl 0 rfl) ?_
      refine lv_aload_n hx hb dX12_laySpan_56 rfl (lv_at hl 3 rfl) ?_
      refine va_get (D := (dC, dI)) (ci := 12) (v := .ref (ad 15)) (C := RX12) (T := TX12) (N := 59) hx hb hts hin12 hown hK hP 0 rfl rfl 15 (Nat.le_of_ble_eq_true rfl) (ho (.fieldLink RX12 33 "NearEnoughModel" "rLeast" "[I") (List.mem_of_getElem? (i := 4) rfl)) (fun _ h9 => h9) rfl dX12_laySpan_57 ?_
      refine lv_iload_n hx hb dX12_laySpan_60 rfl (lv_at hl 1 rfl) ?_
      have o7 : 0 ≤ z5.toInt := by omega
      have o8 : z5.toInt < ((4 : Nat) : Int) := by omega
      refine va_iald hx hb hK hP 7 6 rfl rfl (ti_inx o7 o8) dX12_laySpan_61 ?_
      refine lv_topi (fun z7 ez7 => ?_)
      have gz7 : z7.toInt = ((σ.2.1 15) (Int32.toNatClampNeg z5)).toInt := congrArg Int32.toInt (ez7.trans (congrFun rfl (Int32.toNatClampNeg z5)))
      refine lv_i2l hx hb dX12_laySpan_62 rfl ?_
      refine lv_topl (fun y8 ey8 => ?_)
      refine lv_lmul hx hb dX12_laySpan_63 ?_
      refine lv_topl (fun y9 ey9 => ?_)
      refine va_last hx hb hK hP hD hS 19 18 rfl rfl (ti_inx o1 o2) dX12_laySpan_64 (fun H locs hP hD hS => ?_)
      rw [wS27] at hP hD
      obtain ⟨τ10, eτ10⟩ : ∃ x9 : MS, x9 = sJ σ 27 (vp_updL (σ.2.2.1 27) (Int32.toNatClampNeg x) y9) := ⟨_, rfl⟩
      have hP : va_P (dC, dI) vwCl (mW h ad cl τ10) H := by rw [eτ10]; exact hP
      have hD : va_D A (mW h ad cl τ10) := by rw [eτ10]; exact hD
      have hIτ10 : Inv τ10 := by rw [eτ10]; exact (Inv.sJ hI)
      have Xτ10 : eqx [27, 28] τ10 σ := (eqx.eq eτ10 (eqx.sJ eqx.rf rg_169))
      have qq11 : (τ10.1 30).toInt = ((σ.1 30) : Int32).toInt := congrArg Int32.toInt ((show τ10.1 30 = (σ.1 30) from (congrArg (fun x9 : MS => x9.1 30) eτ10).trans rfl))
      refine lv_aload_n hx hb dX12_laySpan_65 rfl (lv_at hl 3 rfl) ?_
      refine va_get (D := (dC, dI)) (ci := 12) (v := .ref (ad 28)) (C := RX12) (T := TX12) (N := 59) hx hb hts hin12 hown hK hP 0 rfl rfl 28 (Nat.le_of_ble_eq_true rfl) (ho (.fieldLink RX12 73 "NearEnoughModel" "sMost" "[J") (List.mem_of_getElem? (i := 5) rfl)) (fun _ h9 => h9) rfl dX12_laySpan_66 ?_
      refine lv_iload_n hx hb dX12_laySpan_69 rfl (lv_at hl 4 rfl) ?_
      refine lv_lload hx hb dX12_laySpan_70 (lv_at hl 0 rfl) ?_
      refine lv_aload_n hx hb dX12_laySpan_72 rfl (lv_at hl 3 rfl) ?_
      refine va_get (D := (dC, dI)) (ci := 12) (v := .ref (ad 16)) (C := RX12) (T := TX12) (N := 59) hx hb hts hin12 hown hK hP 0 rfl rfl 16 (Nat.le_of_ble_eq_true rfl) (ho (.fieldLink RX12 36 "NearEnoughModel" "rMost" "[I") (List.mem_of_getElem? (i := 6) rfl)) (fun _ h9 => h9) rfl dX12_laySpan_73 ?_
      refine lv_iload_n hx hb dX12_laySpan_76 rfl (lv_at hl 1 rfl) ?_
      refine va_iald hx hb hK hP 8 7 rfl rfl (ti_inx o7 o8) dX12_laySpan_77 ?_
      refine lv_topi (fun z12 ez12 => ?_)
      have gz12 : z12.toInt = ((σ.2.1 16) (Int32.toNatClampNeg z5)).toInt := congrArg Int32.toInt (ez12.trans (congrFun ((congrArg (fun x9 : MS => x9.2.1 16) eτ10).trans (tJ.trans rfl)) (Int32.toNatClampNeg z5)))
      refine lv_i2l hx hb dX12_laySpan_78 rfl ?_
      refine lv_topl (fun y13 ey13 => ?_)
      refine lv_lmul hx hb dX12_laySpan_79 ?_
      refine lv_topl (fun y14 ey14 => ?_)
      refine va_last hx hb hK hP hD hS 20 19 rfl rfl (ti_inx o1 o2) dX12_laySpan_80 (fun H locs hP hD hS => ?_)
      rw [wS28] at hP hD
      obtain ⟨τ15, eτ15⟩ : ∃ x9 : MS, x9 = sJ τ10 28 (vp_updL (τ10.2.2.1 28) (Int32.toNatClampNeg x) y14) := ⟨_, rfl⟩
      have hP : va_P (dC, dI) vwCl (mW h ad cl τ15) H := by rw [eτ15]; exact hP
      have hD : va_D A (mW h ad cl τ15) := by rw [eτ15]; exact hD
      have hIτ15 : Inv τ15 := by rw [eτ15]; exact (Inv.sJ hIτ10)
      have Xτ15 : eqx [27, 28] τ15 σ := (eqx.eq eτ15 (eqx.sJ Xτ10 rg_170))
      have qq16 : (τ15.1 30).toInt = ((σ.1 30) : Int32).toInt := congrArg Int32.toInt ((show τ15.1 30 = (σ.1 30) from (congrArg (fun x9 : MS => x9.1 30) eτ15).trans (show τ10.1 30 = (σ.1 30) from (congrArg (fun x9 : MS => x9.1 30) eτ10).trans rfl)))
      rw [hQ]
      exact W.vret hx hb hr (fun t ht hW => ⟨⟨τ15, rfl, ⟨hIτ15, Xτ15⟩, wEn_of hP (hK.sub [] rfl) hD ht hW⟩, hS.F ht⟩) hS.2.2 dX12_laySpan_81
    · have tc6 := (show z1.toInt = 0 from ti_eq rfl rg_11 c6)
      refine lv_aload_n hx hb dX12_laySpan_36 rfl (lv_at hl 2 rfl) ?_
      refine va_get (D := (dC, dI)) (ci := 12) (v := .ref (ad 14)) (C := RX12) (T := TX12) (N := 59) hx hb hts hin12 hown hK hP 0 rfl rfl 14 (Nat.le_of_ble_eq_true rfl) (ho (.fieldLink RX12 30 "NearEnoughModel" "rHas" "[I") (List.mem_of_getElem? (i := 7) rfl)) (fun _ h9 => h9) rfl dX12_laySpan_37 ?_
      refine lv_iload_n hx hb dX12_laySpan_40 rfl (lv_at hl 0 rfl) ?_
      have o9 : 0 ≤ z5.toInt := by omega
      have o10 : z5.toInt < ((4 : Nat) : Int) := by omega
      refine va_iald hx hb hK hP 6 5 rfl rfl (ti_inx o9 o10) dX12_laySpan_41 ?_
      refine lv_topi (fun z17 ez17 => ?_)
      have gz17 : z17.toInt = ((σ.2.1 14) (Int32.toNatClampNeg z5)).toInt := congrArg Int32.toInt (ez17.trans (congrFun rfl (Int32.toNatClampNeg z5)))
      have bz17 : 0 ≤ z17.toInt ∧ z17.toInt ≤ 6 := by rw [ez17]; exact (hI.2 14) _ (cl_lt (n := 4) o9 o10)
      refine lv_i2l hx hb dX12_laySpan_42 rfl ?_
      refine lv_topl (fun y18 ey18 => ?_)
      refine lv_goto (tgt := 47) hx hb dX12_laySpan_43 rfl ?_
      refine lv_lstore (lv' := [(4, .long y18), (3, .int z5), (2, .int z1), (0, .ref h), (1, .int x)]) hx hb dX12_laySpan_47 hl (Nat.le_of_ble_eq_true rfl) rfl (fun ls hl => ?_)
      refine lv_aload_n hx hb dX12_laySpan_49 rfl (lv_at hl 3 rfl) ?_
      refine va_get (D := (dC, dI)) (ci := 12) (v := .ref (ad 27)) (C := RX12) (T := TX12) (N := 59) hx hb hts hin12 hown hK hP 0 rfl rfl 27 (Nat.le_of_ble_eq_true rfl) (ho (.fieldLink RX12 70 "NearEnoughModel" "sLeast" "[J") (List.mem_of_getElem? (i := 3) rfl)) (fun _ h9 => h9) rfl dX12_laySpan_50 ?_
      refine lv_iload_n hx hb dX12_laySpan_53 rfl (lv_at hl 4 rfl) ?_
      refine lv_lload hx hb dX12_laySpan_54 (lv_at hl 0 rfl) ?_
      refine lv_aload_n hx hb dX12_laySpan_56 rfl (lv_at hl 3 rfl) ?_
      refine va_get (D := (dC, dI)) (ci := 12) (v := .ref (ad 15)) (C := RX12) (T := TX12) (N := 59) hx hb hts hin12 hown hK hP 0 rfl rfl 15 (Nat.le_of_ble_eq_true rfl) (ho (.fieldLink RX12 33 "NearEnoughModel" "rLeast" "[I") (List.mem_of_getElem? (i := 4) rfl)) (fun _ h9 => h9) rfl dX12_laySpan_57 ?_
      refine lv_iload_n hx hb dX12_laySpan_60 rfl (lv_at hl 1 rfl) ?_
      refine va_iald hx hb hK hP 7 6 rfl rfl (ti_inx o9 o10) dX12_laySpan_61 ?_
      refine lv_topi (fun z19 ez19 => ?_)
      have gz19 : z19.toInt = ((σ.2.1 15) (Int32.toNatClampNeg z5)).toInt := congrArg Int32.toInt (ez19.trans (congrFun rfl (Int32.toNatClampNeg z5)))
      refine lv_i2l hx hb dX12_laySpan_62 rfl ?_
      refine lv_topl (fun y20 ey20 => ?_)
      refine lv_lmul hx hb dX12_laySpan_63 ?_
      refine lv_topl (fun y21 ey21 => ?_)
      refine va_last hx hb hK hP hD hS 19 18 rfl rfl (ti_inx o1 o2) dX12_laySpan_64 (fun H locs hP hD hS => ?_)
      rw [wS27] at hP hD
      obtain ⟨τ22, eτ22⟩ : ∃ x9 : MS, x9 = sJ σ 27 (vp_updL (σ.2.2.1 27) (Int32.toNatClampNeg x) y21) := ⟨_, rfl⟩
      have hP : va_P (dC, dI) vwCl (mW h ad cl τ22) H := by rw [eτ22]; exact hP
      have hD : va_D A (mW h ad cl τ22) := by rw [eτ22]; exact hD
      have hIτ22 : Inv τ22 := by rw [eτ22]; exact (Inv.sJ hI)
      have Xτ22 : eqx [27, 28] τ22 σ := (eqx.eq eτ22 (eqx.sJ eqx.rf rg_169))
      have qq23 : (τ22.1 30).toInt = ((σ.1 30) : Int32).toInt := congrArg Int32.toInt ((show τ22.1 30 = (σ.1 30) from (congrArg (fun x9 : MS => x9.1 30) eτ22).trans rfl))
      refine lv_aload_n hx hb dX12_laySpan_65 rfl (lv_at hl 3 rfl) ?_
      refine va_get (D := (dC, dI)) (ci := 12) (v := .ref (ad 28)) (C := RX12) (T := TX12) (N := 59) hx hb hts hin12 hown hK hP 0 rfl rfl 28 (Nat.le_of_ble_eq_true rfl) (ho (.fieldLink RX12 73 "NearEnoughModel" "sMost" "[J") (List.mem_of_getElem? (i := 5) rfl)) (fun _ h9 => h9) rfl dX12_laySpan_66 ?_
      refine lv_iload_n hx hb dX12_laySpan_69 rfl (lv_at hl 4 rfl) ?_
      refine lv_lload hx hb dX12_laySpan_70 (lv_at hl 0 rfl) ?_
      refine lv_aload_n hx hb dX12_laySpan_72 rfl (lv_at hl 3 rfl) ?_
      refine va_get (D := (dC, dI)) (ci := 12) (v := .ref (ad 16)) (C := RX12) (T := TX12) (N := 59) hx hb hts hin12 hown hK hP 0 rfl rfl 16 (Nat.le_of_ble_eq_true rfl) (ho (.fieldLink RX12 36 "NearEnoughModel" "rMost" "[I") (List.mem_of_getElem? (i := 6) rfl)) (fun _ h9 => h9) rfl dX12_laySpan_73 ?_
      refine lv_iload_n hx hb dX12_laySpan_76 rfl (lv_at hl 1 rfl) ?_
      refine va_iald hx hb hK hP 8 7 rfl rfl (ti_inx o9 o10) dX12_laySpan_77 ?_
      refine lv_topi (fun z24 ez24 => ?_)
      have gz24 : z24.toInt = ((σ.2.1 16) (Int32.toNatClampNeg z5)).toInt := congrArg Int32.toInt (ez24.trans (congrFun ((congrArg (fun x9 : MS => x9.2.1 16) eτ22).trans (tJ.trans rfl)) (Int32.toNatClampNeg z5)))
      refine lv_i2l hx hb dX12_laySpan_78 rfl ?_
      refine lv_topl (fun y25 ey25 => ?_)
      refine lv_lmul hx hb dX12_laySpan_79 ?_
      refine lv_topl (fun y26 ey26 => ?_)
      refine va_last hx hb hK hP hD hS 20 19 rfl rfl (ti_inx o1 o2) dX12_laySpan_80 (fun H locs hP hD hS => ?_)
      rw [wS28] at hP hD
      obtain ⟨τ27, eτ27⟩ : ∃ x9 : MS, x9 = sJ τ22 28 (vp_updL (τ22.2.2.1 28) (Int32.toNatClampNeg x) y26) := ⟨_, rfl⟩
      have hP : va_P (dC, dI) vwCl (mW h ad cl τ27) H := by rw [eτ27]; exact hP
      have hD : va_D A (mW h ad cl τ27) := by rw [eτ27]; exact hD
      have hIτ27 : Inv τ27 := by rw [eτ27]; exact (Inv.sJ hIτ22)
      have Xτ27 : eqx [27, 28] τ27 σ := (eqx.eq eτ27 (eqx.sJ Xτ22 rg_170))
      have qq28 : (τ27.1 30).toInt = ((σ.1 30) : Int32).toInt := congrArg Int32.toInt ((show τ27.1 30 = (σ.1 30) from (congrArg (fun x9 : MS => x9.1 30) eτ27).trans (show τ22.1 30 = (σ.1 30) from (congrArg (fun x9 : MS => x9.1 30) eτ22).trans rfl)))
      rw [hQ]
      exact W.vret hx hb hr (fun t ht hW => ⟨⟨τ27, rfl, ⟨hIτ27, Xτ27⟩, wEn_of hP (hK.sub [] rfl) hD ht hW⟩, hS.F ht⟩) hS.2.2 dX12_laySpan_81
  · have tc2 := (show 1 < z1.toInt from ti_nle rfl rg_18 c2)
    refine lv_iload_n hx hb dX12_laySpan_12 rfl (lv_at hl 0 rfl) ?_
    refine lv_bipush (v := 6) hx hb dX12_laySpan_13 rg_55 ?_
    refine lv_icmp_ne (tgt := 82) hx hb dX12_laySpan_15 rfl (fun c29 => ?_) (fun c29 => ?_)
    · have tc29 := (show z1.toInt ≠ 6 from ti_ne rfl rg_70 c29)
      refine lv_bipush (v := 12) hx hb dX12_laySpan_82 rg_57 ?_
      refine lv_aload_n hx hb dX12_laySpan_84 rfl (lv_at hl 1 rfl) ?_
      refine va_get (D := (dC, dI)) (ci := 12) (v := .int (σ.1 30)) (C := RX12) (T := TX12) (N := 59) hx hb hts hin12 hown hK hP 0 rfl rfl 30 (Nat.le_of_ble_eq_true rfl) (ho (.fieldLink RX12 243 "NearEnoughModel" "rb" "I") (List.mem_of_getElem? (i := 1) rfl)) (fun _ h9 => h9) rfl dX12_laySpan_85 ?_
      have bσ_30 : 0 ≤ (σ.1 30).toInt ∧ (σ.1 30).toInt ≤ 1 := hI.1 30
      refine lv_imul hx hb dX12_laySpan_88 ?_
      refine lv_topi (fun z30 ez30 => ?_)
      have o11 : -2147483648 ≤ 12 * (σ.1 30).toInt := by omega
      have o12 : 12 * (σ.1 30).toInt ≤ 2147483647 := by omega
      have tz30 : z30.toInt = 12 * (σ.1 30).toInt := ti_mul ez30 rg_58 rfl o11 o12
      refine lv_istore_n (lv' := [(3, .int z30), (2, .int z1), (0, .ref h), (1, .int x)]) hx hb dX12_laySpan_89 rfl hl (Nat.le_of_ble_eq_true rfl) rfl (fun ls hl => ?_)
      refine lv_aload_n hx hb dX12_laySpan_90 rfl (lv_at hl 2 rfl) ?_
      refine va_get (D := (dC, dI)) (ci := 12) (v := .ref (ad 27)) (C := RX12) (T := TX12) (N := 59) hx hb hts hin12 hown hK hP 0 rfl rfl 27 (Nat.le_of_ble_eq_true rfl) (ho (.fieldLink RX12 70 "NearEnoughModel" "sLeast" "[J") (List.mem_of_getElem? (i := 3) rfl)) (fun _ h9 => h9) rfl dX12_laySpan_91 ?_
      refine lv_iload_n hx hb dX12_laySpan_94 rfl (lv_at hl 0 rfl) ?_
      refine lv_aload_n hx hb dX12_laySpan_95 rfl (lv_at hl 2 rfl) ?_
      refine va_get (D := (dC, dI)) (ci := 12) (v := .ref (ad 18)) (C := RX12) (T := TX12) (N := 59) hx hb hts hin12 hown hK hP 0 rfl rfl 18 (Nat.le_of_ble_eq_true rfl) (ho (.fieldLink RX12 42 "NearEnoughModel" "sA" "[I") (List.mem_of_getElem? (i := 2) rfl)) (fun _ h9 => h9) rfl dX12_laySpan_96 ?_
      refine lv_iload_n hx hb dX12_laySpan_99 rfl (lv_at hl 3 rfl) ?_
      refine va_iald hx hb hK hP 10 9 rfl rfl (ti_inx o1 o2) dX12_laySpan_100 ?_
      refine lv_topi (fun z31 ez31 => ?_)
      have gz31 : z31.toInt = ((σ.2.1 18) (Int32.toNatClampNeg x)).toInt := congrArg Int32.toInt (ez31.trans (congrFun rfl (Int32.toNatClampNeg x)))
      have bz31 : (-1) ≤ z31.toInt ∧ z31.toInt ≤ 11 := by rw [ez31]; exact (hI.2 18) _ (cl_lt (n := 24) o1 o2)
      refine lv_iadd hx hb dX12_laySpan_101 ?_
      refine lv_topi (fun z32 ez32 => ?_)
      have o13 : -2147483648 ≤ z30.toInt + z31.toInt := by omega
      have o14 : z30.toInt + z31.toInt ≤ 2147483647 := by omega
      have tz32 : z32.toInt = z30.toInt + z31.toInt := ti_add ez32 rfl rfl o13 o14
      have o15 : 0 ≤ z32.toInt := by omega
      have o16 : z32.toInt < ((24 : Nat) : Int) := by omega
      refine va_lald hx hb hK hP 19 18 rfl rfl (ti_inx o15 o16) dX12_laySpan_102 ?_
      refine lv_topl (fun y33 ey33 => ?_)
      refine lv_lstore (lv' := [(4, .long y33), (3, .int z30), (2, .int z1), (0, .ref h), (1, .int x)]) hx hb dX12_laySpan_103 hl (Nat.le_of_ble_eq_true rfl) rfl (fun ls hl => ?_)
      refine lv_aload_n hx hb dX12_laySpan_105 rfl (lv_at hl 3 rfl) ?_
      refine va_get (D := (dC, dI)) (ci := 12) (v := .ref (ad 28)) (C := RX12) (T := TX12) (N := 59) hx hb hts hin12 hown hK hP 0 rfl rfl 28 (Nat.le_of_ble_eq_true rfl) (ho (.fieldLink RX12 73 "NearEnoughModel" "sMost" "[J") (List.mem_of_getElem? (i := 5) rfl)) (fun _ h9 => h9) rfl dX12_laySpan_106 ?_
      refine lv_iload_n hx hb dX12_laySpan_109 rfl (lv_at hl 1 rfl) ?_
      refine lv_aload_n hx hb dX12_laySpan_110 rfl (lv_at hl 3 rfl) ?_
      refine va_get (D := (dC, dI)) (ci := 12) (v := .ref (ad 18)) (C := RX12) (T := TX12) (N := 59) hx hb hts hin12 hown hK hP 0 rfl rfl 18 (Nat.le_of_ble_eq_true rfl) (ho (.fieldLink RX12 42 "NearEnoughModel" "sA" "[I") (List.mem_of_getElem? (i := 2) rfl)) (fun _ h9 => h9) rfl dX12_laySpan_111 ?_
      refine lv_iload_n hx hb dX12_laySpan_114 rfl (lv_at hl 4 rfl) ?_
      refine va_iald hx hb hK hP 10 9 rfl rfl (ti_inx o1 o2) dX12_laySpan_115 ?_
      refine lv_topi (fun z34 ez34 => ?_)
      have qq35 : z34.toInt = z31.toInt := congrArg Int32.toInt ((ez34.trans (congrFun rfl (Int32.toNatClampNeg x))).trans ((ez31.trans (congrFun rfl (Int32.toNatClampNeg x)))).symm)
      have gz34 : z34.toInt = ((σ.2.1 18) (Int32.toNatClampNeg x)).toInt := congrArg Int32.toInt (ez34.trans (congrFun rfl (Int32.toNatClampNeg x)))
      have bz34 : (-1) ≤ z34.toInt ∧ z34.toInt ≤ 11 := by rw [ez34]; exact (hI.2 18) _ (cl_lt (n := 24) o1 o2)
      refine lv_iadd hx hb dX12_laySpan_116 ?_
      refine lv_topi (fun z36 ez36 => ?_)
      have o17 : -2147483648 ≤ z30.toInt + z34.toInt := by omega
      have o18 : z30.toInt + z34.toInt ≤ 2147483647 := by omega
      have tz36 : z36.toInt = z30.toInt + z34.toInt := ti_add ez36 rfl rfl o17 o18
      have o19 : 0 ≤ z36.toInt := by omega
      have o20 : z36.toInt < ((24 : Nat) : Int) := by omega
      refine va_lald hx hb hK hP 20 19 rfl rfl (ti_inx o19 o20) dX12_laySpan_117 ?_
      refine lv_topl (fun y37 ey37 => ?_)
      refine lv_lstore (lv' := [(6, .long y37), (4, .long y33), (3, .int z30), (2, .int z1), (0, .ref h), (1, .int x)]) hx hb dX12_laySpan_118 hl (Nat.le_of_ble_eq_true rfl) rfl (fun ls hl => ?_)
      refine lv_iload_n hx hb dX12_laySpan_120 rfl (lv_at hl 3 rfl) ?_
      refine lv_iconst (v := 5) hx hb dX12_laySpan_121 rg_14 ?_
      refine lv_icmp_ne (tgt := 216) hx hb dX12_laySpan_122 rfl (fun c38 => ?_) (fun c38 => ?_)
      · have tc38 := (show z1.toInt ≠ 5 from ti_ne rfl rg_15 c38)
        refine lv_aload_n hx hb dX12_laySpan_216 rfl (lv_at hl 4 rfl) ?_
        refine va_get (D := (dC, dI)) (ci := 12) (v := .ref (ad 27)) (C := RX12) (T := TX12) (N := 59) hx hb hts hin12 hown hK hP 0 rfl rfl 27 (Nat.le_of_ble_eq_true rfl) (ho (.fieldLink RX12 70 "NearEnoughModel" "sLeast" "[J") (List.mem_of_getElem? (i := 3) rfl)) (fun _ h9 => h9) rfl dX12_laySpan_217 ?_
        refine lv_iload_n hx hb dX12_laySpan_220 rfl (lv_at hl 2 rfl) ?_
        refine lv_aload_n hx hb dX12_laySpan_221 rfl (lv_at hl 4 rfl) ?_
        refine va_get (D := (dC, dI)) (ci := 12) (v := .ref (ad 19)) (C := RX12) (T := TX12) (N := 59) hx hb hts hin12 hown hK hP 0 rfl rfl 19 (Nat.le_of_ble_eq_true rfl) (ho (.fieldLink RX12 45 "NearEnoughModel" "sB" "[I") (List.mem_of_getElem? (i := 8) rfl)) (fun _ h9 => h9) rfl dX12_laySpan_222 ?_
        refine lv_iload_n hx hb dX12_laySpan_225 rfl (lv_at hl 5 rfl) ?_
        refine va_iald hx hb hK hP 11 10 rfl rfl (ti_inx o1 o2) dX12_laySpan_226 ?_
        refine lv_topi (fun z39 ez39 => ?_)
        have gz39 : z39.toInt = ((σ.2.1 19) (Int32.toNatClampNeg x)).toInt := congrArg Int32.toInt (ez39.trans (congrFun rfl (Int32.toNatClampNeg x)))
        have bz39 : (-99) ≤ z39.toInt ∧ z39.toInt ≤ 99 := by rw [ez39]; exact (hI.2 19) _ (cl_lt (n := 24) o1 o2)
        refine lv_iadd hx hb dX12_laySpan_227 ?_
        refine lv_topi (fun z40 ez40 => ?_)
        have o21 : -2147483648 ≤ z30.toInt + z39.toInt := by omega
        have o22 : z30.toInt + z39.toInt ≤ 2147483647 := by omega
        have tz40 : z40.toInt = z30.toInt + z39.toInt := ti_add ez40 rfl rfl o21 o22
        have o23 : 0 ≤ z40.toInt := by omega
        have o24 : z40.toInt < ((24 : Nat) : Int) := by omega
        refine va_lald hx hb hK hP 19 18 rfl rfl (ti_inx o23 o24) dX12_laySpan_228 ?_
        refine lv_topl (fun y41 ey41 => ?_)
        refine lv_lstore (lv' := [(8, .long y41), (6, .long y37), (4, .long y33), (3, .int z30), (2, .int z1), (0, .ref h), (1, .int x)]) hx hb dX12_laySpan_229 hl (Nat.le_of_ble_eq_true rfl) rfl (fun ls hl => ?_)
        refine lv_aload_n hx hb dX12_laySpan_231 rfl (lv_at hl 5 rfl) ?_
        refine va_get (D := (dC, dI)) (ci := 12) (v := .ref (ad 28)) (C := RX12) (T := TX12) (N := 59) hx hb hts hin12 hown hK hP 0 rfl rfl 28 (Nat.le_of_ble_eq_true rfl) (ho (.fieldLink RX12 73 "NearEnoughModel" "sMost" "[J") (List.mem_of_getElem? (i := 5) rfl)) (fun _ h9 => h9) rfl dX12_laySpan_232 ?_
        refine lv_iload_n hx hb dX12_laySpan_235 rfl (lv_at hl 3 rfl) ?_
        refine lv_aload_n hx hb dX12_laySpan_236 rfl (lv_at hl 5 rfl) ?_
        refine va_get (D := (dC, dI)) (ci := 12) (v := .ref (ad 19)) (C := RX12) (T := TX12) (N := 59) hx hb hts hin12 hown hK hP 0 rfl rfl 19 (Nat.le_of_ble_eq_true rfl) (ho (.fieldLink RX12 45 "NearEnoughModel" "sB" "[I") (List.mem_of_getElem? (i := 8) rfl)) (fun _ h9 => h9) rfl dX12_laySpan_237 ?_
        refine lv_iload_n hx hb dX12_laySpan_240 rfl (lv_at hl 6 rfl) ?_
        refine va_iald hx hb hK hP 11 10 rfl rfl (ti_inx o1 o2) dX12_laySpan_241 ?_
        refine lv_topi (fun z42 ez42 => ?_)
        have qq43 : z42.toInt = z39.toInt := congrArg Int32.toInt ((ez42.trans (congrFun rfl (Int32.toNatClampNeg x))).trans ((ez39.trans (congrFun rfl (Int32.toNatClampNeg x)))).symm)
        have gz42 : z42.toInt = ((σ.2.1 19) (Int32.toNatClampNeg x)).toInt := congrArg Int32.toInt (ez42.trans (congrFun rfl (Int32.toNatClampNeg x)))
        have bz42 : (-99) ≤ z42.toInt ∧ z42.toInt ≤ 99 := by rw [ez42]; exact (hI.2 19) _ (cl_lt (n := 24) o1 o2)
        refine lv_iadd hx hb dX12_laySpan_242 ?_
        refine lv_topi (fun z44 ez44 => ?_)
        have o25 : -2147483648 ≤ z30.toInt + z42.toInt := by omega
        have o26 : z30.toInt + z42.toInt ≤ 2147483647 := by omega
        have tz44 : z44.toInt = z30.toInt + z42.toInt := ti_add ez44 rfl rfl o25 o26
        have o27 : 0 ≤ z44.toInt := by omega
        have o28 : z44.toInt < ((24 : Nat) : Int) := by omega
        refine va_lald hx hb hK hP 20 19 rfl rfl (ti_inx o27 o28) dX12_laySpan_243 ?_
        refine lv_topl (fun y45 ey45 => ?_)
        refine lv_lstore (lv' := [(10, .long y45), (8, .long y41), (6, .long y37), (4, .long y33), (3, .int z30), (2, .int z1), (0, .ref h), (1, .int x)]) hx hb dX12_laySpan_244 hl (Nat.le_of_ble_eq_true rfl) rfl (fun ls hl => ?_)
        refine lv_iload_n hx hb dX12_laySpan_246 rfl (lv_at hl 5 rfl) ?_
        refine lv_bipush (v := 7) hx hb dX12_laySpan_247 rg_54 ?_
        refine lv_icmp_ne (tgt := 279) hx hb dX12_laySpan_249 rfl (fun c46 => ?_) (fun c46 => ?_)
        · have tc46 := (show z1.toInt ≠ 7 from ti_ne rfl rg_77 c46)
          refine lv_iload_n hx hb dX12_laySpan_279 rfl (lv_at hl 5 rfl) ?_
          refine lv_iconst (v := 4) hx hb dX12_laySpan_280 rg_31 ?_
          refine lv_icmp_ne (tgt := 355) hx hb dX12_laySpan_281 rfl (fun c47 => ?_) (fun c47 => ?_)
          · have tc47 := (show z1.toInt ≠ 4 from ti_ne rfl rg_32 c47)
            refine lv_aload_n hx hb dX12_laySpan_355 rfl (lv_at hl 6 rfl) ?_
            refine va_get (D := (dC, dI)) (ci := 12) (v := .ref (ad 27)) (C := RX12) (T := TX12) (N := 59) hx hb hts hin12 hown hK hP 0 rfl rfl 27 (Nat.le_of_ble_eq_true rfl) (ho (.fieldLink RX12 70 "NearEnoughModel" "sLeast" "[J") (List.mem_of_getElem? (i := 3) rfl)) (fun _ h9 => h9) rfl dX12_laySpan_356 ?_
            refine lv_iload_n hx hb dX12_laySpan_359 rfl (lv_at hl 7 rfl) ?_
            refine lv_iload_n hx hb dX12_laySpan_360 rfl (lv_at hl 5 rfl) ?_
            refine lv_iconst (v := 2) hx hb dX12_laySpan_361 rg_19 ?_
            refine lv_icmp_ne (tgt := 373) hx hb dX12_laySpan_362 rfl (fun c48 => ?_) (fun c48 => ?_)
            · have tc48 := (show z1.toInt ≠ 2 from ti_ne rfl rg_20 c48)
              refine lv_lload hx hb dX12_laySpan_373 (lv_at hl 3 rfl) ?_
              refine lv_lload hx hb dX12_laySpan_375 (lv_at hl 0 rfl) ?_
              refine lv_lsub hx hb dX12_laySpan_377 ?_
              refine lv_topl (fun y49 ey49 => ?_)
              refine va_last hx hb hK hP hD hS 19 18 rfl rfl (ti_inx o1 o2) dX12_laySpan_378 (fun H locs hP hD hS => ?_)
              rw [wS27] at hP hD
              obtain ⟨τ50, eτ50⟩ : ∃ x9 : MS, x9 = sJ σ 27 (vp_updL (σ.2.2.1 27) (Int32.toNatClampNeg x) y49) := ⟨_, rfl⟩
              have hP : va_P (dC, dI) vwCl (mW h ad cl τ50) H := by rw [eτ50]; exact hP
              have hD : va_D A (mW h ad cl τ50) := by rw [eτ50]; exact hD
              have hIτ50 : Inv τ50 := by rw [eτ50]; exact (Inv.sJ hI)
              have Xτ50 : eqx [27, 28] τ50 σ := (eqx.eq eτ50 (eqx.sJ eqx.rf rg_169))
              have qq51 : (τ50.1 30).toInt = ((σ.1 30) : Int32).toInt := congrArg Int32.toInt ((show τ50.1 30 = (σ.1 30) from (congrArg (fun x9 : MS => x9.1 30) eτ50).trans rfl))
              refine lv_aload_n hx hb dX12_laySpan_379 rfl (lv_at hl 6 rfl) ?_
              refine va_get (D := (dC, dI)) (ci := 12) (v := .ref (ad 28)) (C := RX12) (T := TX12) (N := 59) hx hb hts hin12 hown hK hP 0 rfl rfl 28 (Nat.le_of_ble_eq_true rfl) (ho (.fieldLink RX12 73 "NearEnoughModel" "sMost" "[J") (List.mem_of_getElem? (i := 5) rfl)) (fun _ h9 => h9) rfl dX12_laySpan_380 ?_
              refine lv_iload_n hx hb dX12_laySpan_383 rfl (lv_at hl 7 rfl) ?_
              refine lv_iload_n hx hb dX12_laySpan_384 rfl (lv_at hl 5 rfl) ?_
              refine lv_iconst (v := 2) hx hb dX12_laySpan_385 rg_19 ?_
              refine lv_icmp_ne (tgt := 397) hx hb dX12_laySpan_386 rfl (fun c52 => ?_) (fun c52 => ?_)
              · have tc52 := (show z1.toInt ≠ 2 from ti_ne rfl rg_20 c52)
                refine lv_lload hx hb dX12_laySpan_397 (lv_at hl 2 rfl) ?_
                refine lv_lload hx hb dX12_laySpan_399 (lv_at hl 1 rfl) ?_
                refine lv_lsub hx hb dX12_laySpan_401 ?_
                refine lv_topl (fun y53 ey53 => ?_)
                refine va_last hx hb hK hP hD hS 20 19 rfl rfl (ti_inx o1 o2) dX12_laySpan_402 (fun H locs hP hD hS => ?_)
                rw [wS28] at hP hD
                obtain ⟨τ54, eτ54⟩ : ∃ x9 : MS, x9 = sJ τ50 28 (vp_updL (τ50.2.2.1 28) (Int32.toNatClampNeg x) y53) := ⟨_, rfl⟩
                have hP : va_P (dC, dI) vwCl (mW h ad cl τ54) H := by rw [eτ54]; exact hP
                have hD : va_D A (mW h ad cl τ54) := by rw [eτ54]; exact hD
                have hIτ54 : Inv τ54 := by rw [eτ54]; exact (Inv.sJ hIτ50)
                have Xτ54 : eqx [27, 28] τ54 σ := (eqx.eq eτ54 (eqx.sJ Xτ50 rg_170))
                have qq55 : (τ54.1 30).toInt = ((σ.1 30) : Int32).toInt := congrArg Int32.toInt ((show τ54.1 30 = (σ.1 30) from (congrArg (fun x9 : MS => x9.1 30) eτ54).trans (show τ50.1 30 = (σ.1 30) from (congrArg (fun x9 : MS => x9.1 30) eτ50).trans rfl)))
                rw [hQ]
                exact W.vret hx hb hr (fun t ht hW => ⟨⟨τ54, rfl, ⟨hIτ54, Xτ54⟩, wEn_of hP (hK.sub [] rfl) hD ht hW⟩, hS.F ht⟩) hS.2.2 dX12_laySpan_403
              · have tc52 := (show z1.toInt = 2 from ti_eq rfl rg_20 c52)
                refine lv_lload hx hb dX12_laySpan_389 (lv_at hl 2 rfl) ?_
                refine lv_lload hx hb dX12_laySpan_391 (lv_at hl 0 rfl) ?_
                refine lv_ladd hx hb dX12_laySpan_393 ?_
                refine lv_topl (fun y56 ey56 => ?_)
                refine lv_goto (tgt := 402) hx hb dX12_laySpan_394 rfl ?_
                refine va_last hx hb hK hP hD hS 20 19 rfl rfl (ti_inx o1 o2) dX12_laySpan_402 (fun H locs hP hD hS => ?_)
                rw [wS28] at hP hD
                obtain ⟨τ57, eτ57⟩ : ∃ x9 : MS, x9 = sJ τ50 28 (vp_updL (τ50.2.2.1 28) (Int32.toNatClampNeg x) y56) := ⟨_, rfl⟩
                have hP : va_P (dC, dI) vwCl (mW h ad cl τ57) H := by rw [eτ57]; exact hP
                have hD : va_D A (mW h ad cl τ57) := by rw [eτ57]; exact hD
                have hIτ57 : Inv τ57 := by rw [eτ57]; exact (Inv.sJ hIτ50)
                have Xτ57 : eqx [27, 28] τ57 σ := (eqx.eq eτ57 (eqx.sJ Xτ50 rg_170))
                have qq58 : (τ57.1 30).toInt = ((σ.1 30) : Int32).toInt := congrArg Int32.toInt ((show τ57.1 30 = (σ.1 30) from (congrArg (fun x9 : MS => x9.1 30) eτ57).trans (show τ50.1 30 = (σ.1 30) from (congrArg (fun x9 : MS => x9.1 30) eτ50).trans rfl)))
                rw [hQ]
                exact W.vret hx hb hr (fun t ht hW => ⟨⟨τ57, rfl, ⟨hIτ57, Xτ57⟩, wEn_of hP (hK.sub [] rfl) hD ht hW⟩, hS.F ht⟩) hS.2.2 dX12_laySpan_403
            · have tc48 := (show z1.toInt = 2 from ti_eq rfl rg_20 c48)
              refine lv_lload hx hb dX12_laySpan_365 (lv_at hl 3 rfl) ?_
              refine lv_lload hx hb dX12_laySpan_367 (lv_at hl 1 rfl) ?_
              refine lv_ladd hx hb dX12_laySpan_369 ?_
              refine lv_topl (fun y59 ey59 => ?_)
              refine lv_goto (tgt := 378) hx hb dX12_laySpan_370 rfl ?_
              refine va_last hx hb hK hP hD hS 19 18 rfl rfl (ti_inx o1 o2) dX12_laySpan_378 (fun H locs hP hD hS => ?_)
              rw [wS27] at hP hD
              obtain ⟨τ60, eτ60⟩ : ∃ x9 : MS, x9 = sJ σ 27 (vp_updL (σ.2.2.1 27) (Int32.toNatClampNeg x) y59) := ⟨_, rfl⟩
              have hP : va_P (dC, dI) vwCl (mW h ad cl τ60) H := by rw [eτ60]; exact hP
              have hD : va_D A (mW h ad cl τ60) := by rw [eτ60]; exact hD
              have hIτ60 : Inv τ60 := by rw [eτ60]; exact (Inv.sJ hI)
              have Xτ60 : eqx [27, 28] τ60 σ := (eqx.eq eτ60 (eqx.sJ eqx.rf rg_169))
              have qq61 : (τ60.1 30).toInt = ((σ.1 30) : Int32).toInt := congrArg Int32.toInt ((show τ60.1 30 = (σ.1 30) from (congrArg (fun x9 : MS => x9.1 30) eτ60).trans rfl))
              refine lv_aload_n hx hb dX12_laySpan_379 rfl (lv_at hl 6 rfl) ?_
              refine va_get (D := (dC, dI)) (ci := 12) (v := .ref (ad 28)) (C := RX12) (T := TX12) (N := 59) hx hb hts hin12 hown hK hP 0 rfl rfl 28 (Nat.le_of_ble_eq_true rfl) (ho (.fieldLink RX12 73 "NearEnoughModel" "sMost" "[J") (List.mem_of_getElem? (i := 5) rfl)) (fun _ h9 => h9) rfl dX12_laySpan_380 ?_
              refine lv_iload_n hx hb dX12_laySpan_383 rfl (lv_at hl 7 rfl) ?_
              refine lv_iload_n hx hb dX12_laySpan_384 rfl (lv_at hl 5 rfl) ?_
              refine lv_iconst (v := 2) hx hb dX12_laySpan_385 rg_19 ?_
              refine lv_icmp_ne (tgt := 397) hx hb dX12_laySpan_386 rfl (fun c62 => ?_) (fun c62 => ?_)
              · have tc62 := (show z1.toInt ≠ 2 from ti_ne rfl rg_20 c62)
                refine lv_lload hx hb dX12_laySpan_397 (lv_at hl 2 rfl) ?_
                refine lv_lload hx hb dX12_laySpan_399 (lv_at hl 1 rfl) ?_
                refine lv_lsub hx hb dX12_laySpan_401 ?_
                refine lv_topl (fun y63 ey63 => ?_)
                refine va_last hx hb hK hP hD hS 20 19 rfl rfl (ti_inx o1 o2) dX12_laySpan_402 (fun H locs hP hD hS => ?_)
                rw [wS28] at hP hD
                obtain ⟨τ64, eτ64⟩ : ∃ x9 : MS, x9 = sJ τ60 28 (vp_updL (τ60.2.2.1 28) (Int32.toNatClampNeg x) y63) := ⟨_, rfl⟩
                have hP : va_P (dC, dI) vwCl (mW h ad cl τ64) H := by rw [eτ64]; exact hP
                have hD : va_D A (mW h ad cl τ64) := by rw [eτ64]; exact hD
                have hIτ64 : Inv τ64 := by rw [eτ64]; exact (Inv.sJ hIτ60)
                have Xτ64 : eqx [27, 28] τ64 σ := (eqx.eq eτ64 (eqx.sJ Xτ60 rg_170))
                have qq65 : (τ64.1 30).toInt = ((σ.1 30) : Int32).toInt := congrArg Int32.toInt ((show τ64.1 30 = (σ.1 30) from (congrArg (fun x9 : MS => x9.1 30) eτ64).trans (show τ60.1 30 = (σ.1 30) from (congrArg (fun x9 : MS => x9.1 30) eτ60).trans rfl)))
                rw [hQ]
                exact W.vret hx hb hr (fun t ht hW => ⟨⟨τ64, rfl, ⟨hIτ64, Xτ64⟩, wEn_of hP (hK.sub [] rfl) hD ht hW⟩, hS.F ht⟩) hS.2.2 dX12_laySpan_403
              · have tc62 := (show z1.toInt = 2 from ti_eq rfl rg_20 c62)
                refine lv_lload hx hb dX12_laySpan_389 (lv_at hl 2 rfl) ?_
                refine lv_lload hx hb dX12_laySpan_391 (lv_at hl 0 rfl) ?_
                refine lv_ladd hx hb dX12_laySpan_393 ?_
                refine lv_topl (fun y66 ey66 => ?_)
                refine lv_goto (tgt := 402) hx hb dX12_laySpan_394 rfl ?_
                refine va_last hx hb hK hP hD hS 20 19 rfl rfl (ti_inx o1 o2) dX12_laySpan_402 (fun H locs hP hD hS => ?_)
                rw [wS28] at hP hD
                obtain ⟨τ67, eτ67⟩ : ∃ x9 : MS, x9 = sJ τ60 28 (vp_updL (τ60.2.2.1 28) (Int32.toNatClampNeg x) y66) := ⟨_, rfl⟩
                have hP : va_P (dC, dI) vwCl (mW h ad cl τ67) H := by rw [eτ67]; exact hP
                have hD : va_D A (mW h ad cl τ67) := by rw [eτ67]; exact hD
                have hIτ67 : Inv τ67 := by rw [eτ67]; exact (Inv.sJ hIτ60)
                have Xτ67 : eqx [27, 28] τ67 σ := (eqx.eq eτ67 (eqx.sJ Xτ60 rg_170))
                have qq68 : (τ67.1 30).toInt = ((σ.1 30) : Int32).toInt := congrArg Int32.toInt ((show τ67.1 30 = (σ.1 30) from (congrArg (fun x9 : MS => x9.1 30) eτ67).trans (show τ60.1 30 = (σ.1 30) from (congrArg (fun x9 : MS => x9.1 30) eτ60).trans rfl)))
                rw [hQ]
                exact W.vret hx hb hr (fun t ht hW => ⟨⟨τ67, rfl, ⟨hIτ67, Xτ67⟩, wEn_of hP (hK.sub [] rfl) hD ht hW⟩, hS.F ht⟩) hS.2.2 dX12_laySpan_403
          · have tc47 := (show z1.toInt = 4 from ti_eq rfl rg_32 c47)
            refine lv_aload_n hx hb dX12_laySpan_284 rfl (lv_at hl 6 rfl) ?_
            refine va_get (D := (dC, dI)) (ci := 12) (v := .ref (ad 27)) (C := RX12) (T := TX12) (N := 59) hx hb hts hin12 hown hK hP 0 rfl rfl 27 (Nat.le_of_ble_eq_true rfl) (ho (.fieldLink RX12 70 "NearEnoughModel" "sLeast" "[J") (List.mem_of_getElem? (i := 3) rfl)) (fun _ h9 => h9) rfl dX12_laySpan_285 ?_
            refine lv_iload_n hx hb dX12_laySpan_288 rfl (lv_at hl 7 rfl) ?_
            refine lv_lload hx hb dX12_laySpan_289 (lv_at hl 3 rfl) ?_
            refine lv_lload hx hb dX12_laySpan_291 (lv_at hl 1 rfl) ?_
            refine lv_lmul hx hb dX12_laySpan_293 ?_
            refine lv_topl (fun y69 ey69 => ?_)
            refine lv_lload hx hb dX12_laySpan_294 (lv_at hl 3 rfl) ?_
            refine lv_lload hx hb dX12_laySpan_296 (lv_at hl 0 rfl) ?_
            refine lv_lmul hx hb dX12_laySpan_298 ?_
            refine lv_topl (fun y70 ey70 => ?_)
            refine zs_l (va_runS (As := [.long y69, .long y70]) (rest := [.int x, .ref (ad 27)]) ⟨hx, hb, hml, hown, hts⟩ (n_lesser l dC dI y69 y70  H.size) (va_cwS 2 hts gd_n_laySpan_314_n_lesser rfl rfl rfl dd_n_lesser ⟨Nat.le_of_ble_eq_true rfl, Nat.le_of_ble_eq_true rfl⟩) (preS (A := A) empP (hK.sub (tys' := []) [] rfl) empD hE) rfl rfl hl.1 rfl (lv_room (Nat.le_of_ble_eq_true rfl)) dX12_laySpan_299 ⟨Nat.le_of_ble_eq_true rfl, Nat.le_of_ble_eq_true rfl⟩) hP hD hS hA (fun y71 H locs hq hP hD hS => ?_)
            obtain f72 := hq
            refine W.widen (k := 0) (n := 0) (Nat.le_of_ble_eq_true rfl) (Nat.le_of_ble_eq_true rfl) ?_
            refine lv_lload hx hb dX12_laySpan_302 (lv_at hl 2 rfl) ?_
            refine lv_lload hx hb dX12_laySpan_304 (lv_at hl 1 rfl) ?_
            refine lv_lmul hx hb dX12_laySpan_306 ?_
            refine lv_topl (fun y73 ey73 => ?_)
            refine lv_lload hx hb dX12_laySpan_307 (lv_at hl 2 rfl) ?_
            refine lv_lload hx hb dX12_laySpan_309 (lv_at hl 0 rfl) ?_
            refine lv_lmul hx hb dX12_laySpan_311 ?_
            refine lv_topl (fun y74 ey74 => ?_)
            refine zs_l (va_runS (As := [.long y73, .long y74]) (rest := [.long y71, .int x, .ref (ad 27)]) ⟨hx, hb, hml, hown, hts⟩ (n_lesser l dC dI y73 y74  H.size) (va_cwS 2 hts gd_n_laySpan_314_n_lesser rfl rfl rfl dd_n_lesser ⟨Nat.le_of_ble_eq_true rfl, Nat.le_of_ble_eq_true rfl⟩) (preS (A := A) empP (hK.sub (tys' := []) [] rfl) empD hE) rfl rfl hl.1 rfl (lv_room (Nat.le_of_ble_eq_true rfl)) dX12_laySpan_312 ⟨Nat.le_of_ble_eq_true rfl, Nat.le_of_ble_eq_true rfl⟩) hP hD hS hA (fun y75 H locs hq hP hD hS => ?_)
            obtain f76 := hq
            refine W.widen (k := 0) (n := 0) (Nat.le_of_ble_eq_true rfl) (Nat.le_of_ble_eq_true rfl) ?_
            refine zs_l (va_runS (As := [.long y71, .long y75]) (rest := [.int x, .ref (ad 27)]) ⟨hx, hb, hml, hown, hts⟩ (n_lesser l dC dI y71 y75  H.size) (va_cwS 2 hts gd_n_laySpan_314_n_lesser rfl rfl rfl dd_n_lesser ⟨Nat.le_of_ble_eq_true rfl, Nat.le_of_ble_eq_true rfl⟩) (preS (A := A) empP (hK.sub (tys' := []) [] rfl) empD hE) rfl rfl hl.1 rfl (lv_room (Nat.le_of_ble_eq_true rfl)) dX12_laySpan_315 ⟨Nat.le_of_ble_eq_true rfl, Nat.le_of_ble_eq_true rfl⟩) hP hD hS hA (fun y77 H locs hq hP hD hS => ?_)
            obtain f78 := hq
            refine W.widen (k := 0) (n := 0) (Nat.le_of_ble_eq_true rfl) (Nat.le_of_ble_eq_true rfl) ?_
            refine va_last hx hb hK hP hD hS 19 18 rfl rfl (ti_inx o1 o2) dX12_laySpan_318 (fun H locs hP hD hS => ?_)
            rw [wS27] at hP hD
            obtain ⟨τ79, eτ79⟩ : ∃ x9 : MS, x9 = sJ σ 27 (vp_updL (σ.2.2.1 27) (Int32.toNatClampNeg x) y77) := ⟨_, rfl⟩
            have hP : va_P (dC, dI) vwCl (mW h ad cl τ79) H := by rw [eτ79]; exact hP
            have hD : va_D A (mW h ad cl τ79) := by rw [eτ79]; exact hD
            have hIτ79 : Inv τ79 := by rw [eτ79]; exact (Inv.sJ hI)
            have Xτ79 : eqx [27, 28] τ79 σ := (eqx.eq eτ79 (eqx.sJ eqx.rf rg_169))
            have qq80 : (τ79.1 30).toInt = ((σ.1 30) : Int32).toInt := congrArg Int32.toInt ((show τ79.1 30 = (σ.1 30) from (congrArg (fun x9 : MS => x9.1 30) eτ79).trans rfl))
            refine lv_aload_n hx hb dX12_laySpan_319 rfl (lv_at hl 6 rfl) ?_
            refine va_get (D := (dC, dI)) (ci := 12) (v := .ref (ad 28)) (C := RX12) (T := TX12) (N := 59) hx hb hts hin12 hown hK hP 0 rfl rfl 28 (Nat.le_of_ble_eq_true rfl) (ho (.fieldLink RX12 73 "NearEnoughModel" "sMost" "[J") (List.mem_of_getElem? (i := 5) rfl)) (fun _ h9 => h9) rfl dX12_laySpan_320 ?_
            refine lv_iload_n hx hb dX12_laySpan_323 rfl (lv_at hl 7 rfl) ?_
            refine lv_lload hx hb dX12_laySpan_324 (lv_at hl 3 rfl) ?_
            refine lv_lload hx hb dX12_laySpan_326 (lv_at hl 1 rfl) ?_
            refine lv_lmul hx hb dX12_laySpan_328 ?_
            refine lv_topl (fun y81 ey81 => ?_)
            refine lv_lload hx hb dX12_laySpan_329 (lv_at hl 3 rfl) ?_
            refine lv_lload hx hb dX12_laySpan_331 (lv_at hl 0 rfl) ?_
            refine lv_lmul hx hb dX12_laySpan_333 ?_
            refine lv_topl (fun y82 ey82 => ?_)
            refine zs_l (va_runS (As := [.long y81, .long y82]) (rest := [.int x, .ref (ad 28)]) ⟨hx, hb, hml, hown, hts⟩ (n_greater l dC dI y81 y82  H.size) (va_cwS 2 hts gd_n_laySpan_318_n_greater rfl rfl rfl dd_n_greater ⟨Nat.le_of_ble_eq_true rfl, Nat.le_of_ble_eq_true rfl⟩) (preS (A := A) empP (hK.sub (tys' := []) [] rfl) empD hE) rfl rfl hl.1 rfl (lv_room (Nat.le_of_ble_eq_true rfl)) dX12_laySpan_334 ⟨Nat.le_of_ble_eq_true rfl, Nat.le_of_ble_eq_true rfl⟩) hP hD hS hA (fun y83 H locs hq hP hD hS => ?_)
            obtain f84 := hq
            refine W.widen (k := 0) (n := 0) (Nat.le_of_ble_eq_true rfl) (Nat.le_of_ble_eq_true rfl) ?_
            refine lv_lload hx hb dX12_laySpan_337 (lv_at hl 2 rfl) ?_
            refine lv_lload hx hb dX12_laySpan_339 (lv_at hl 1 rfl) ?_
            refine lv_lmul hx hb dX12_laySpan_341 ?_
            refine lv_topl (fun y85 ey85 => ?_)
            refine lv_lload hx hb dX12_laySpan_342 (lv_at hl 2 rfl) ?_
            refine lv_lload hx hb dX12_laySpan_344 (lv_at hl 0 rfl) ?_
            refine lv_lmul hx hb dX12_laySpan_346 ?_
            refine lv_topl (fun y86 ey86 => ?_)
            refine zs_l (va_runS (As := [.long y85, .long y86]) (rest := [.long y83, .int x, .ref (ad 28)]) ⟨hx, hb, hml, hown, hts⟩ (n_greater l dC dI y85 y86  H.size) (va_cwS 2 hts gd_n_laySpan_318_n_greater rfl rfl rfl dd_n_greater ⟨Nat.le_of_ble_eq_true rfl, Nat.le_of_ble_eq_true rfl⟩) (preS (A := A) empP (hK.sub (tys' := []) [] rfl) empD hE) rfl rfl hl.1 rfl (lv_room (Nat.le_of_ble_eq_true rfl)) dX12_laySpan_347 ⟨Nat.le_of_ble_eq_true rfl, Nat.le_of_ble_eq_true rfl⟩) hP hD hS hA (fun y87 H locs hq hP hD hS => ?_)
            obtain f88 := hq
            refine W.widen (k := 0) (n := 0) (Nat.le_of_ble_eq_true rfl) (Nat.le_of_ble_eq_true rfl) ?_
            refine zs_l (va_runS (As := [.long y83, .long y87]) (rest := [.int x, .ref (ad 28)]) ⟨hx, hb, hml, hown, hts⟩ (n_greater l dC dI y83 y87  H.size) (va_cwS 2 hts gd_n_laySpan_318_n_greater rfl rfl rfl dd_n_greater ⟨Nat.le_of_ble_eq_true rfl, Nat.le_of_ble_eq_true rfl⟩) (preS (A := A) empP (hK.sub (tys' := []) [] rfl) empD hE) rfl rfl hl.1 rfl (lv_room (Nat.le_of_ble_eq_true rfl)) dX12_laySpan_350 ⟨Nat.le_of_ble_eq_true rfl, Nat.le_of_ble_eq_true rfl⟩) hP hD hS hA (fun y89 H locs hq hP hD hS => ?_)
            obtain f90 := hq
            refine W.widen (k := 0) (n := 0) (Nat.le_of_ble_eq_true rfl) (Nat.le_of_ble_eq_true rfl) ?_
            refine va_last hx hb hK hP hD hS 20 19 rfl rfl (ti_inx o1 o2) dX12_laySpan_353 (fun H locs hP hD hS => ?_)
            rw [wS28] at hP hD
            obtain ⟨τ91, eτ91⟩ : ∃ x9 : MS, x9 = sJ τ79 28 (vp_updL (τ79.2.2.1 28) (Int32.toNatClampNeg x) y89) := ⟨_, rfl⟩
            have hP : va_P (dC, dI) vwCl (mW h ad cl τ91) H := by rw [eτ91]; exact hP
            have hD : va_D A (mW h ad cl τ91) := by rw [eτ91]; exact hD
            have hIτ91 : Inv τ91 := by rw [eτ91]; exact (Inv.sJ hIτ79)
            have Xτ91 : eqx [27, 28] τ91 σ := (eqx.eq eτ91 (eqx.sJ Xτ79 rg_170))
            have qq92 : (τ91.1 30).toInt = ((σ.1 30) : Int32).toInt := congrArg Int32.toInt ((show τ91.1 30 = (σ.1 30) from (congrArg (fun x9 : MS => x9.1 30) eτ91).trans (show τ79.1 30 = (σ.1 30) from (congrArg (fun x9 : MS => x9.1 30) eτ79).trans rfl)))
            rw [hQ]
            exact W.vret hx hb hr (fun t ht hW => ⟨⟨τ91, rfl, ⟨hIτ91, Xτ91⟩, wEn_of hP (hK.sub [] rfl) hD ht hW⟩, hS.F ht⟩) hS.2.2 dX12_laySpan_354
        · have tc46 := (show z1.toInt = 7 from ti_eq rfl rg_77 c46)
          refine lv_aload_n hx hb dX12_laySpan_252 rfl (lv_at hl 6 rfl) ?_
          refine va_get (D := (dC, dI)) (ci := 12) (v := .ref (ad 27)) (C := RX12) (T := TX12) (N := 59) hx hb hts hin12 hown hK hP 0 rfl rfl 27 (Nat.le_of_ble_eq_true rfl) (ho (.fieldLink RX12 70 "NearEnoughModel" "sLeast" "[J") (List.mem_of_getElem? (i := 3) rfl)) (fun _ h9 => h9) rfl dX12_laySpan_253 ?_
          refine lv_iload_n hx hb dX12_laySpan_256 rfl (lv_at hl 7 rfl) ?_
          refine lv_lload hx hb dX12_laySpan_257 (lv_at hl 3 rfl) ?_
          refine lv_lload hx hb dX12_laySpan_259 (lv_at hl 1 rfl) ?_
          refine zs_l (va_runS (As := [.long y33, .long y41]) (rest := [.int x, .ref (ad 27)]) ⟨hx, hb, hml, hown, hts⟩ (n_lesser l dC dI y33 y41  H.size) (va_cwS 2 hts gd_n_laySpan_314_n_lesser rfl rfl rfl dd_n_lesser ⟨Nat.le_of_ble_eq_true rfl, Nat.le_of_ble_eq_true rfl⟩) (preS (A := A) empP (hK.sub (tys' := []) [] rfl) empD hE) rfl rfl hl.1 rfl (lv_room (Nat.le_of_ble_eq_true rfl)) dX12_laySpan_261 ⟨Nat.le_of_ble_eq_true rfl, Nat.le_of_ble_eq_true rfl⟩) hP hD hS hA (fun y93 H locs hq hP hD hS => ?_)
          obtain f94 := hq
          refine W.widen (k := 0) (n := 0) (Nat.le_of_ble_eq_true rfl) (Nat.le_of_ble_eq_true rfl) ?_
          refine va_last hx hb hK hP hD hS 19 18 rfl rfl (ti_inx o1 o2) dX12_laySpan_264 (fun H locs hP hD hS => ?_)
          rw [wS27] at hP hD
          obtain ⟨τ95, eτ95⟩ : ∃ x9 : MS, x9 = sJ σ 27 (vp_updL (σ.2.2.1 27) (Int32.toNatClampNeg x) y93) := ⟨_, rfl⟩
          have hP : va_P (dC, dI) vwCl (mW h ad cl τ95) H := by rw [eτ95]; exact hP
          have hD : va_D A (mW h ad cl τ95) := by rw [eτ95]; exact hD
          have hIτ95 : Inv τ95 := by rw [eτ95]; exact (Inv.sJ hI)
          have Xτ95 : eqx [27, 28] τ95 σ := (eqx.eq eτ95 (eqx.sJ eqx.rf rg_169))
          have qq96 : (τ95.1 30).toInt = ((σ.1 30) : Int32).toInt := congrArg Int32.toInt ((show τ95.1 30 = (σ.1 30) from (congrArg (fun x9 : MS => x9.1 30) eτ95).trans rfl))
          refine lv_aload_n hx hb dX12_laySpan_265 rfl (lv_at hl 6 rfl) ?_
          refine va_get (D := (dC, dI)) (ci := 12) (v := .ref (ad 28)) (C := RX12) (T := TX12) (N := 59) hx hb hts hin12 hown hK hP 0 rfl rfl 28 (Nat.le_of_ble_eq_true rfl) (ho (.fieldLink RX12 73 "NearEnoughModel" "sMost" "[J") (List.mem_of_getElem? (i := 5) rfl)) (fun _ h9 => h9) rfl dX12_laySpan_266 ?_
          refine lv_iload_n hx hb dX12_laySpan_269 rfl (lv_at hl 7 rfl) ?_
          refine lv_lload hx hb dX12_laySpan_270 (lv_at hl 2 rfl) ?_
          refine lv_lload hx hb dX12_laySpan_272 (lv_at hl 0 rfl) ?_
          refine zs_l (va_runS (As := [.long y37, .long y45]) (rest := [.int x, .ref (ad 28)]) ⟨hx, hb, hml, hown, hts⟩ (n_greater l dC dI y37 y45  H.size) (va_cwS 2 hts gd_n_laySpan_318_n_greater rfl rfl rfl dd_n_greater ⟨Nat.le_of_ble_eq_true rfl, Nat.le_of_ble_eq_true rfl⟩) (preS (A := A) empP (hK.sub (tys' := []) [] rfl) empD hE) rfl rfl hl.1 rfl (lv_room (Nat.le_of_ble_eq_true rfl)) dX12_laySpan_274 ⟨Nat.le_of_ble_eq_true rfl, Nat.le_of_ble_eq_true rfl⟩) hP hD hS hA (fun y97 H locs hq hP hD hS => ?_)
          obtain f98 := hq
          refine W.widen (k := 0) (n := 0) (Nat.le_of_ble_eq_true rfl) (Nat.le_of_ble_eq_true rfl) ?_
          refine va_last hx hb hK hP hD hS 20 19 rfl rfl (ti_inx o1 o2) dX12_laySpan_277 (fun H locs hP hD hS => ?_)
          rw [wS28] at hP hD
          obtain ⟨τ99, eτ99⟩ : ∃ x9 : MS, x9 = sJ τ95 28 (vp_updL (τ95.2.2.1 28) (Int32.toNatClampNeg x) y97) := ⟨_, rfl⟩
          have hP : va_P (dC, dI) vwCl (mW h ad cl τ99) H := by rw [eτ99]; exact hP
          have hD : va_D A (mW h ad cl τ99) := by rw [eτ99]; exact hD
          have hIτ99 : Inv τ99 := by rw [eτ99]; exact (Inv.sJ hIτ95)
          have Xτ99 : eqx [27, 28] τ99 σ := (eqx.eq eτ99 (eqx.sJ Xτ95 rg_170))
          have qq100 : (τ99.1 30).toInt = ((σ.1 30) : Int32).toInt := congrArg Int32.toInt ((show τ99.1 30 = (σ.1 30) from (congrArg (fun x9 : MS => x9.1 30) eτ99).trans (show τ95.1 30 = (σ.1 30) from (congrArg (fun x9 : MS => x9.1 30) eτ95).trans rfl)))
          rw [hQ]
          exact W.vret hx hb hr (fun t ht hW => ⟨⟨τ99, rfl, ⟨hIτ99, Xτ99⟩, wEn_of hP (hK.sub [] rfl) hD ht hW⟩, hS.F ht⟩) hS.2.2 dX12_laySpan_278
      · have tc38 := (show z1.toInt = 5 from ti_eq rfl rg_15 c38)
        refine lv_aload_n hx hb dX12_laySpan_125 rfl (lv_at hl 4 rfl) ?_
        refine va_get (D := (dC, dI)) (ci := 12) (v := .ref (ad 27)) (C := RX12) (T := TX12) (N := 59) hx hb hts hin12 hown hK hP 0 rfl rfl 27 (Nat.le_of_ble_eq_true rfl) (ho (.fieldLink RX12 70 "NearEnoughModel" "sLeast" "[J") (List.mem_of_getElem? (i := 3) rfl)) (fun _ h9 => h9) rfl dX12_laySpan_126 ?_
        refine lv_iload_n hx hb dX12_laySpan_129 rfl (lv_at hl 5 rfl) ?_
        refine lv_lload hx hb dX12_laySpan_130 (lv_at hl 1 rfl) ?_
        refine lv_aload_n hx hb dX12_laySpan_132 rfl (lv_at hl 4 rfl) ?_
        refine va_get (D := (dC, dI)) (ci := 12) (v := .ref (ad 19)) (C := RX12) (T := TX12) (N := 59) hx hb hts hin12 hown hK hP 0 rfl rfl 19 (Nat.le_of_ble_eq_true rfl) (ho (.fieldLink RX12 45 "NearEnoughModel" "sB" "[I") (List.mem_of_getElem? (i := 8) rfl)) (fun _ h9 => h9) rfl dX12_laySpan_133 ?_
        refine lv_iload_n hx hb dX12_laySpan_136 rfl (lv_at hl 5 rfl) ?_
        refine va_iald hx hb hK hP 11 10 rfl rfl (ti_inx o1 o2) dX12_laySpan_137 ?_
        refine lv_topi (fun z101 ez101 => ?_)
        have gz101 : z101.toInt = ((σ.2.1 19) (Int32.toNatClampNeg x)).toInt := congrArg Int32.toInt (ez101.trans (congrFun rfl (Int32.toNatClampNeg x)))
        have bz101 : (-99) ≤ z101.toInt ∧ z101.toInt ≤ 99 := by rw [ez101]; exact (hI.2 19) _ (cl_lt (n := 24) o1 o2)
        refine lv_i2l hx hb dX12_laySpan_138 rfl ?_
        refine lv_topl (fun y102 ey102 => ?_)
        refine lv_lmul hx hb dX12_laySpan_139 ?_
        refine lv_topl (fun y103 ey103 => ?_)
        refine lv_aload_n hx hb dX12_laySpan_140 rfl (lv_at hl 4 rfl) ?_
        refine va_get (D := (dC, dI)) (ci := 12) (v := .ref (ad 20)) (C := RX12) (T := TX12) (N := 59) hx hb hts hin12 hown hK hP 0 rfl rfl 20 (Nat.le_of_ble_eq_true rfl) (ho (.fieldLink RX12 48 "NearEnoughModel" "sC" "[I") (List.mem_of_getElem? (i := 9) rfl)) (fun _ h9 => h9) rfl dX12_laySpan_141 ?_
        refine lv_iload_n hx hb dX12_laySpan_144 rfl (lv_at hl 5 rfl) ?_
        refine va_iald hx hb hK hP 12 11 rfl rfl (ti_inx o1 o2) dX12_laySpan_145 ?_
        refine lv_topi (fun z104 ez104 => ?_)
        have gz104 : z104.toInt = ((σ.2.1 20) (Int32.toNatClampNeg x)).toInt := congrArg Int32.toInt (ez104.trans (congrFun rfl (Int32.toNatClampNeg x)))
        have bz104 : (-1) ≤ z104.toInt ∧ z104.toInt ≤ 99 := by rw [ez104]; exact (hI.2 20) _ (cl_lt (n := 24) o1 o2)
        refine lv_i2l hx hb dX12_laySpan_146 rfl ?_
        refine lv_topl (fun y105 ey105 => ?_)
        have o29 : z104.toInt ≠ 0 := by omega
        refine lv_ldiv hx hb dX12_laySpan_147 (i2l_ne ey105 o29) ?_
        refine lv_topl (fun y106 ey106 => ?_)
        refine lv_lload hx hb dX12_laySpan_148 (lv_at hl 0 rfl) ?_
        refine lv_aload_n hx hb dX12_laySpan_150 rfl (lv_at hl 4 rfl) ?_
        refine va_get (D := (dC, dI)) (ci := 12) (v := .ref (ad 19)) (C := RX12) (T := TX12) (N := 59) hx hb hts hin12 hown hK hP 0 rfl rfl 19 (Nat.le_of_ble_eq_true rfl) (ho (.fieldLink RX12 45 "NearEnoughModel" "sB" "[I") (List.mem_of_getElem? (i := 8) rfl)) (fun _ h9 => h9) rfl dX12_laySpan_151 ?_
        refine lv_iload_n hx hb dX12_laySpan_154 rfl (lv_at hl 5 rfl) ?_
        refine va_iald hx hb hK hP 11 10 rfl rfl (ti_inx o1 o2) dX12_laySpan_155 ?_
        refine lv_topi (fun z107 ez107 => ?_)
        have qq108 : z107.toInt = z101.toInt := congrArg Int32.toInt ((ez107.trans (congrFun rfl (Int32.toNatClampNeg x))).trans ((ez101.trans (congrFun rfl (Int32.toNatClampNeg x)))).symm)
        have gz107 : z107.toInt = ((σ.2.1 19) (Int32.toNatClampNeg x)).toInt := congrArg Int32.toInt (ez107.trans (congrFun rfl (Int32.toNatClampNeg x)))
        have bz107 : (-99) ≤ z107.toInt ∧ z107.toInt ≤ 99 := by rw [ez107]; exact (hI.2 19) _ (cl_lt (n := 24) o1 o2)
        refine lv_i2l hx hb dX12_laySpan_156 rfl ?_
        refine lv_topl (fun y109 ey109 => ?_)
        refine lv_lmul hx hb dX12_laySpan_157 ?_
        refine lv_topl (fun y110 ey110 => ?_)
        refine lv_aload_n hx hb dX12_laySpan_158 rfl (lv_at hl 4 rfl) ?_
        refine va_get (D := (dC, dI)) (ci := 12) (v := .ref (ad 20)) (C := RX12) (T := TX12) (N := 59) hx hb hts hin12 hown hK hP 0 rfl rfl 20 (Nat.le_of_ble_eq_true rfl) (ho (.fieldLink RX12 48 "NearEnoughModel" "sC" "[I") (List.mem_of_getElem? (i := 9) rfl)) (fun _ h9 => h9) rfl dX12_laySpan_159 ?_
        refine lv_iload_n hx hb dX12_laySpan_162 rfl (lv_at hl 5 rfl) ?_
        refine va_iald hx hb hK hP 12 11 rfl rfl (ti_inx o1 o2) dX12_laySpan_163 ?_
        refine lv_topi (fun z111 ez111 => ?_)
        have qq112 : z111.toInt = z104.toInt := congrArg Int32.toInt ((ez111.trans (congrFun rfl (Int32.toNatClampNeg x))).trans ((ez104.trans (congrFun rfl (Int32.toNatClampNeg x)))).symm)
        have gz111 : z111.toInt = ((σ.2.1 20) (Int32.toNatClampNeg x)).toInt := congrArg Int32.toInt (ez111.trans (congrFun rfl (Int32.toNatClampNeg x)))
        have bz111 : (-1) ≤ z111.toInt ∧ z111.toInt ≤ 99 := by rw [ez111]; exact (hI.2 20) _ (cl_lt (n := 24) o1 o2)
        refine lv_i2l hx hb dX12_laySpan_164 rfl ?_
        refine lv_topl (fun y113 ey113 => ?_)
        have o30 : z111.toInt ≠ 0 := by omega
        refine lv_ldiv hx hb dX12_laySpan_165 (i2l_ne ey113 o30) ?_
        refine lv_topl (fun y114 ey114 => ?_)
        refine zs_l (va_runS (As := [.long y106, .long y114]) (rest := [.int x, .ref (ad 27)]) ⟨hx, hb, hml, hown, hts⟩ (n_lesser l dC dI y106 y114  H.size) (va_cwS 2 hts gd_n_laySpan_314_n_lesser rfl rfl rfl dd_n_lesser ⟨Nat.le_of_ble_eq_true rfl, Nat.le_of_ble_eq_true rfl⟩) (preS (A := A) empP (hK.sub (tys' := []) [] rfl) empD hE) rfl rfl hl.1 rfl (lv_room (Nat.le_of_ble_eq_true rfl)) dX12_laySpan_166 ⟨Nat.le_of_ble_eq_true rfl, Nat.le_of_ble_eq_true rfl⟩) hP hD hS hA (fun y115 H locs hq hP hD hS => ?_)
        obtain f116 := hq
        refine W.widen (k := 0) (n := 0) (Nat.le_of_ble_eq_true rfl) (Nat.le_of_ble_eq_true rfl) ?_
        refine va_last hx hb hK hP hD hS 19 18 rfl rfl (ti_inx o1 o2) dX12_laySpan_169 (fun H locs hP hD hS => ?_)
        rw [wS27] at hP hD
        obtain ⟨τ117, eτ117⟩ : ∃ x9 : MS, x9 = sJ σ 27 (vp_updL (σ.2.2.1 27) (Int32.toNatClampNeg x) y115) := ⟨_, rfl⟩
        have hP : va_P (dC, dI) vwCl (mW h ad cl τ117) H := by rw [eτ117]; exact hP
        have hD : va_D A (mW h ad cl τ117) := by rw [eτ117]; exact hD
        have hIτ117 : Inv τ117 := by rw [eτ117]; exact (Inv.sJ hI)
        have Xτ117 : eqx [27, 28] τ117 σ := (eqx.eq eτ117 (eqx.sJ eqx.rf rg_169))
        have qq118 : (τ117.1 30).toInt = ((σ.1 30) : Int32).toInt := congrArg Int32.toInt ((show τ117.1 30 = (σ.1 30) from (congrArg (fun x9 : MS => x9.1 30) eτ117).trans rfl))
        refine lv_aload_n hx hb dX12_laySpan_170 rfl (lv_at hl 4 rfl) ?_
        refine va_get (D := (dC, dI)) (ci := 12) (v := .ref (ad 28)) (C := RX12) (T := TX12) (N := 59) hx hb hts hin12 hown hK hP 0 rfl rfl 28 (Nat.le_of_ble_eq_true rfl) (ho (.fieldLink RX12 73 "NearEnoughModel" "sMost" "[J") (List.mem_of_getElem? (i := 5) rfl)) (fun _ h9 => h9) rfl dX12_laySpan_171 ?_
        refine lv_iload_n hx hb dX12_laySpan_174 rfl (lv_at hl 5 rfl) ?_
        refine lv_lload hx hb dX12_laySpan_175 (lv_at hl 1 rfl) ?_
        refine lv_aload_n hx hb dX12_laySpan_177 rfl (lv_at hl 4 rfl) ?_
        refine va_get (D := (dC, dI)) (ci := 12) (v := .ref (ad 19)) (C := RX12) (T := TX12) (N := 59) hx hb hts hin12 hown hK hP 0 rfl rfl 19 (Nat.le_of_ble_eq_true rfl) (ho (.fieldLink RX12 45 "NearEnoughModel" "sB" "[I") (List.mem_of_getElem? (i := 8) rfl)) (fun _ h9 => h9) rfl dX12_laySpan_178 ?_
        refine lv_iload_n hx hb dX12_laySpan_181 rfl (lv_at hl 5 rfl) ?_
        refine va_iald hx hb hK hP 11 10 rfl rfl (ti_inx o1 o2) dX12_laySpan_182 ?_
        refine lv_topi (fun z119 ez119 => ?_)
        have qq120 : z119.toInt = z101.toInt := congrArg Int32.toInt ((ez119.trans (congrFun ((congrArg (fun x9 : MS => x9.2.1 19) eτ117).trans (tJ.trans rfl)) (Int32.toNatClampNeg x))).trans ((ez101.trans (congrFun rfl (Int32.toNatClampNeg x)))).symm)
        have gz119 : z119.toInt = ((σ.2.1 19) (Int32.toNatClampNeg x)).toInt := congrArg Int32.toInt (ez119.trans (congrFun ((congrArg (fun x9 : MS => x9.2.1 19) eτ117).trans (tJ.trans rfl)) (Int32.toNatClampNeg x)))
        have bz119 : (-99) ≤ z119.toInt ∧ z119.toInt ≤ 99 := by rw [ez119]; exact (hIτ117.2 19) _ (cl_lt (n := 24) o1 o2)
        refine lv_i2l hx hb dX12_laySpan_183 rfl ?_
        refine lv_topl (fun y121 ey121 => ?_)
        refine lv_lmul hx hb dX12_laySpan_184 ?_
        refine lv_topl (fun y122 ey122 => ?_)
        refine lv_aload_n hx hb dX12_laySpan_185 rfl (lv_at hl 4 rfl) ?_
        refine va_get (D := (dC, dI)) (ci := 12) (v := .ref (ad 20)) (C := RX12) (T := TX12) (N := 59) hx hb hts hin12 hown hK hP 0 rfl rfl 20 (Nat.le_of_ble_eq_true rfl) (ho (.fieldLink RX12 48 "NearEnoughModel" "sC" "[I") (List.mem_of_getElem? (i := 9) rfl)) (fun _ h9 => h9) rfl dX12_laySpan_186 ?_
        refine lv_iload_n hx hb dX12_laySpan_189 rfl (lv_at hl 5 rfl) ?_
        refine va_iald hx hb hK hP 12 11 rfl rfl (ti_inx o1 o2) dX12_laySpan_190 ?_
        refine lv_topi (fun z123 ez123 => ?_)
        have qq124 : z123.toInt = z104.toInt := congrArg Int32.toInt ((ez123.trans (congrFun ((congrArg (fun x9 : MS => x9.2.1 20) eτ117).trans (tJ.trans rfl)) (Int32.toNatClampNeg x))).trans ((ez104.trans (congrFun rfl (Int32.toNatClampNeg x)))).symm)
        have gz123 : z123.toInt = ((σ.2.1 20) (Int32.toNatClampNeg x)).toInt := congrArg Int32.toInt (ez123.trans (congrFun ((congrArg (fun x9 : MS => x9.2.1 20) eτ117).trans (tJ.trans rfl)) (Int32.toNatClampNeg x)))
        have bz123 : (-1) ≤ z123.toInt ∧ z123.toInt ≤ 99 := by rw [ez123]; exact (hIτ117.2 20) _ (cl_lt (n := 24) o1 o2)
        refine lv_i2l hx hb dX12_laySpan_191 rfl ?_
        refine lv_topl (fun y125 ey125 => ?_)
        have o31 : z123.toInt ≠ 0 := by omega
        refine lv_ldiv hx hb dX12_laySpan_192 (i2l_ne ey125 o31) ?_
        refine lv_topl (fun y126 ey126 => ?_)
        refine lv_lload hx hb dX12_laySpan_193 (lv_at hl 0 rfl) ?_
        refine lv_aload_n hx hb dX12_laySpan_195 rfl (lv_at hl 4 rfl) ?_
        refine va_get (D := (dC, dI)) (ci := 12) (v := .ref (ad 19)) (C := RX12) (T := TX12) (N := 59) hx hb hts hin12 hown hK hP 0 rfl rfl 19 (Nat.le_of_ble_eq_true rfl) (ho (.fieldLink RX12 45 "NearEnoughModel" "sB" "[I") (List.mem_of_getElem? (i := 8) rfl)) (fun _ h9 => h9) rfl dX12_laySpan_196 ?_
        refine lv_iload_n hx hb dX12_laySpan_199 rfl (lv_at hl 5 rfl) ?_
        refine va_iald hx hb hK hP 11 10 rfl rfl (ti_inx o1 o2) dX12_laySpan_200 ?_
        refine lv_topi (fun z127 ez127 => ?_)
        have qq128 : z127.toInt = z101.toInt := congrArg Int32.toInt ((ez127.trans (congrFun ((congrArg (fun x9 : MS => x9.2.1 19) eτ117).trans (tJ.trans rfl)) (Int32.toNatClampNeg x))).trans ((ez101.trans (congrFun rfl (Int32.toNatClampNeg x)))).symm)
        have gz127 : z127.toInt = ((σ.2.1 19) (Int32.toNatClampNeg x)).toInt := congrArg Int32.toInt (ez127.trans (congrFun ((congrArg (fun x9 : MS => x9.2.1 19) eτ117).trans (tJ.trans rfl)) (Int32.toNatClampNeg x)))
        have bz127 : (-99) ≤ z127.toInt ∧ z127.toInt ≤ 99 := by rw [ez127]; exact (hIτ117.2 19) _ (cl_lt (n := 24) o1 o2)
        refine lv_i2l hx hb dX12_laySpan_201 rfl ?_
        refine lv_topl (fun y129 ey129 => ?_)
        refine lv_lmul hx hb dX12_laySpan_202 ?_
        refine lv_topl (fun y130 ey130 => ?_)
        refine lv_aload_n hx hb dX12_laySpan_203 rfl (lv_at hl 4 rfl) ?_
        refine va_get (D := (dC, dI)) (ci := 12) (v := .ref (ad 20)) (C := RX12) (T := TX12) (N := 59) hx hb hts hin12 hown hK hP 0 rfl rfl 20 (Nat.le_of_ble_eq_true rfl) (ho (.fieldLink RX12 48 "NearEnoughModel" "sC" "[I") (List.mem_of_getElem? (i := 9) rfl)) (fun _ h9 => h9) rfl dX12_laySpan_204 ?_
        refine lv_iload_n hx hb dX12_laySpan_207 rfl (lv_at hl 5 rfl) ?_
        refine va_iald hx hb hK hP 12 11 rfl rfl (ti_inx o1 o2) dX12_laySpan_208 ?_
        refine lv_topi (fun z131 ez131 => ?_)
        have qq132 : z131.toInt = z104.toInt := congrArg Int32.toInt ((ez131.trans (congrFun ((congrArg (fun x9 : MS => x9.2.1 20) eτ117).trans (tJ.trans rfl)) (Int32.toNatClampNeg x))).trans ((ez104.trans (congrFun rfl (Int32.toNatClampNeg x)))).symm)
        have gz131 : z131.toInt = ((σ.2.1 20) (Int32.toNatClampNeg x)).toInt := congrArg Int32.toInt (ez131.trans (congrFun ((congrArg (fun x9 : MS => x9.2.1 20) eτ117).trans (tJ.trans rfl)) (Int32.toNatClampNeg x)))
        have bz131 : (-1) ≤ z131.toInt ∧ z131.toInt ≤ 99 := by rw [ez131]; exact (hIτ117.2 20) _ (cl_lt (n := 24) o1 o2)
        refine lv_i2l hx hb dX12_laySpan_209 rfl ?_
        refine lv_topl (fun y133 ey133 => ?_)
        have o32 : z131.toInt ≠ 0 := by omega
        refine lv_ldiv hx hb dX12_laySpan_210 (i2l_ne ey133 o32) ?_
        refine lv_topl (fun y134 ey134 => ?_)
        refine zs_l (va_runS (As := [.long y126, .long y134]) (rest := [.int x, .ref (ad 28)]) ⟨hx, hb, hml, hown, hts⟩ (n_greater l dC dI y126 y134  H.size) (va_cwS 2 hts gd_n_laySpan_318_n_greater rfl rfl rfl dd_n_greater ⟨Nat.le_of_ble_eq_true rfl, Nat.le_of_ble_eq_true rfl⟩) (preS (A := A) empP (hK.sub (tys' := []) [] rfl) empD hE) rfl rfl hl.1 rfl (lv_room (Nat.le_of_ble_eq_true rfl)) dX12_laySpan_211 ⟨Nat.le_of_ble_eq_true rfl, Nat.le_of_ble_eq_true rfl⟩) hP hD hS hA (fun y135 H locs hq hP hD hS => ?_)
        obtain f136 := hq
        refine W.widen (k := 0) (n := 0) (Nat.le_of_ble_eq_true rfl) (Nat.le_of_ble_eq_true rfl) ?_
        refine va_last hx hb hK hP hD hS 20 19 rfl rfl (ti_inx o1 o2) dX12_laySpan_214 (fun H locs hP hD hS => ?_)
        rw [wS28] at hP hD
        obtain ⟨τ137, eτ137⟩ : ∃ x9 : MS, x9 = sJ τ117 28 (vp_updL (τ117.2.2.1 28) (Int32.toNatClampNeg x) y135) := ⟨_, rfl⟩
        have hP : va_P (dC, dI) vwCl (mW h ad cl τ137) H := by rw [eτ137]; exact hP
        have hD : va_D A (mW h ad cl τ137) := by rw [eτ137]; exact hD
        have hIτ137 : Inv τ137 := by rw [eτ137]; exact (Inv.sJ hIτ117)
        have Xτ137 : eqx [27, 28] τ137 σ := (eqx.eq eτ137 (eqx.sJ Xτ117 rg_170))
        have qq138 : (τ137.1 30).toInt = ((σ.1 30) : Int32).toInt := congrArg Int32.toInt ((show τ137.1 30 = (σ.1 30) from (congrArg (fun x9 : MS => x9.1 30) eτ137).trans (show τ117.1 30 = (σ.1 30) from (congrArg (fun x9 : MS => x9.1 30) eτ117).trans rfl)))
        rw [hQ]
        exact W.vret hx hb hr (fun t ht hW => ⟨⟨τ137, rfl, ⟨hIτ137, Xτ137⟩, wEn_of hP (hK.sub [] rfl) hD ht hW⟩, hS.F ht⟩) hS.2.2 dX12_laySpan_215
    · have tc29 := (show z1.toInt = 6 from ti_eq rfl rg_70 c29)
      refine lv_iconst (v := 2) hx hb dX12_laySpan_18 rg_19 ?_
      refine lv_aload_n hx hb dX12_laySpan_19 rfl (lv_at hl 1 rfl) ?_
      refine va_get (D := (dC, dI)) (ci := 12) (v := .int (σ.1 30)) (C := RX12) (T := TX12) (N := 59) hx hb hts hin12 hown hK hP 0 rfl rfl 30 (Nat.le_of_ble_eq_true rfl) (ho (.fieldLink RX12 243 "NearEnoughModel" "rb" "I") (List.mem_of_getElem? (i := 1) rfl)) (fun _ h9 => h9) rfl dX12_laySpan_20 ?_
      have bσ_30 : 0 ≤ (σ.1 30).toInt ∧ (σ.1 30).toInt ≤ 1 := hI.1 30
      refine lv_imul hx hb dX12_laySpan_23 ?_
      refine lv_topi (fun z139 ez139 => ?_)
      have o33 : -2147483648 ≤ 2 * (σ.1 30).toInt := by omega
      have o34 : 2 * (σ.1 30).toInt ≤ 2147483647 := by omega
      have tz139 : z139.toInt = 2 * (σ.1 30).toInt := ti_mul ez139 rg_20 rfl o33 o34
      refine lv_aload_n hx hb dX12_laySpan_24 rfl (lv_at hl 1 rfl) ?_
      refine va_get (D := (dC, dI)) (ci := 12) (v := .ref (ad 18)) (C := RX12) (T := TX12) (N := 59) hx hb hts hin12 hown hK hP 0 rfl rfl 18 (Nat.le_of_ble_eq_true rfl) (ho (.fieldLink RX12 42 "NearEnoughModel" "sA" "[I") (List.mem_of_getElem? (i := 2) rfl)) (fun _ h9 => h9) rfl dX12_laySpan_25 ?_
      refine lv_iload_n hx hb dX12_laySpan_28 rfl (lv_at hl 2 rfl) ?_
      refine va_iald hx hb hK hP 10 9 rfl rfl (ti_inx o1 o2) dX12_laySpan_29 ?_
      refine lv_topi (fun z140 ez140 => ?_)
      have gz140 : z140.toInt = ((σ.2.1 18) (Int32.toNatClampNeg x)).toInt := congrArg Int32.toInt (ez140.trans (congrFun rfl (Int32.toNatClampNeg x)))
      have bz140 : (-1) ≤ z140.toInt ∧ z140.toInt ≤ 11 := by rw [ez140]; exact (hI.2 18) _ (cl_lt (n := 24) o1 o2)
      refine lv_iadd hx hb dX12_laySpan_30 ?_
      refine lv_topi (fun z141 ez141 => ?_)
      have o35 : -2147483648 ≤ z139.toInt + z140.toInt := by omega
      have o36 : z139.toInt + z140.toInt ≤ 2147483647 := by omega
      have tz141 : z141.toInt = z139.toInt + z140.toInt := ti_add ez141 rfl rfl o35 o36
      refine lv_istore_n (lv' := [(3, .int z141), (2, .int z1), (0, .ref h), (1, .int x)]) hx hb dX12_laySpan_31 rfl hl (Nat.le_of_ble_eq_true rfl) rfl (fun ls hl => ?_)
      refine lv_iload_n hx hb dX12_laySpan_32 rfl (lv_at hl 1 rfl) ?_
      refine lv_if_ne (tgt := 46) hx hb dX12_laySpan_33 rfl (fun c142 => ?_) (fun c142 => ?_)
      · have tc142 := (show z1.toInt ≠ 0 from ti_ne rfl rg_11 c142)
        refine lv_lconst (v := 1) hx hb dX12_laySpan_46 (by decide) ?_
        refine lv_lstore (lv' := [(4, .long 1), (3, .int z141), (2, .int z1), (0, .ref h), (1, .int x)]) hx hb dX12_laySpan_47 hl (Nat.le_of_ble_eq_true rfl) rfl (fun ls hl => ?_)
        refine lv_aload_n hx hb dX12_laySpan_49 rfl (lv_at hl 3 rfl) ?_
        refine va_get (D := (dC, dI)) (ci := 12) (v := .ref (ad 27)) (C := RX12) (T := TX12) (N := 59) hx hb hts hin12 hown hK hP 0 rfl rfl 27 (Nat.le_of_ble_eq_true rfl) (ho (.fieldLink RX12 70 "NearEnoughModel" "sLeast" "[J") (List.mem_of_getElem? (i := 3) rfl)) (fun _ h9 => h9) rfl dX12_laySpan_50 ?_
        refine lv_iload_n hx hb dX12_laySpan_53 rfl (lv_at hl 4 rfl) ?_
        refine lv_lload hx hb dX12_laySpan_54 (lv_at hl 0 rfl) ?_
        refine lv_aload_n hx hb dX12_laySpan_56 rfl (lv_at hl 3 rfl) ?_
        refine va_get (D := (dC, dI)) (ci := 12) (v := .ref (ad 15)) (C := RX12) (T := TX12) (N := 59) hx hb hts hin12 hown hK hP 0 rfl rfl 15 (Nat.le_of_ble_eq_true rfl) (ho (.fieldLink RX12 33 "NearEnoughModel" "rLeast" "[I") (List.mem_of_getElem? (i := 4) rfl)) (fun _ h9 => h9) rfl dX12_laySpan_57 ?_
        refine lv_iload_n hx hb dX12_laySpan_60 rfl (lv_at hl 1 rfl) ?_
        have o37 : 0 ≤ z141.toInt := by omega
        have o38 : z141.toInt < ((4 : Nat) : Int) := by omega
        refine va_iald hx hb hK hP 7 6 rfl rfl (ti_inx o37 o38) dX12_laySpan_61 ?_
        refine lv_topi (fun z143 ez143 => ?_)
        have gz143 : z143.toInt = ((σ.2.1 15) (Int32.toNatClampNeg z141)).toInt := congrArg Int32.toInt (ez143.trans (congrFun rfl (Int32.toNatClampNeg z141)))
        refine lv_i2l hx hb dX12_laySpan_62 rfl ?_
        refine lv_topl (fun y144 ey144 => ?_)
        refine lv_lmul hx hb dX12_laySpan_63 ?_
        refine lv_topl (fun y145 ey145 => ?_)
        refine va_last hx hb hK hP hD hS 19 18 rfl rfl (ti_inx o1 o2) dX12_laySpan_64 (fun H locs hP hD hS => ?_)
        rw [wS27] at hP hD
        obtain ⟨τ146, eτ146⟩ : ∃ x9 : MS, x9 = sJ σ 27 (vp_updL (σ.2.2.1 27) (Int32.toNatClampNeg x) y145) := ⟨_, rfl⟩
        have hP : va_P (dC, dI) vwCl (mW h ad cl τ146) H := by rw [eτ146]; exact hP
        have hD : va_D A (mW h ad cl τ146) := by rw [eτ146]; exact hD
        have hIτ146 : Inv τ146 := by rw [eτ146]; exact (Inv.sJ hI)
        have Xτ146 : eqx [27, 28] τ146 σ := (eqx.eq eτ146 (eqx.sJ eqx.rf rg_169))
        have qq147 : (τ146.1 30).toInt = ((σ.1 30) : Int32).toInt := congrArg Int32.toInt ((show τ146.1 30 = (σ.1 30) from (congrArg (fun x9 : MS => x9.1 30) eτ146).trans rfl))
        refine lv_aload_n hx hb dX12_laySpan_65 rfl (lv_at hl 3 rfl) ?_
        refine va_get (D := (dC, dI)) (ci := 12) (v := .ref (ad 28)) (C := RX12) (T := TX12) (N := 59) hx hb hts hin12 hown hK hP 0 rfl rfl 28 (Nat.le_of_ble_eq_true rfl) (ho (.fieldLink RX12 73 "NearEnoughModel" "sMost" "[J") (List.mem_of_getElem? (i := 5) rfl)) (fun _ h9 => h9) rfl dX12_laySpan_66 ?_
        refine lv_iload_n hx hb dX12_laySpan_69 rfl (lv_at hl 4 rfl) ?_
        refine lv_lload hx hb dX12_laySpan_70 (lv_at hl 0 rfl) ?_
        refine lv_aload_n hx hb dX12_laySpan_72 rfl (lv_at hl 3 rfl) ?_
        refine va_get (D := (dC, dI)) (ci := 12) (v := .ref (ad 16)) (C := RX12) (T := TX12) (N := 59) hx hb hts hin12 hown hK hP 0 rfl rfl 16 (Nat.le_of_ble_eq_true rfl) (ho (.fieldLink RX12 36 "NearEnoughModel" "rMost" "[I") (List.mem_of_getElem? (i := 6) rfl)) (fun _ h9 => h9) rfl dX12_laySpan_73 ?_
        refine lv_iload_n hx hb dX12_laySpan_76 rfl (lv_at hl 1 rfl) ?_
        refine va_iald hx hb hK hP 8 7 rfl rfl (ti_inx o37 o38) dX12_laySpan_77 ?_
        refine lv_topi (fun z148 ez148 => ?_)
        have gz148 : z148.toInt = ((σ.2.1 16) (Int32.toNatClampNeg z141)).toInt := congrArg Int32.toInt (ez148.trans (congrFun ((congrArg (fun x9 : MS => x9.2.1 16) eτ146).trans (tJ.trans rfl)) (Int32.toNatClampNeg z141)))
        refine lv_i2l hx hb dX12_laySpan_78 rfl ?_
        refine lv_topl (fun y149 ey149 => ?_)
        refine lv_lmul hx hb dX12_laySpan_79 ?_
        refine lv_topl (fun y150 ey150 => ?_)
        refine va_last hx hb hK hP hD hS 20 19 rfl rfl (ti_inx o1 o2) dX12_laySpan_80 (fun H locs hP hD hS => ?_)
        rw [wS28] at hP hD
        obtain ⟨τ151, eτ151⟩ : ∃ x9 : MS, x9 = sJ τ146 28 (vp_updL (τ146.2.2.1 28) (Int32.toNatClampNeg x) y150) := ⟨_, rfl⟩
        have hP : va_P (dC, dI) vwCl (mW h ad cl τ151) H := by rw [eτ151]; exact hP
        have hD : va_D A (mW h ad cl τ151) := by rw [eτ151]; exact hD
        have hIτ151 : Inv τ151 := by rw [eτ151]; exact (Inv.sJ hIτ146)
        have Xτ151 : eqx [27, 28] τ151 σ := (eqx.eq eτ151 (eqx.sJ Xτ146 rg_170))
        have qq152 : (τ151.1 30).toInt = ((σ.1 30) : Int32).toInt := congrArg Int32.toInt ((show τ151.1 30 = (σ.1 30) from (congrArg (fun x9 : MS => x9.1 30) eτ151).trans (show τ146.1 30 = (σ.1 30) from (congrArg (fun x9 : MS => x9.1 30) eτ146).trans rfl)))
        rw [hQ]
        exact W.vret hx hb hr (fun t ht hW => ⟨⟨τ151, rfl, ⟨hIτ151, Xτ151⟩, wEn_of hP (hK.sub [] rfl) hD ht hW⟩, hS.F ht⟩) hS.2.2 dX12_laySpan_81
      · have tc142 := (show z1.toInt = 0 from ti_eq rfl rg_11 c142)
        refine lv_aload_n hx hb dX12_laySpan_36 rfl (lv_at hl 2 rfl) ?_
        refine va_get (D := (dC, dI)) (ci := 12) (v := .ref (ad 14)) (C := RX12) (T := TX12) (N := 59) hx hb hts hin12 hown hK hP 0 rfl rfl 14 (Nat.le_of_ble_eq_true rfl) (ho (.fieldLink RX12 30 "NearEnoughModel" "rHas" "[I") (List.mem_of_getElem? (i := 7) rfl)) (fun _ h9 => h9) rfl dX12_laySpan_37 ?_
        refine lv_iload_n hx hb dX12_laySpan_40 rfl (lv_at hl 0 rfl) ?_
        have o39 : 0 ≤ z141.toInt := by omega
        have o40 : z141.toInt < ((4 : Nat) : Int) := by omega
        refine va_iald hx hb hK hP 6 5 rfl rfl (ti_inx o39 o40) dX12_laySpan_41 ?_
        refine lv_topi (fun z153 ez153 => ?_)
        have gz153 : z153.toInt = ((σ.2.1 14) (Int32.toNatClampNeg z141)).toInt := congrArg Int32.toInt (ez153.trans (congrFun rfl (Int32.toNatClampNeg z141)))
        have bz153 : 0 ≤ z153.toInt ∧ z153.toInt ≤ 6 := by rw [ez153]; exact (hI.2 14) _ (cl_lt (n := 4) o39 o40)
        refine lv_i2l hx hb dX12_laySpan_42 rfl ?_
        refine lv_topl (fun y154 ey154 => ?_)
        refine lv_goto (tgt := 47) hx hb dX12_laySpan_43 rfl ?_
        refine lv_lstore (lv' := [(4, .long y154), (3, .int z141), (2, .int z1), (0, .ref h), (1, .int x)]) hx hb dX12_laySpan_47 hl (Nat.le_of_ble_eq_true rfl) rfl (fun ls hl => ?_)
        refine lv_aload_n hx hb dX12_laySpan_49 rfl (lv_at hl 3 rfl) ?_
        refine va_get (D := (dC, dI)) (ci := 12) (v := .ref (ad 27)) (C := RX12) (T := TX12) (N := 59) hx hb hts hin12 hown hK hP 0 rfl rfl 27 (Nat.le_of_ble_eq_true rfl) (ho (.fieldLink RX12 70 "NearEnoughModel" "sLeast" "[J") (List.mem_of_getElem? (i := 3) rfl)) (fun _ h9 => h9) rfl dX12_laySpan_50 ?_
        refine lv_iload_n hx hb dX12_laySpan_53 rfl (lv_at hl 4 rfl) ?_
        refine lv_lload hx hb dX12_laySpan_54 (lv_at hl 0 rfl) ?_
        refine lv_aload_n hx hb dX12_laySpan_56 rfl (lv_at hl 3 rfl) ?_
        refine va_get (D := (dC, dI)) (ci := 12) (v := .ref (ad 15)) (C := RX12) (T := TX12) (N := 59) hx hb hts hin12 hown hK hP 0 rfl rfl 15 (Nat.le_of_ble_eq_true rfl) (ho (.fieldLink RX12 33 "NearEnoughModel" "rLeast" "[I") (List.mem_of_getElem? (i := 4) rfl)) (fun _ h9 => h9) rfl dX12_laySpan_57 ?_
        refine lv_iload_n hx hb dX12_laySpan_60 rfl (lv_at hl 1 rfl) ?_
        refine va_iald hx hb hK hP 7 6 rfl rfl (ti_inx o39 o40) dX12_laySpan_61 ?_
        refine lv_topi (fun z155 ez155 => ?_)
        have gz155 : z155.toInt = ((σ.2.1 15) (Int32.toNatClampNeg z141)).toInt := congrArg Int32.toInt (ez155.trans (congrFun rfl (Int32.toNatClampNeg z141)))
        refine lv_i2l hx hb dX12_laySpan_62 rfl ?_
        refine lv_topl (fun y156 ey156 => ?_)
        refine lv_lmul hx hb dX12_laySpan_63 ?_
        refine lv_topl (fun y157 ey157 => ?_)
        refine va_last hx hb hK hP hD hS 19 18 rfl rfl (ti_inx o1 o2) dX12_laySpan_64 (fun H locs hP hD hS => ?_)
        rw [wS27] at hP hD
        obtain ⟨τ158, eτ158⟩ : ∃ x9 : MS, x9 = sJ σ 27 (vp_updL (σ.2.2.1 27) (Int32.toNatClampNeg x) y157) := ⟨_, rfl⟩
        have hP : va_P (dC, dI) vwCl (mW h ad cl τ158) H := by rw [eτ158]; exact hP
        have hD : va_D A (mW h ad cl τ158) := by rw [eτ158]; exact hD
        have hIτ158 : Inv τ158 := by rw [eτ158]; exact (Inv.sJ hI)
        have Xτ158 : eqx [27, 28] τ158 σ := (eqx.eq eτ158 (eqx.sJ eqx.rf rg_169))
        have qq159 : (τ158.1 30).toInt = ((σ.1 30) : Int32).toInt := congrArg Int32.toInt ((show τ158.1 30 = (σ.1 30) from (congrArg (fun x9 : MS => x9.1 30) eτ158).trans rfl))
        refine lv_aload_n hx hb dX12_laySpan_65 rfl (lv_at hl 3 rfl) ?_
        refine va_get (D := (dC, dI)) (ci := 12) (v := .ref (ad 28)) (C := RX12) (T := TX12) (N := 59) hx hb hts hin12 hown hK hP 0 rfl rfl 28 (Nat.le_of_ble_eq_true rfl) (ho (.fieldLink RX12 73 "NearEnoughModel" "sMost" "[J") (List.mem_of_getElem? (i := 5) rfl)) (fun _ h9 => h9) rfl dX12_laySpan_66 ?_
        refine lv_iload_n hx hb dX12_laySpan_69 rfl (lv_at hl 4 rfl) ?_
        refine lv_lload hx hb dX12_laySpan_70 (lv_at hl 0 rfl) ?_
        refine lv_aload_n hx hb dX12_laySpan_72 rfl (lv_at hl 3 rfl) ?_
        refine va_get (D := (dC, dI)) (ci := 12) (v := .ref (ad 16)) (C := RX12) (T := TX12) (N := 59) hx hb hts hin12 hown hK hP 0 rfl rfl 16 (Nat.le_of_ble_eq_true rfl) (ho (.fieldLink RX12 36 "NearEnoughModel" "rMost" "[I") (List.mem_of_getElem? (i := 6) rfl)) (fun _ h9 => h9) rfl dX12_laySpan_73 ?_
        refine lv_iload_n hx hb dX12_laySpan_76 rfl (lv_at hl 1 rfl) ?_
        refine va_iald hx hb hK hP 8 7 rfl rfl (ti_inx o39 o40) dX12_laySpan_77 ?_
        refine lv_topi (fun z160 ez160 => ?_)
        have gz160 : z160.toInt = ((σ.2.1 16) (Int32.toNatClampNeg z141)).toInt := congrArg Int32.toInt (ez160.trans (congrFun ((congrArg (fun x9 : MS => x9.2.1 16) eτ158).trans (tJ.trans rfl)) (Int32.toNatClampNeg z141)))
        refine lv_i2l hx hb dX12_laySpan_78 rfl ?_
        refine lv_topl (fun y161 ey161 => ?_)
        refine lv_lmul hx hb dX12_laySpan_79 ?_
        refine lv_topl (fun y162 ey162 => ?_)
        refine va_last hx hb hK hP hD hS 20 19 rfl rfl (ti_inx o1 o2) dX12_laySpan_80 (fun H locs hP hD hS => ?_)
        rw [wS28] at hP hD
        obtain ⟨τ163, eτ163⟩ : ∃ x9 : MS, x9 = sJ τ158 28 (vp_updL (τ158.2.2.1 28) (Int32.toNatClampNeg x) y162) := ⟨_, rfl⟩
        have hP : va_P (dC, dI) vwCl (mW h ad cl τ163) H := by rw [eτ163]; exact hP
        have hD : va_D A (mW h ad cl τ163) := by rw [eτ163]; exact hD
        have hIτ163 : Inv τ163 := by rw [eτ163]; exact (Inv.sJ hIτ158)
        have Xτ163 : eqx [27, 28] τ163 σ := (eqx.eq eτ163 (eqx.sJ Xτ158 rg_170))
        have qq164 : (τ163.1 30).toInt = ((σ.1 30) : Int32).toInt := congrArg Int32.toInt ((show τ163.1 30 = (σ.1 30) from (congrArg (fun x9 : MS => x9.1 30) eτ163).trans (show τ158.1 30 = (σ.1 30) from (congrArg (fun x9 : MS => x9.1 30) eτ158).trans rfl)))
        rw [hQ]
        exact W.vret hx hb hr (fun t ht hW => ⟨⟨τ163, rfl, ⟨hIτ163, Xτ163⟩, wEn_of hP (hK.sub [] rfl) hD ht hW⟩, hS.F ht⟩) hS.2.2 dX12_laySpan_81

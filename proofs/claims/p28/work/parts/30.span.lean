theorem dX12_laySpan_0 : decode cX12_laySpan 0 = .ok (.aload_n 0, 1) := by decide +kernel
theorem dX12_laySpan_1 : decode cX12_laySpan 1 = .ok (.getfield 39, 3) := by decide +kernel
theorem dX12_laySpan_4 : decode cX12_laySpan 4 = .ok (.iload_n 1, 1) := by decide +kernel
theorem dX12_laySpan_5 : decode cX12_laySpan 5 = .ok (.iaload, 1) := by decide +kernel
theorem dX12_laySpan_6 : decode cX12_laySpan 6 = .ok (.istore_n 2, 1) := by decide +kernel
theorem dX12_laySpan_7 : decode cX12_laySpan 7 = .ok (.iload_n 2, 1) := by decide +kernel
theorem dX12_laySpan_8 : decode cX12_laySpan 8 = .ok (.iconst 1, 1) := by decide +kernel
theorem dX12_laySpan_9 : decode cX12_laySpan 9 = .ok (.if_icmp .le 9, 3) := by decide +kernel
theorem dX12_laySpan_18 : decode cX12_laySpan 18 = .ok (.iconst 2, 1) := by decide +kernel
theorem dX12_laySpan_19 : decode cX12_laySpan 19 = .ok (.aload_n 0, 1) := by decide +kernel
theorem dX12_laySpan_20 : decode cX12_laySpan 20 = .ok (.getfield 243, 3) := by decide +kernel
theorem dX12_laySpan_23 : decode cX12_laySpan 23 = .ok (.imul, 1) := by decide +kernel
theorem dX12_laySpan_24 : decode cX12_laySpan 24 = .ok (.aload_n 0, 1) := by decide +kernel
theorem dX12_laySpan_25 : decode cX12_laySpan 25 = .ok (.getfield 42, 3) := by decide +kernel
theorem dX12_laySpan_28 : decode cX12_laySpan 28 = .ok (.iload_n 1, 1) := by decide +kernel
theorem dX12_laySpan_29 : decode cX12_laySpan 29 = .ok (.iaload, 1) := by decide +kernel
theorem dX12_laySpan_30 : decode cX12_laySpan 30 = .ok (.iadd, 1) := by decide +kernel
theorem dX12_laySpan_31 : decode cX12_laySpan 31 = .ok (.istore_n 3, 1) := by decide +kernel
theorem dX12_laySpan_32 : decode cX12_laySpan 32 = .ok (.iload_n 2, 1) := by decide +kernel
theorem dX12_laySpan_33 : decode cX12_laySpan 33 = .ok (.ifCond .ne 13, 3) := by decide +kernel
theorem dX12_laySpan_46 : decode cX12_laySpan 46 = .ok (.lconst 1, 1) := by decide +kernel
theorem dX12_laySpan_47 : decode cX12_laySpan 47 = .ok (.lstore 4, 2) := by decide +kernel
theorem dX12_laySpan_49 : decode cX12_laySpan 49 = .ok (.aload_n 0, 1) := by decide +kernel
theorem dX12_laySpan_50 : decode cX12_laySpan 50 = .ok (.getfield 70, 3) := by decide +kernel
theorem dX12_laySpan_53 : decode cX12_laySpan 53 = .ok (.iload_n 1, 1) := by decide +kernel
theorem dX12_laySpan_54 : decode cX12_laySpan 54 = .ok (.lload 4, 2) := by decide +kernel
theorem dX12_laySpan_56 : decode cX12_laySpan 56 = .ok (.aload_n 0, 1) := by decide +kernel
theorem dX12_laySpan_57 : decode cX12_laySpan 57 = .ok (.getfield 33, 3) := by decide +kernel
theorem dX12_laySpan_60 : decode cX12_laySpan 60 = .ok (.iload_n 3, 1) := by decide +kernel
theorem dX12_laySpan_61 : decode cX12_laySpan 61 = .ok (.iaload, 1) := by decide +kernel
theorem dX12_laySpan_62 : decode cX12_laySpan 62 = .ok (.i2l, 1) := by decide +kernel
theorem dX12_laySpan_63 : decode cX12_laySpan 63 = .ok (.lmul, 1) := by decide +kernel
theorem dX12_laySpan_64 : decode cX12_laySpan 64 = .ok (.lastore, 1) := by decide +kernel
theorem dX12_laySpan_65 : decode cX12_laySpan 65 = .ok (.aload_n 0, 1) := by decide +kernel
theorem dX12_laySpan_66 : decode cX12_laySpan 66 = .ok (.getfield 73, 3) := by decide +kernel
theorem dX12_laySpan_69 : decode cX12_laySpan 69 = .ok (.iload_n 1, 1) := by decide +kernel
theorem dX12_laySpan_70 : decode cX12_laySpan 70 = .ok (.lload 4, 2) := by decide +kernel
theorem dX12_laySpan_72 : decode cX12_laySpan 72 = .ok (.aload_n 0, 1) := by decide +kernel
theorem dX12_laySpan_73 : decode cX12_laySpan 73 = .ok (.getfield 36, 3) := by decide +kernel
theorem dX12_laySpan_76 : decode cX12_laySpan 76 = .ok (.iload_n 3, 1) := by decide +kernel
theorem dX12_laySpan_77 : decode cX12_laySpan 77 = .ok (.iaload, 1) := by decide +kernel
theorem dX12_laySpan_78 : decode cX12_laySpan 78 = .ok (.i2l, 1) := by decide +kernel
theorem dX12_laySpan_79 : decode cX12_laySpan 79 = .ok (.lmul, 1) := by decide +kernel
theorem dX12_laySpan_80 : decode cX12_laySpan 80 = .ok (.lastore, 1) := by decide +kernel
theorem dX12_laySpan_81 : decode cX12_laySpan 81 = .ok (.return_, 1) := by decide +kernel
theorem dX12_laySpan_36 : decode cX12_laySpan 36 = .ok (.aload_n 0, 1) := by decide +kernel
theorem dX12_laySpan_37 : decode cX12_laySpan 37 = .ok (.getfield 30, 3) := by decide +kernel
theorem dX12_laySpan_40 : decode cX12_laySpan 40 = .ok (.iload_n 3, 1) := by decide +kernel
theorem dX12_laySpan_41 : decode cX12_laySpan 41 = .ok (.iaload, 1) := by decide +kernel
theorem dX12_laySpan_42 : decode cX12_laySpan 42 = .ok (.i2l, 1) := by decide +kernel
theorem dX12_laySpan_43 : decode cX12_laySpan 43 = .ok (.goto 4, 3) := by decide +kernel
theorem dX12_laySpan_12 : decode cX12_laySpan 12 = .ok (.iload_n 2, 1) := by decide +kernel
theorem dX12_laySpan_13 : decode cX12_laySpan 13 = .ok (.bipush 6, 2) := by decide +kernel
theorem dX12_laySpan_15 : decode cX12_laySpan 15 = .ok (.if_icmp .ne 67, 3) := by decide +kernel
theorem dX12_laySpan_82 : decode cX12_laySpan 82 = .ok (.bipush 12, 2) := by decide +kernel
theorem dX12_laySpan_84 : decode cX12_laySpan 84 = .ok (.aload_n 0, 1) := by decide +kernel
theorem dX12_laySpan_85 : decode cX12_laySpan 85 = .ok (.getfield 243, 3) := by decide +kernel
theorem dX12_laySpan_88 : decode cX12_laySpan 88 = .ok (.imul, 1) := by decide +kernel
theorem dX12_laySpan_89 : decode cX12_laySpan 89 = .ok (.istore_n 3, 1) := by decide +kernel
theorem dX12_laySpan_90 : decode cX12_laySpan 90 = .ok (.aload_n 0, 1) := by decide +kernel
theorem dX12_laySpan_91 : decode cX12_laySpan 91 = .ok (.getfield 70, 3) := by decide +kernel
theorem dX12_laySpan_94 : decode cX12_laySpan 94 = .ok (.iload_n 3, 1) := by decide +kernel
theorem dX12_laySpan_95 : decode cX12_laySpan 95 = .ok (.aload_n 0, 1) := by decide +kernel
theorem dX12_laySpan_96 : decode cX12_laySpan 96 = .ok (.getfield 42, 3) := by decide +kernel
theorem dX12_laySpan_99 : decode cX12_laySpan 99 = .ok (.iload_n 1, 1) := by decide +kernel
theorem dX12_laySpan_100 : decode cX12_laySpan 100 = .ok (.iaload, 1) := by decide +kernel
theorem dX12_laySpan_101 : decode cX12_laySpan 101 = .ok (.iadd, 1) := by decide +kernel
theorem dX12_laySpan_102 : decode cX12_laySpan 102 = .ok (.laload, 1) := by decide +kernel
theorem dX12_laySpan_103 : decode cX12_laySpan 103 = .ok (.lstore 4, 2) := by decide +kernel
theorem dX12_laySpan_105 : decode cX12_laySpan 105 = .ok (.aload_n 0, 1) := by decide +kernel
theorem dX12_laySpan_106 : decode cX12_laySpan 106 = .ok (.getfield 73, 3) := by decide +kernel
theorem dX12_laySpan_109 : decode cX12_laySpan 109 = .ok (.iload_n 3, 1) := by decide +kernel
theorem dX12_laySpan_110 : decode cX12_laySpan 110 = .ok (.aload_n 0, 1) := by decide +kernel
theorem dX12_laySpan_111 : decode cX12_laySpan 111 = .ok (.getfield 42, 3) := by decide +kernel
theorem dX12_laySpan_114 : decode cX12_laySpan 114 = .ok (.iload_n 1, 1) := by decide +kernel
theorem dX12_laySpan_115 : decode cX12_laySpan 115 = .ok (.iaload, 1) := by decide +kernel
theorem dX12_laySpan_116 : decode cX12_laySpan 116 = .ok (.iadd, 1) := by decide +kernel
theorem dX12_laySpan_117 : decode cX12_laySpan 117 = .ok (.laload, 1) := by decide +kernel
theorem dX12_laySpan_118 : decode cX12_laySpan 118 = .ok (.lstore 6, 2) := by decide +kernel
theorem dX12_laySpan_120 : decode cX12_laySpan 120 = .ok (.iload_n 2, 1) := by decide +kernel
theorem dX12_laySpan_121 : decode cX12_laySpan 121 = .ok (.iconst 5, 1) := by decide +kernel
theorem dX12_laySpan_122 : decode cX12_laySpan 122 = .ok (.if_icmp .ne 94, 3) := by decide +kernel
theorem dX12_laySpan_216 : decode cX12_laySpan 216 = .ok (.aload_n 0, 1) := by decide +kernel
theorem dX12_laySpan_217 : decode cX12_laySpan 217 = .ok (.getfield 70, 3) := by decide +kernel
theorem dX12_laySpan_220 : decode cX12_laySpan 220 = .ok (.iload_n 3, 1) := by decide +kernel
theorem dX12_laySpan_221 : decode cX12_laySpan 221 = .ok (.aload_n 0, 1) := by decide +kernel
theorem dX12_laySpan_222 : decode cX12_laySpan 222 = .ok (.getfield 45, 3) := by decide +kernel
theorem dX12_laySpan_225 : decode cX12_laySpan 225 = .ok (.iload_n 1, 1) := by decide +kernel
theorem dX12_laySpan_226 : decode cX12_laySpan 226 = .ok (.iaload, 1) := by decide +kernel
theorem dX12_laySpan_227 : decode cX12_laySpan 227 = .ok (.iadd, 1) := by decide +kernel
theorem dX12_laySpan_228 : decode cX12_laySpan 228 = .ok (.laload, 1) := by decide +kernel
theorem dX12_laySpan_229 : decode cX12_laySpan 229 = .ok (.lstore 8, 2) := by decide +kernel
theorem dX12_laySpan_231 : decode cX12_laySpan 231 = .ok (.aload_n 0, 1) := by decide +kernel
theorem dX12_laySpan_232 : decode cX12_laySpan 232 = .ok (.getfield 73, 3) := by decide +kernel
theorem dX12_laySpan_235 : decode cX12_laySpan 235 = .ok (.iload_n 3, 1) := by decide +kernel
theorem dX12_laySpan_236 : decode cX12_laySpan 236 = .ok (.aload_n 0, 1) := by decide +kernel
theorem dX12_laySpan_237 : decode cX12_laySpan 237 = .ok (.getfield 45, 3) := by decide +kernel
theorem dX12_laySpan_240 : decode cX12_laySpan 240 = .ok (.iload_n 1, 1) := by decide +kernel
theorem dX12_laySpan_241 : decode cX12_laySpan 241 = .ok (.iaload, 1) := by decide +kernel
theorem dX12_laySpan_242 : decode cX12_laySpan 242 = .ok (.iadd, 1) := by decide +kernel
theorem dX12_laySpan_243 : decode cX12_laySpan 243 = .ok (.laload, 1) := by decide +kernel
theorem dX12_laySpan_244 : decode cX12_laySpan 244 = .ok (.lstore 10, 2) := by decide +kernel
theorem dX12_laySpan_246 : decode cX12_laySpan 246 = .ok (.iload_n 2, 1) := by decide +kernel
theorem dX12_laySpan_247 : decode cX12_laySpan 247 = .ok (.bipush 7, 2) := by decide +kernel
theorem dX12_laySpan_249 : decode cX12_laySpan 249 = .ok (.if_icmp .ne 30, 3) := by decide +kernel
theorem dX12_laySpan_279 : decode cX12_laySpan 279 = .ok (.iload_n 2, 1) := by decide +kernel
theorem dX12_laySpan_280 : decode cX12_laySpan 280 = .ok (.iconst 4, 1) := by decide +kernel
theorem dX12_laySpan_281 : decode cX12_laySpan 281 = .ok (.if_icmp .ne 74, 3) := by decide +kernel
theorem dX12_laySpan_355 : decode cX12_laySpan 355 = .ok (.aload_n 0, 1) := by decide +kernel
theorem dX12_laySpan_356 : decode cX12_laySpan 356 = .ok (.getfield 70, 3) := by decide +kernel
theorem dX12_laySpan_359 : decode cX12_laySpan 359 = .ok (.iload_n 1, 1) := by decide +kernel
theorem dX12_laySpan_360 : decode cX12_laySpan 360 = .ok (.iload_n 2, 1) := by decide +kernel
theorem dX12_laySpan_361 : decode cX12_laySpan 361 = .ok (.iconst 2, 1) := by decide +kernel
theorem dX12_laySpan_362 : decode cX12_laySpan 362 = .ok (.if_icmp .ne 11, 3) := by decide +kernel
theorem dX12_laySpan_373 : decode cX12_laySpan 373 = .ok (.lload 4, 2) := by decide +kernel
theorem dX12_laySpan_375 : decode cX12_laySpan 375 = .ok (.lload 10, 2) := by decide +kernel
theorem dX12_laySpan_377 : decode cX12_laySpan 377 = .ok (.lsub, 1) := by decide +kernel
theorem dX12_laySpan_378 : decode cX12_laySpan 378 = .ok (.lastore, 1) := by decide +kernel
theorem dX12_laySpan_379 : decode cX12_laySpan 379 = .ok (.aload_n 0, 1) := by decide +kernel
theorem dX12_laySpan_380 : decode cX12_laySpan 380 = .ok (.getfield 73, 3) := by decide +kernel
theorem dX12_laySpan_383 : decode cX12_laySpan 383 = .ok (.iload_n 1, 1) := by decide +kernel
theorem dX12_laySpan_384 : decode cX12_laySpan 384 = .ok (.iload_n 2, 1) := by decide +kernel
theorem dX12_laySpan_385 : decode cX12_laySpan 385 = .ok (.iconst 2, 1) := by decide +kernel
theorem dX12_laySpan_386 : decode cX12_laySpan 386 = .ok (.if_icmp .ne 11, 3) := by decide +kernel
theorem dX12_laySpan_397 : decode cX12_laySpan 397 = .ok (.lload 6, 2) := by decide +kernel
theorem dX12_laySpan_399 : decode cX12_laySpan 399 = .ok (.lload 8, 2) := by decide +kernel
theorem dX12_laySpan_401 : decode cX12_laySpan 401 = .ok (.lsub, 1) := by decide +kernel
theorem dX12_laySpan_402 : decode cX12_laySpan 402 = .ok (.lastore, 1) := by decide +kernel
theorem dX12_laySpan_403 : decode cX12_laySpan 403 = .ok (.return_, 1) := by decide +kernel
theorem dX12_laySpan_389 : decode cX12_laySpan 389 = .ok (.lload 6, 2) := by decide +kernel
theorem dX12_laySpan_391 : decode cX12_laySpan 391 = .ok (.lload 10, 2) := by decide +kernel
theorem dX12_laySpan_393 : decode cX12_laySpan 393 = .ok (.ladd, 1) := by decide +kernel
theorem dX12_laySpan_394 : decode cX12_laySpan 394 = .ok (.goto 8, 3) := by decide +kernel
theorem dX12_laySpan_365 : decode cX12_laySpan 365 = .ok (.lload 4, 2) := by decide +kernel
theorem dX12_laySpan_367 : decode cX12_laySpan 367 = .ok (.lload 8, 2) := by decide +kernel
theorem dX12_laySpan_369 : decode cX12_laySpan 369 = .ok (.ladd, 1) := by decide +kernel
theorem dX12_laySpan_370 : decode cX12_laySpan 370 = .ok (.goto 8, 3) := by decide +kernel
theorem dX12_laySpan_284 : decode cX12_laySpan 284 = .ok (.aload_n 0, 1) := by decide +kernel
theorem dX12_laySpan_285 : decode cX12_laySpan 285 = .ok (.getfield 70, 3) := by decide +kernel
theorem dX12_laySpan_288 : decode cX12_laySpan 288 = .ok (.iload_n 1, 1) := by decide +kernel
theorem dX12_laySpan_289 : decode cX12_laySpan 289 = .ok (.lload 4, 2) := by decide +kernel
theorem dX12_laySpan_291 : decode cX12_laySpan 291 = .ok (.lload 8, 2) := by decide +kernel
theorem dX12_laySpan_293 : decode cX12_laySpan 293 = .ok (.lmul, 1) := by decide +kernel
theorem dX12_laySpan_294 : decode cX12_laySpan 294 = .ok (.lload 4, 2) := by decide +kernel
theorem dX12_laySpan_296 : decode cX12_laySpan 296 = .ok (.lload 10, 2) := by decide +kernel
theorem dX12_laySpan_298 : decode cX12_laySpan 298 = .ok (.lmul, 1) := by decide +kernel
theorem dX12_laySpan_299 : decode cX12_laySpan 299 = .ok (.invokestatic 314, 3) := by decide +kernel
theorem dX12_laySpan_302 : decode cX12_laySpan 302 = .ok (.lload 6, 2) := by decide +kernel
theorem dX12_laySpan_304 : decode cX12_laySpan 304 = .ok (.lload 8, 2) := by decide +kernel
theorem dX12_laySpan_306 : decode cX12_laySpan 306 = .ok (.lmul, 1) := by decide +kernel
theorem dX12_laySpan_307 : decode cX12_laySpan 307 = .ok (.lload 6, 2) := by decide +kernel
theorem dX12_laySpan_309 : decode cX12_laySpan 309 = .ok (.lload 10, 2) := by decide +kernel
theorem dX12_laySpan_311 : decode cX12_laySpan 311 = .ok (.lmul, 1) := by decide +kernel
theorem dX12_laySpan_312 : decode cX12_laySpan 312 = .ok (.invokestatic 314, 3) := by decide +kernel
theorem dX12_laySpan_315 : decode cX12_laySpan 315 = .ok (.invokestatic 314, 3) := by decide +kernel
theorem dX12_laySpan_318 : decode cX12_laySpan 318 = .ok (.lastore, 1) := by decide +kernel
theorem dX12_laySpan_319 : decode cX12_laySpan 319 = .ok (.aload_n 0, 1) := by decide +kernel
theorem dX12_laySpan_320 : decode cX12_laySpan 320 = .ok (.getfield 73, 3) := by decide +kernel
theorem dX12_laySpan_323 : decode cX12_laySpan 323 = .ok (.iload_n 1, 1) := by decide +kernel
theorem dX12_laySpan_324 : decode cX12_laySpan 324 = .ok (.lload 4, 2) := by decide +kernel
theorem dX12_laySpan_326 : decode cX12_laySpan 326 = .ok (.lload 8, 2) := by decide +kernel
theorem dX12_laySpan_328 : decode cX12_laySpan 328 = .ok (.lmul, 1) := by decide +kernel
theorem dX12_laySpan_329 : decode cX12_laySpan 329 = .ok (.lload 4, 2) := by decide +kernel
theorem dX12_laySpan_331 : decode cX12_laySpan 331 = .ok (.lload 10, 2) := by decide +kernel
theorem dX12_laySpan_333 : decode cX12_laySpan 333 = .ok (.lmul, 1) := by decide +kernel
theorem dX12_laySpan_334 : decode cX12_laySpan 334 = .ok (.invokestatic 318, 3) := by decide +kernel
theorem dX12_laySpan_337 : decode cX12_laySpan 337 = .ok (.lload 6, 2) := by decide +kernel
theorem dX12_laySpan_339 : decode cX12_laySpan 339 = .ok (.lload 8, 2) := by decide +kernel
theorem dX12_laySpan_341 : decode cX12_laySpan 341 = .ok (.lmul, 1) := by decide +kernel
theorem dX12_laySpan_342 : decode cX12_laySpan 342 = .ok (.lload 6, 2) := by decide +kernel
theorem dX12_laySpan_344 : decode cX12_laySpan 344 = .ok (.lload 10, 2) := by decide +kernel
theorem dX12_laySpan_346 : decode cX12_laySpan 346 = .ok (.lmul, 1) := by decide +kernel
theorem dX12_laySpan_347 : decode cX12_laySpan 347 = .ok (.invokestatic 318, 3) := by decide +kernel
theorem dX12_laySpan_350 : decode cX12_laySpan 350 = .ok (.invokestatic 318, 3) := by decide +kernel
theorem dX12_laySpan_353 : decode cX12_laySpan 353 = .ok (.lastore, 1) := by decide +kernel
theorem dX12_laySpan_354 : decode cX12_laySpan 354 = .ok (.return_, 1) := by decide +kernel
theorem dX12_laySpan_252 : decode cX12_laySpan 252 = .ok (.aload_n 0, 1) := by decide +kernel
theorem dX12_laySpan_253 : decode cX12_laySpan 253 = .ok (.getfield 70, 3) := by decide +kernel
theorem dX12_laySpan_256 : decode cX12_laySpan 256 = .ok (.iload_n 1, 1) := by decide +kernel
theorem dX12_laySpan_257 : decode cX12_laySpan 257 = .ok (.lload 4, 2) := by decide +kernel
theorem dX12_laySpan_259 : decode cX12_laySpan 259 = .ok (.lload 8, 2) := by decide +kernel
theorem dX12_laySpan_261 : decode cX12_laySpan 261 = .ok (.invokestatic 314, 3) := by decide +kernel
theorem dX12_laySpan_264 : decode cX12_laySpan 264 = .ok (.lastore, 1) := by decide +kernel
theorem dX12_laySpan_265 : decode cX12_laySpan 265 = .ok (.aload_n 0, 1) := by decide +kernel
theorem dX12_laySpan_266 : decode cX12_laySpan 266 = .ok (.getfield 73, 3) := by decide +kernel
theorem dX12_laySpan_269 : decode cX12_laySpan 269 = .ok (.iload_n 1, 1) := by decide +kernel
theorem dX12_laySpan_270 : decode cX12_laySpan 270 = .ok (.lload 6, 2) := by decide +kernel
theorem dX12_laySpan_272 : decode cX12_laySpan 272 = .ok (.lload 10, 2) := by decide +kernel
theorem dX12_laySpan_274 : decode cX12_laySpan 274 = .ok (.invokestatic 318, 3) := by decide +kernel
theorem dX12_laySpan_277 : decode cX12_laySpan 277 = .ok (.lastore, 1) := by decide +kernel
theorem dX12_laySpan_278 : decode cX12_laySpan 278 = .ok (.return_, 1) := by decide +kernel
theorem dX12_laySpan_125 : decode cX12_laySpan 125 = .ok (.aload_n 0, 1) := by decide +kernel
theorem dX12_laySpan_126 : decode cX12_laySpan 126 = .ok (.getfield 70, 3) := by decide +kernel
theorem dX12_laySpan_129 : decode cX12_laySpan 129 = .ok (.iload_n 1, 1) := by decide +kernel
theorem dX12_laySpan_130 : decode cX12_laySpan 130 = .ok (.lload 4, 2) := by decide +kernel
theorem dX12_laySpan_132 : decode cX12_laySpan 132 = .ok (.aload_n 0, 1) := by decide +kernel
theorem dX12_laySpan_133 : decode cX12_laySpan 133 = .ok (.getfield 45, 3) := by decide +kernel
theorem dX12_laySpan_136 : decode cX12_laySpan 136 = .ok (.iload_n 1, 1) := by decide +kernel
theorem dX12_laySpan_137 : decode cX12_laySpan 137 = .ok (.iaload, 1) := by decide +kernel
theorem dX12_laySpan_138 : decode cX12_laySpan 138 = .ok (.i2l, 1) := by decide +kernel
theorem dX12_laySpan_139 : decode cX12_laySpan 139 = .ok (.lmul, 1) := by decide +kernel
theorem dX12_laySpan_140 : decode cX12_laySpan 140 = .ok (.aload_n 0, 1) := by decide +kernel
theorem dX12_laySpan_141 : decode cX12_laySpan 141 = .ok (.getfield 48, 3) := by decide +kernel
theorem dX12_laySpan_144 : decode cX12_laySpan 144 = .ok (.iload_n 1, 1) := by decide +kernel
theorem dX12_laySpan_145 : decode cX12_laySpan 145 = .ok (.iaload, 1) := by decide +kernel
theorem dX12_laySpan_146 : decode cX12_laySpan 146 = .ok (.i2l, 1) := by decide +kernel
theorem dX12_laySpan_147 : decode cX12_laySpan 147 = .ok (.ldiv, 1) := by decide +kernel
theorem dX12_laySpan_148 : decode cX12_laySpan 148 = .ok (.lload 6, 2) := by decide +kernel
theorem dX12_laySpan_150 : decode cX12_laySpan 150 = .ok (.aload_n 0, 1) := by decide +kernel
theorem dX12_laySpan_151 : decode cX12_laySpan 151 = .ok (.getfield 45, 3) := by decide +kernel
theorem dX12_laySpan_154 : decode cX12_laySpan 154 = .ok (.iload_n 1, 1) := by decide +kernel
theorem dX12_laySpan_155 : decode cX12_laySpan 155 = .ok (.iaload, 1) := by decide +kernel
theorem dX12_laySpan_156 : decode cX12_laySpan 156 = .ok (.i2l, 1) := by decide +kernel
theorem dX12_laySpan_157 : decode cX12_laySpan 157 = .ok (.lmul, 1) := by decide +kernel
theorem dX12_laySpan_158 : decode cX12_laySpan 158 = .ok (.aload_n 0, 1) := by decide +kernel
theorem dX12_laySpan_159 : decode cX12_laySpan 159 = .ok (.getfield 48, 3) := by decide +kernel
theorem dX12_laySpan_162 : decode cX12_laySpan 162 = .ok (.iload_n 1, 1) := by decide +kernel
theorem dX12_laySpan_163 : decode cX12_laySpan 163 = .ok (.iaload, 1) := by decide +kernel
theorem dX12_laySpan_164 : decode cX12_laySpan 164 = .ok (.i2l, 1) := by decide +kernel
theorem dX12_laySpan_165 : decode cX12_laySpan 165 = .ok (.ldiv, 1) := by decide +kernel
theorem dX12_laySpan_166 : decode cX12_laySpan 166 = .ok (.invokestatic 314, 3) := by decide +kernel
theorem dX12_laySpan_169 : decode cX12_laySpan 169 = .ok (.lastore, 1) := by decide +kernel
theorem dX12_laySpan_170 : decode cX12_laySpan 170 = .ok (.aload_n 0, 1) := by decide +kernel
theorem dX12_laySpan_171 : decode cX12_laySpan 171 = .ok (.getfield 73, 3) := by decide +kernel
theorem dX12_laySpan_174 : decode cX12_laySpan 174 = .ok (.iload_n 1, 1) := by decide +kernel
theorem dX12_laySpan_175 : decode cX12_laySpan 175 = .ok (.lload 4, 2) := by decide +kernel
theorem dX12_laySpan_177 : decode cX12_laySpan 177 = .ok (.aload_n 0, 1) := by decide +kernel
theorem dX12_laySpan_178 : decode cX12_laySpan 178 = .ok (.getfield 45, 3) := by decide +kernel
theorem dX12_laySpan_181 : decode cX12_laySpan 181 = .ok (.iload_n 1, 1) := by decide +kernel
theorem dX12_laySpan_182 : decode cX12_laySpan 182 = .ok (.iaload, 1) := by decide +kernel
theorem dX12_laySpan_183 : decode cX12_laySpan 183 = .ok (.i2l, 1) := by decide +kernel
theorem dX12_laySpan_184 : decode cX12_laySpan 184 = .ok (.lmul, 1) := by decide +kernel
theorem dX12_laySpan_185 : decode cX12_laySpan 185 = .ok (.aload_n 0, 1) := by decide +kernel
theorem dX12_laySpan_186 : decode cX12_laySpan 186 = .ok (.getfield 48, 3) := by decide +kernel
theorem dX12_laySpan_189 : decode cX12_laySpan 189 = .ok (.iload_n 1, 1) := by decide +kernel
theorem dX12_laySpan_190 : decode cX12_laySpan 190 = .ok (.iaload, 1) := by decide +kernel
theorem dX12_laySpan_191 : decode cX12_laySpan 191 = .ok (.i2l, 1) := by decide +kernel
theorem dX12_laySpan_192 : decode cX12_laySpan 192 = .ok (.ldiv, 1) := by decide +kernel
theorem dX12_laySpan_193 : decode cX12_laySpan 193 = .ok (.lload 6, 2) := by decide +kernel
theorem dX12_laySpan_195 : decode cX12_laySpan 195 = .ok (.aload_n 0, 1) := by decide +kernel
theorem dX12_laySpan_196 : decode cX12_laySpan 196 = .ok (.getfield 45, 3) := by decide +kernel
theorem dX12_laySpan_199 : decode cX12_laySpan 199 = .ok (.iload_n 1, 1) := by decide +kernel
theorem dX12_laySpan_200 : decode cX12_laySpan 200 = .ok (.iaload, 1) := by decide +kernel
theorem dX12_laySpan_201 : decode cX12_laySpan 201 = .ok (.i2l, 1) := by decide +kernel
theorem dX12_laySpan_202 : decode cX12_laySpan 202 = .ok (.lmul, 1) := by decide +kernel
theorem dX12_laySpan_203 : decode cX12_laySpan 203 = .ok (.aload_n 0, 1) := by decide +kernel
theorem dX12_laySpan_204 : decode cX12_laySpan 204 = .ok (.getfield 48, 3) := by decide +kernel
theorem dX12_laySpan_207 : decode cX12_laySpan 207 = .ok (.iload_n 1, 1) := by decide +kernel
theorem dX12_laySpan_208 : decode cX12_laySpan 208 = .ok (.iaload, 1) := by decide +kernel
theorem dX12_laySpan_209 : decode cX12_laySpan 209 = .ok (.i2l, 1) := by decide +kernel
theorem dX12_laySpan_210 : decode cX12_laySpan 210 = .ok (.ldiv, 1) := by decide +kernel
theorem dX12_laySpan_211 : decode cX12_laySpan 211 = .ok (.invokestatic 318, 3) := by decide +kernel
theorem dX12_laySpan_214 : decode cX12_laySpan 214 = .ok (.lastore, 1) := by decide +kernel
theorem dX12_laySpan_215 : decode cX12_laySpan 215 = .ok (.return_, 1) := by decide +kernel
def ow_n_laySpan : List Cond := [.fieldLink RX12 39 "NearEnoughModel" "sKind" "[I", .fieldLink RX12 243 "NearEnoughModel" "rb" "I", .fieldLink RX12 42 "NearEnoughModel" "sA" "[I", .fieldLink RX12 70 "NearEnoughModel" "sLeast" "[J", .fieldLink RX12 33 "NearEnoughModel" "rLeast" "[I", .fieldLink RX12 73 "NearEnoughModel" "sMost" "[J", .fieldLink RX12 36 "NearEnoughModel" "rMost" "[I", .fieldLink RX12 30 "NearEnoughModel" "rHas" "[I", .fieldLink RX12 45 "NearEnoughModel" "sB" "[I", .fieldLink RX12 48 "NearEnoughModel" "sC" "[I"]
def vs_n_laySpan : List Cond := .code yX12_laySpan cX12_laySpan 12 none :: (ow_n_laySpan ++ (([.methodLink RX12 314 yX12_lesser, .static yX12_lesser, .initialized yX12_lesser.cls] : List Cond) ++ (vs_n_lesser ++ (([.methodLink RX12 318 yX12_greater, .static yX12_greater, .initialized yX12_greater.cls] : List Cond) ++ (vs_n_greater ++ (wsX120))))))
theorem vg_n_laySpan : vs_n_laySpan.all goodWord = true := by decide +kernel
def rm_n_laySpan : Room := { frames := 1, cells := 0, slots := 0, locals := 23 }
theorem gd_n_laySpan_314_n_lesser : GoodIn vs_n_laySpan (va_wsS RX12 314 yX12_lesser vs_n_lesser) := goodIn_app (goodIn_sub (fun w h => (List.mem_cons_of_mem _ (List.mem_append_right _ (List.mem_append_left _ h)))) (by decide +kernel)) (goodIn_sub (fun w h => (List.mem_cons_of_mem _ (List.mem_append_right _ (List.mem_append_right _ (List.mem_append_left _ h))))) vg_n_lesser)
theorem gd_n_laySpan_318_n_greater : GoodIn vs_n_laySpan (va_wsS RX12 318 yX12_greater vs_n_greater) := goodIn_app (goodIn_sub (fun w h => (List.mem_cons_of_mem _ (List.mem_append_right _ (List.mem_append_right _ (List.mem_append_right _ (List.mem_append_left _ h)))))) (by decide +kernel)) (goodIn_sub (fun w h => (List.mem_cons_of_mem _ (List.mem_append_right _ (List.mem_append_right _ (List.mem_append_right _ (List.mem_append_right _ (List.mem_append_left _ h))))))) vg_n_greater)
set_option maxHeartbeats 4000000 in
set_option maxRecDepth 100000 in
theorem n_laySpan (l : Launch) (dC : Nat → ClassId) (dI : Nat → Nat → Nat) (h : Nat) (ad : Nat → Nat) (cl : Nat → ClassId) (sz : Nat) (σ : MS) (x : Int32) (hI : Inv σ) (hx0 : 0 ≤ x.toInt ∧ x.toInt ≤ 23) (hst : StOk (σ.2.1 17 x.toNatClampNeg).toInt (σ.2.1 18 x.toNatClampNeg).toInt (σ.2.1 19 x.toNatClampNeg).toInt (σ.2.1 20 x.toNatClampNeg).toInt (σ.2.1 21 x.toNatClampNeg).toInt 2 12) : Met l yX12_laySpan vs_n_laySpan rm_n_laySpan (va_Pc [.ref h, .int x] (wSt dC dI (mW h ad cl σ) (mT cl) sz)) (va_Qv (fun (τ : MS) => Inv τ ∧ eqx [27, 28] τ σ) (fun (τ : MS) => wEn dC dI (va_A (mW h ad cl σ) sz) (mW h ad cl τ) []) (va_A (mW h ad cl σ) sz)) 0 0 (va_A (mW h ad cl σ) sz) := by
  refine Met.ofW (cc := cX12_laySpan) (maxL := 12) (ret := none) (by decide) rfl ?_
  intro p e s m args below meth c s₁ B hml hv
  obtain ⟨rfl, hsz, hP, hK, hD0, hE⟩ := hv
  have hx := B.exec
  have hb := B.bytes
  have hr := B.returns
  have hts := atoms_spec (ws := vs_n_laySpan) B.pre
  have hown : s.vm.findClass RX12 = some m.cls := findClass_of_methodNamed B.named
  have hlocks := B.notSynchronized
  subst hsz
  have hD := hD0.self (sz := s.heap.size)
  generalize hAe : va_A (mW h ad cl σ) s.heap.size = A at hD ⊢
  have hA : ∀ q : Nat, s.heap.size ≤ q → A q := fun q h => by rw [← hAe]; exact Or.inr h
  have hl := lv_entry ([.ref h, .int x]) (n := 12) (Nat.le_of_ble_eq_true rfl)
  rw [lg_entry_eq]
  generalize (lg_sl ([.ref h, .int x]) ++ List.replicate (12 - (lg_sl ([.ref h, .int x])).length) Slot.unset).toArray = ls at hl ⊢
  have hl : lv_has ls 12 [(0, .ref h), (1, .int x)] := hl
  have ho := fun w (h : w ∈ ow_n_laySpan) => hts w (List.mem_cons_of_mem _ (List.mem_append_left _ h))
  have hin12 : ∀ w ∈ u_ws RX12 TX12 59, w ∈ vs_n_laySpan := fun w h => (List.mem_cons_of_mem _ (List.mem_append_right _ (List.mem_append_right _ (List.mem_append_right _ (List.mem_append_right _ (List.mem_append_right _ h))))))
  refine zQ (fun Q hQ => ?_)
  refine zH (A := A) (ws := mW h ad cl σ) (fun H hP hS => ?_) hP
  have bσ_30 : 0 ≤ (σ.1 30).toInt ∧ (σ.1 30).toInt ≤ 1 := hI.1 30
  unfold StOk at hst
  refine lv_aload_n hx hb dX12_laySpan_0 rfl (lv_at hl 0 rfl) ?_
  refine va_get (D := (dC, dI)) (ci := 12) (v := .ref (ad 17)) (C := RX12) (T := TX12) (N := 59) hx hb hts hin12 hown hK hP 0 rfl rfl 17 (by decide) (ho (.fieldLink RX12 39 "NearEnoughModel" "sKind" "[I") (List.mem_of_getElem? (i := 0) rfl)) (fun _ h9 => h9) rfl dX12_laySpan_1 ?_
  refine lv_iload_n hx hb dX12_laySpan_4 rfl (lv_at hl 1 rfl) ?_
  refine va_iald hx hb hK hP 9 8 rfl rfl (ti_in rfl (by omega) (by omega)) dX12_laySpan_5 ?_
  refine lv_topi (fun z1 ez1 => ?_)
  have gz1 : z1.toInt = ((σ.2.1 17) (Int32.toNatClampNeg x)).toInt := congrArg Int32.toInt (ez1.trans (congrFun rfl (Int32.toNatClampNeg x)))
  have bz1 : 0 ≤ z1.toInt ∧ z1.toInt ≤ 7 := by rw [ez1]; exact (hI.2 17) _ (by have := ti_cl (x := x) rfl (by omega); show _ < 24; omega)
  refine lv_istore_n (lv' := [(2, .int z1), (0, .ref h), (1, .int x)]) hx hb dX12_laySpan_6 rfl hl (by decide) rfl (fun ls hl => ?_)
  refine lv_iload_n hx hb dX12_laySpan_7 rfl (lv_at hl 0 rfl) ?_
  refine lv_iconst (v := 1) hx hb dX12_laySpan_8 (by decide) ?_
  refine lv_icmp_le (tgt := 18) hx hb dX12_laySpan_9 (by decide) (fun c2 => ?_) (fun c2 => ?_)
  · have tc2 := (show z1.toInt ≤ 1 from ti_le rfl (by decide) c2)
    refine lv_iconst (v := 2) hx hb dX12_laySpan_18 (by decide) ?_
    refine lv_aload_n hx hb dX12_laySpan_19 rfl (lv_at hl 1 rfl) ?_
    refine va_get (D := (dC, dI)) (ci := 12) (v := .int (σ.1 30)) (C := RX12) (T := TX12) (N := 59) hx hb hts hin12 hown hK hP 0 rfl rfl 30 (by decide) (ho (.fieldLink RX12 243 "NearEnoughModel" "rb" "I") (List.mem_of_getElem? (i := 1) rfl)) (fun _ h9 => h9) rfl dX12_laySpan_20 ?_
    have bσ_30 : 0 ≤ (σ.1 30).toInt ∧ (σ.1 30).toInt ≤ 1 := hI.1 30
    refine lv_imul hx hb dX12_laySpan_23 ?_
    refine lv_topi (fun z3 ez3 => ?_)
    have tz3 : z3.toInt = 2 * (σ.1 30).toInt := ti_mul ez3 (by decide) rfl (by omega) (by omega)
    refine lv_aload_n hx hb dX12_laySpan_24 rfl (lv_at hl 1 rfl) ?_
    refine va_get (D := (dC, dI)) (ci := 12) (v := .ref (ad 18)) (C := RX12) (T := TX12) (N := 59) hx hb hts hin12 hown hK hP 0 rfl rfl 18 (by decide) (ho (.fieldLink RX12 42 "NearEnoughModel" "sA" "[I") (List.mem_of_getElem? (i := 2) rfl)) (fun _ h9 => h9) rfl dX12_laySpan_25 ?_
    refine lv_iload_n hx hb dX12_laySpan_28 rfl (lv_at hl 2 rfl) ?_
    refine va_iald hx hb hK hP 10 9 rfl rfl (ti_in rfl (by omega) (by omega)) dX12_laySpan_29 ?_
    refine lv_topi (fun z4 ez4 => ?_)
    have gz4 : z4.toInt = ((σ.2.1 18) (Int32.toNatClampNeg x)).toInt := congrArg Int32.toInt (ez4.trans (congrFun rfl (Int32.toNatClampNeg x)))
    have bz4 : (-1) ≤ z4.toInt ∧ z4.toInt ≤ 11 := by rw [ez4]; exact (hI.2 18) _ (by have := ti_cl (x := x) rfl (by omega); show _ < 24; omega)
    refine lv_iadd hx hb dX12_laySpan_30 ?_
    refine lv_topi (fun z5 ez5 => ?_)
    have tz5 : z5.toInt = z3.toInt + z4.toInt := ti_add ez5 rfl rfl (by omega) (by omega)
    refine lv_istore_n (lv' := [(3, .int z5), (2, .int z1), (0, .ref h), (1, .int x)]) hx hb dX12_laySpan_31 rfl hl (by decide) rfl (fun ls hl => ?_)
    refine lv_iload_n hx hb dX12_laySpan_32 rfl (lv_at hl 1 rfl) ?_
    refine lv_if_ne (tgt := 46) hx hb dX12_laySpan_33 (by decide) (fun c6 => ?_) (fun c6 => ?_)
    · have tc6 := (show z1.toInt ≠ 0 from ti_ne rfl (by decide) c6)
      refine lv_lconst (v := 1) hx hb dX12_laySpan_46 (by decide) ?_
      refine lv_lstore (lv' := [(4, .long 1), (3, .int z5), (2, .int z1), (0, .ref h), (1, .int x)]) hx hb dX12_laySpan_47 hl (by decide) rfl (fun ls hl => ?_)
      refine lv_aload_n hx hb dX12_laySpan_49 rfl (lv_at hl 3 rfl) ?_
      refine va_get (D := (dC, dI)) (ci := 12) (v := .ref (ad 27)) (C := RX12) (T := TX12) (N := 59) hx hb hts hin12 hown hK hP 0 rfl rfl 27 (by decide) (ho (.fieldLink RX12 70 "NearEnoughModel" "sLeast" "[J") (List.mem_of_getElem? (i := 3) rfl)) (fun _ h9 => h9) rfl dX12_laySpan_50 ?_
      refine lv_iload_n hx hb dX12_laySpan_53 rfl (lv_at hl 4 rfl) ?_
      refine lv_lload hx hb dX12_laySpan_54 (lv_at hl 0 rfl) ?_
      refine lv_aload_n hx hb dX12_laySpan_56 rfl (lv_at hl 3 rfl) ?_
      refine va_get (D := (dC, dI)) (ci := 12) (v := .ref (ad 15)) (C := RX12) (T := TX12) (N := 59) hx hb hts hin12 hown hK hP 0 rfl rfl 15 (by decide) (ho (.fieldLink RX12 33 "NearEnoughModel" "rLeast" "[I") (List.mem_of_getElem? (i := 4) rfl)) (fun _ h9 => h9) rfl dX12_laySpan_57 ?_
      refine lv_iload_n hx hb dX12_laySpan_60 rfl (lv_at hl 1 rfl) ?_
      refine va_iald hx hb hK hP 7 6 rfl rfl (ti_in rfl (by omega) (by omega)) dX12_laySpan_61 ?_
      refine lv_topi (fun z7 ez7 => ?_)
      have gz7 : z7.toInt = ((σ.2.1 15) (Int32.toNatClampNeg z5)).toInt := congrArg Int32.toInt (ez7.trans (congrFun rfl (Int32.toNatClampNeg z5)))
      refine lv_i2l hx hb dX12_laySpan_62 rfl ?_
      refine lv_topl (fun y8 ey8 => ?_)
      refine lv_lmul hx hb dX12_laySpan_63 ?_
      refine lv_topl (fun y9 ey9 => ?_)
      refine va_last hx hb hK hP hD hS 19 18 rfl rfl (ti_in rfl (by omega) (by omega)) dX12_laySpan_64 (fun H locs hP hD hS => ?_)
      have hP : va_P (dC, dI) vwCl (mW h ad cl (sJ σ 27 (vp_updL (σ.2.2.1 27) (Int32.toNatClampNeg x) y9))) H := hP
      have hD : va_D A (mW h ad cl (sJ σ 27 (vp_updL (σ.2.2.1 27) (Int32.toNatClampNeg x) y9))) := hD
      refine lv_aload_n hx hb dX12_laySpan_65 rfl (lv_at hl 3 rfl) ?_
      refine va_get (D := (dC, dI)) (ci := 12) (v := .ref (ad 28)) (C := RX12) (T := TX12) (N := 59) hx hb hts hin12 hown hK hP 0 rfl rfl 28 (by decide) (ho (.fieldLink RX12 73 "NearEnoughModel" "sMost" "[J") (List.mem_of_getElem? (i := 5) rfl)) (fun _ h9 => h9) rfl dX12_laySpan_66 ?_
      refine lv_iload_n hx hb dX12_laySpan_69 rfl (lv_at hl 4 rfl) ?_
      refine lv_lload hx hb dX12_laySpan_70 (lv_at hl 0 rfl) ?_
      refine lv_aload_n hx hb dX12_laySpan_72 rfl (lv_at hl 3 rfl) ?_
      refine va_get (D := (dC, dI)) (ci := 12) (v := .ref (ad 16)) (C := RX12) (T := TX12) (N := 59) hx hb hts hin12 hown hK hP 0 rfl rfl 16 (by decide) (ho (.fieldLink RX12 36 "NearEnoughModel" "rMost" "[I") (List.mem_of_getElem? (i := 6) rfl)) (fun _ h9 => h9) rfl dX12_laySpan_73 ?_
      refine lv_iload_n hx hb dX12_laySpan_76 rfl (lv_at hl 1 rfl) ?_
      refine va_iald hx hb hK hP 8 7 rfl rfl (ti_in rfl (by omega) (by omega)) dX12_laySpan_77 ?_
      refine lv_topi (fun z10 ez10 => ?_)
      have gz10 : z10.toInt = ((σ.2.1 16) (Int32.toNatClampNeg z5)).toInt := congrArg Int32.toInt (ez10.trans (congrFun tJ (Int32.toNatClampNeg z5)))
      refine lv_i2l hx hb dX12_laySpan_78 rfl ?_
      refine lv_topl (fun y11 ey11 => ?_)
      refine lv_lmul hx hb dX12_laySpan_79 ?_
      refine lv_topl (fun y12 ey12 => ?_)
      refine va_last hx hb hK hP hD hS 20 19 rfl rfl (ti_in rfl (by omega) (by omega)) dX12_laySpan_80 (fun H locs hP hD hS => ?_)
      have hP : va_P (dC, dI) vwCl (mW h ad cl (sJ (sJ σ 27 (vp_updL (σ.2.2.1 27) (Int32.toNatClampNeg x) y9)) 28 (vp_updL (σ.2.2.1 28) (Int32.toNatClampNeg x) y12))) H := hP
      have hD : va_D A (mW h ad cl (sJ (sJ σ 27 (vp_updL (σ.2.2.1 27) (Int32.toNatClampNeg x) y9)) 28 (vp_updL (σ.2.2.1 28) (Int32.toNatClampNeg x) y12))) := hD
      rw [hQ]
      exact W.vret hx hb hr (fun t ht hW => ⟨⟨(sJ (sJ σ 27 (vp_updL (σ.2.2.1 27) (Int32.toNatClampNeg x) y9)) 28 (vp_updL (σ.2.2.1 28) (Int32.toNatClampNeg x) y12)), rfl, ⟨(Inv.sJ (Inv.sJ hI)), (eqx.sJ (eqx.sJ eqx.rf (by decide)) (by decide))⟩, wEn_of hP (hK.sub [] rfl) hD ht hW⟩, hS.F ht⟩) hS.2.2 dX12_laySpan_81
    · have tc6 := (show z1.toInt = 0 from ti_eq rfl (by decide) c6)
      refine lv_aload_n hx hb dX12_laySpan_36 rfl (lv_at hl 2 rfl) ?_
      refine va_get (D := (dC, dI)) (ci := 12) (v := .ref (ad 14)) (C := RX12) (T := TX12) (N := 59) hx hb hts hin12 hown hK hP 0 rfl rfl 14 (by decide) (ho (.fieldLink RX12 30 "NearEnoughModel" "rHas" "[I") (List.mem_of_getElem? (i := 7) rfl)) (fun _ h9 => h9) rfl dX12_laySpan_37 ?_
      refine lv_iload_n hx hb dX12_laySpan_40 rfl (lv_at hl 0 rfl) ?_
      refine va_iald hx hb hK hP 6 5 rfl rfl (ti_in rfl (by omega) (by omega)) dX12_laySpan_41 ?_
      refine lv_topi (fun z13 ez13 => ?_)
      have gz13 : z13.toInt = ((σ.2.1 14) (Int32.toNatClampNeg z5)).toInt := congrArg Int32.toInt (ez13.trans (congrFun rfl (Int32.toNatClampNeg z5)))
      have bz13 : 0 ≤ z13.toInt ∧ z13.toInt ≤ 6 := by rw [ez13]; exact (hI.2 14) _ (by have := ti_cl (x := z5) rfl (by omega); show _ < 4; omega)
      refine lv_i2l hx hb dX12_laySpan_42 rfl ?_
      refine lv_topl (fun y14 ey14 => ?_)
      refine lv_goto (tgt := 47) hx hb dX12_laySpan_43 (by decide) ?_
      refine lv_lstore (lv' := [(4, .long y14), (3, .int z5), (2, .int z1), (0, .ref h), (1, .int x)]) hx hb dX12_laySpan_47 hl (by decide) rfl (fun ls hl => ?_)
      refine lv_aload_n hx hb dX12_laySpan_49 rfl (lv_at hl 3 rfl) ?_
      refine va_get (D := (dC, dI)) (ci := 12) (v := .ref (ad 27)) (C := RX12) (T := TX12) (N := 59) hx hb hts hin12 hown hK hP 0 rfl rfl 27 (by decide) (ho (.fieldLink RX12 70 "NearEnoughModel" "sLeast" "[J") (List.mem_of_getElem? (i := 3) rfl)) (fun _ h9 => h9) rfl dX12_laySpan_50 ?_
      refine lv_iload_n hx hb dX12_laySpan_53 rfl (lv_at hl 4 rfl) ?_
      refine lv_lload hx hb dX12_laySpan_54 (lv_at hl 0 rfl) ?_
      refine lv_aload_n hx hb dX12_laySpan_56 rfl (lv_at hl 3 rfl) ?_
      refine va_get (D := (dC, dI)) (ci := 12) (v := .ref (ad 15)) (C := RX12) (T := TX12) (N := 59) hx hb hts hin12 hown hK hP 0 rfl rfl 15 (by decide) (ho (.fieldLink RX12 33 "NearEnoughModel" "rLeast" "[I") (List.mem_of_getElem? (i := 4) rfl)) (fun _ h9 => h9) rfl dX12_laySpan_57 ?_
      refine lv_iload_n hx hb dX12_laySpan_60 rfl (lv_at hl 1 rfl) ?_
      refine va_iald hx hb hK hP 7 6 rfl rfl (ti_in rfl (by omega) (by omega)) dX12_laySpan_61 ?_
      refine lv_topi (fun z15 ez15 => ?_)
      have gz15 : z15.toInt = ((σ.2.1 15) (Int32.toNatClampNeg z5)).toInt := congrArg Int32.toInt (ez15.trans (congrFun rfl (Int32.toNatClampNeg z5)))
      refine lv_i2l hx hb dX12_laySpan_62 rfl ?_
      refine lv_topl (fun y16 ey16 => ?_)
      refine lv_lmul hx hb dX12_laySpan_63 ?_
      refine lv_topl (fun y17 ey17 => ?_)
      refine va_last hx hb hK hP hD hS 19 18 rfl rfl (ti_in rfl (by omega) (by omega)) dX12_laySpan_64 (fun H locs hP hD hS => ?_)
      have hP : va_P (dC, dI) vwCl (mW h ad cl (sJ σ 27 (vp_updL (σ.2.2.1 27) (Int32.toNatClampNeg x) y17))) H := hP
      have hD : va_D A (mW h ad cl (sJ σ 27 (vp_updL (σ.2.2.1 27) (Int32.toNatClampNeg x) y17))) := hD
      refine lv_aload_n hx hb dX12_laySpan_65 rfl (lv_at hl 3 rfl) ?_
      refine va_get (D := (dC, dI)) (ci := 12) (v := .ref (ad 28)) (C := RX12) (T := TX12) (N := 59) hx hb hts hin12 hown hK hP 0 rfl rfl 28 (by decide) (ho (.fieldLink RX12 73 "NearEnoughModel" "sMost" "[J") (List.mem_of_getElem? (i := 5) rfl)) (fun _ h9 => h9) rfl dX12_laySpan_66 ?_
      refine lv_iload_n hx hb dX12_laySpan_69 rfl (lv_at hl 4 rfl) ?_
      refine lv_lload hx hb dX12_laySpan_70 (lv_at hl 0 rfl) ?_
      refine lv_aload_n hx hb dX12_laySpan_72 rfl (lv_at hl 3 rfl) ?_
      refine va_get (D := (dC, dI)) (ci := 12) (v := .ref (ad 16)) (C := RX12) (T := TX12) (N := 59) hx hb hts hin12 hown hK hP 0 rfl rfl 16 (by decide) (ho (.fieldLink RX12 36 "NearEnoughModel" "rMost" "[I") (List.mem_of_getElem? (i := 6) rfl)) (fun _ h9 => h9) rfl dX12_laySpan_73 ?_
      refine lv_iload_n hx hb dX12_laySpan_76 rfl (lv_at hl 1 rfl) ?_
      refine va_iald hx hb hK hP 8 7 rfl rfl (ti_in rfl (by omega) (by omega)) dX12_laySpan_77 ?_
      refine lv_topi (fun z18 ez18 => ?_)
      have gz18 : z18.toInt = ((σ.2.1 16) (Int32.toNatClampNeg z5)).toInt := congrArg Int32.toInt (ez18.trans (congrFun tJ (Int32.toNatClampNeg z5)))
      refine lv_i2l hx hb dX12_laySpan_78 rfl ?_
      refine lv_topl (fun y19 ey19 => ?_)
      refine lv_lmul hx hb dX12_laySpan_79 ?_
      refine lv_topl (fun y20 ey20 => ?_)
      refine va_last hx hb hK hP hD hS 20 19 rfl rfl (ti_in rfl (by omega) (by omega)) dX12_laySpan_80 (fun H locs hP hD hS => ?_)
      have hP : va_P (dC, dI) vwCl (mW h ad cl (sJ (sJ σ 27 (vp_updL (σ.2.2.1 27) (Int32.toNatClampNeg x) y17)) 28 (vp_updL (σ.2.2.1 28) (Int32.toNatClampNeg x) y20))) H := hP
      have hD : va_D A (mW h ad cl (sJ (sJ σ 27 (vp_updL (σ.2.2.1 27) (Int32.toNatClampNeg x) y17)) 28 (vp_updL (σ.2.2.1 28) (Int32.toNatClampNeg x) y20))) := hD
      rw [hQ]
      exact W.vret hx hb hr (fun t ht hW => ⟨⟨(sJ (sJ σ 27 (vp_updL (σ.2.2.1 27) (Int32.toNatClampNeg x) y17)) 28 (vp_updL (σ.2.2.1 28) (Int32.toNatClampNeg x) y20)), rfl, ⟨(Inv.sJ (Inv.sJ hI)), (eqx.sJ (eqx.sJ eqx.rf (by decide)) (by decide))⟩, wEn_of hP (hK.sub [] rfl) hD ht hW⟩, hS.F ht⟩) hS.2.2 dX12_laySpan_81
  · have tc2 := (show 1 < z1.toInt from ti_nle rfl (by decide) c2)
    refine lv_iload_n hx hb dX12_laySpan_12 rfl (lv_at hl 0 rfl) ?_
    refine lv_bipush (v := 6) hx hb dX12_laySpan_13 (by decide) ?_
    refine lv_icmp_ne (tgt := 82) hx hb dX12_laySpan_15 (by decide) (fun c21 => ?_) (fun c21 => ?_)
    · have tc21 := (show z1.toInt ≠ 6 from ti_ne rfl (by decide) c21)
      refine lv_bipush (v := 12) hx hb dX12_laySpan_82 (by decide) ?_
      refine lv_aload_n hx hb dX12_laySpan_84 rfl (lv_at hl 1 rfl) ?_
      refine va_get (D := (dC, dI)) (ci := 12) (v := .int (σ.1 30)) (C := RX12) (T := TX12) (N := 59) hx hb hts hin12 hown hK hP 0 rfl rfl 30 (by decide) (ho (.fieldLink RX12 243 "NearEnoughModel" "rb" "I") (List.mem_of_getElem? (i := 1) rfl)) (fun _ h9 => h9) rfl dX12_laySpan_85 ?_
      have bσ_30 : 0 ≤ (σ.1 30).toInt ∧ (σ.1 30).toInt ≤ 1 := hI.1 30
      refine lv_imul hx hb dX12_laySpan_88 ?_
      refine lv_topi (fun z22 ez22 => ?_)
      have tz22 : z22.toInt = 12 * (σ.1 30).toInt := ti_mul ez22 (by decide) rfl (by omega) (by omega)
      refine lv_istore_n (lv' := [(3, .int z22), (2, .int z1), (0, .ref h), (1, .int x)]) hx hb dX12_laySpan_89 rfl hl (by decide) rfl (fun ls hl => ?_)
      refine lv_aload_n hx hb dX12_laySpan_90 rfl (lv_at hl 2 rfl) ?_
      refine va_get (D := (dC, dI)) (ci := 12) (v := .ref (ad 27)) (C := RX12) (T := TX12) (N := 59) hx hb hts hin12 hown hK hP 0 rfl rfl 27 (by decide) (ho (.fieldLink RX12 70 "NearEnoughModel" "sLeast" "[J") (List.mem_of_getElem? (i := 3) rfl)) (fun _ h9 => h9) rfl dX12_laySpan_91 ?_
      refine lv_iload_n hx hb dX12_laySpan_94 rfl (lv_at hl 0 rfl) ?_
      refine lv_aload_n hx hb dX12_laySpan_95 rfl (lv_at hl 2 rfl) ?_
      refine va_get (D := (dC, dI)) (ci := 12) (v := .ref (ad 18)) (C := RX12) (T := TX12) (N := 59) hx hb hts hin12 hown hK hP 0 rfl rfl 18 (by decide) (ho (.fieldLink RX12 42 "NearEnoughModel" "sA" "[I") (List.mem_of_getElem? (i := 2) rfl)) (fun _ h9 => h9) rfl dX12_laySpan_96 ?_
      refine lv_iload_n hx hb dX12_laySpan_99 rfl (lv_at hl 3 rfl) ?_
      refine va_iald hx hb hK hP 10 9 rfl rfl (ti_in rfl (by omega) (by omega)) dX12_laySpan_100 ?_
      refine lv_topi (fun z23 ez23 => ?_)
      have gz23 : z23.toInt = ((σ.2.1 18) (Int32.toNatClampNeg x)).toInt := congrArg Int32.toInt (ez23.trans (congrFun rfl (Int32.toNatClampNeg x)))
      have bz23 : (-1) ≤ z23.toInt ∧ z23.toInt ≤ 11 := by rw [ez23]; exact (hI.2 18) _ (by have := ti_cl (x := x) rfl (by omega); show _ < 24; omega)
      refine lv_iadd hx hb dX12_laySpan_101 ?_
      refine lv_topi (fun z24 ez24 => ?_)
      have tz24 : z24.toInt = z22.toInt + z23.toInt := ti_add ez24 rfl rfl (by omega) (by omega)
      refine va_lald hx hb hK hP 19 18 rfl rfl (ti_in rfl (by omega) (by omega)) dX12_laySpan_102 ?_
      refine lv_topl (fun y25 ey25 => ?_)
      refine lv_lstore (lv' := [(4, .long y25), (3, .int z22), (2, .int z1), (0, .ref h), (1, .int x)]) hx hb dX12_laySpan_103 hl (by decide) rfl (fun ls hl => ?_)
      refine lv_aload_n hx hb dX12_laySpan_105 rfl (lv_at hl 3 rfl) ?_
      refine va_get (D := (dC, dI)) (ci := 12) (v := .ref (ad 28)) (C := RX12) (T := TX12) (N := 59) hx hb hts hin12 hown hK hP 0 rfl rfl 28 (by decide) (ho (.fieldLink RX12 73 "NearEnoughModel" "sMost" "[J") (List.mem_of_getElem? (i := 5) rfl)) (fun _ h9 => h9) rfl dX12_laySpan_106 ?_
      refine lv_iload_n hx hb dX12_laySpan_109 rfl (lv_at hl 1 rfl) ?_
      refine lv_aload_n hx hb dX12_laySpan_110 rfl (lv_at hl 3 rfl) ?_
      refine va_get (D := (dC, dI)) (ci := 12) (v := .ref (ad 18)) (C := RX12) (T := TX12) (N := 59) hx hb hts hin12 hown hK hP 0 rfl rfl 18 (by decide) (ho (.fieldLink RX12 42 "NearEnoughModel" "sA" "[I") (List.mem_of_getElem? (i := 2) rfl)) (fun _ h9 => h9) rfl dX12_laySpan_111 ?_
      refine lv_iload_n hx hb dX12_laySpan_114 rfl (lv_at hl 4 rfl) ?_
      refine va_iald hx hb hK hP 10 9 rfl rfl (ti_in rfl (by omega) (by omega)) dX12_laySpan_115 ?_
      refine lv_topi (fun z26 ez26 => ?_)
      have qq27 : z26.toInt = z23.toInt := congrArg Int32.toInt ((ez26.trans (congrFun rfl (Int32.toNatClampNeg x))).trans ((ez23.trans (congrFun rfl (Int32.toNatClampNeg x)))).symm)
      have gz26 : z26.toInt = ((σ.2.1 18) (Int32.toNatClampNeg x)).toInt := congrArg Int32.toInt (ez26.trans (congrFun rfl (Int32.toNatClampNeg x)))
      have bz26 : (-1) ≤ z26.toInt ∧ z26.toInt ≤ 11 := by rw [ez26]; exact (hI.2 18) _ (by have := ti_cl (x := x) rfl (by omega); show _ < 24; omega)
      refine lv_iadd hx hb dX12_laySpan_116 ?_
      refine lv_topi (fun z28 ez28 => ?_)
      have tz28 : z28.toInt = z22.toInt + z26.toInt := ti_add ez28 rfl rfl (by omega) (by omega)
      refine va_lald hx hb hK hP 20 19 rfl rfl (ti_in rfl (by omega) (by omega)) dX12_laySpan_117 ?_
      refine lv_topl (fun y29 ey29 => ?_)
      refine lv_lstore (lv' := [(6, .long y29), (4, .long y25), (3, .int z22), (2, .int z1), (0, .ref h), (1, .int x)]) hx hb dX12_laySpan_118 hl (by decide) rfl (fun ls hl => ?_)
      refine lv_iload_n hx hb dX12_laySpan_120 rfl (lv_at hl 3 rfl) ?_
      refine lv_iconst (v := 5) hx hb dX12_laySpan_121 (by decide) ?_
      refine lv_icmp_ne (tgt := 216) hx hb dX12_laySpan_122 (by decide) (fun c30 => ?_) (fun c30 => ?_)
      · have tc30 := (show z1.toInt ≠ 5 from ti_ne rfl (by decide) c30)
        refine lv_aload_n hx hb dX12_laySpan_216 rfl (lv_at hl 4 rfl) ?_
        refine va_get (D := (dC, dI)) (ci := 12) (v := .ref (ad 27)) (C := RX12) (T := TX12) (N := 59) hx hb hts hin12 hown hK hP 0 rfl rfl 27 (by decide) (ho (.fieldLink RX12 70 "NearEnoughModel" "sLeast" "[J") (List.mem_of_getElem? (i := 3) rfl)) (fun _ h9 => h9) rfl dX12_laySpan_217 ?_
        refine lv_iload_n hx hb dX12_laySpan_220 rfl (lv_at hl 2 rfl) ?_
        refine lv_aload_n hx hb dX12_laySpan_221 rfl (lv_at hl 4 rfl) ?_
        refine va_get (D := (dC, dI)) (ci := 12) (v := .ref (ad 19)) (C := RX12) (T := TX12) (N := 59) hx hb hts hin12 hown hK hP 0 rfl rfl 19 (by decide) (ho (.fieldLink RX12 45 "NearEnoughModel" "sB" "[I") (List.mem_of_getElem? (i := 8) rfl)) (fun _ h9 => h9) rfl dX12_laySpan_222 ?_
        refine lv_iload_n hx hb dX12_laySpan_225 rfl (lv_at hl 5 rfl) ?_
        refine va_iald hx hb hK hP 11 10 rfl rfl (ti_in rfl (by omega) (by omega)) dX12_laySpan_226 ?_
        refine lv_topi (fun z31 ez31 => ?_)
        have gz31 : z31.toInt = ((σ.2.1 19) (Int32.toNatClampNeg x)).toInt := congrArg Int32.toInt (ez31.trans (congrFun rfl (Int32.toNatClampNeg x)))
        have bz31 : (-99) ≤ z31.toInt ∧ z31.toInt ≤ 99 := by rw [ez31]; exact (hI.2 19) _ (by have := ti_cl (x := x) rfl (by omega); show _ < 24; omega)
        refine lv_iadd hx hb dX12_laySpan_227 ?_
        refine lv_topi (fun z32 ez32 => ?_)
        have tz32 : z32.toInt = z22.toInt + z31.toInt := ti_add ez32 rfl rfl (by omega) (by omega)
        refine va_lald hx hb hK hP 19 18 rfl rfl (ti_in rfl (by omega) (by omega)) dX12_laySpan_228 ?_
        refine lv_topl (fun y33 ey33 => ?_)
        refine lv_lstore (lv' := [(8, .long y33), (6, .long y29), (4, .long y25), (3, .int z22), (2, .int z1), (0, .ref h), (1, .int x)]) hx hb dX12_laySpan_229 hl (by decide) rfl (fun ls hl => ?_)
        refine lv_aload_n hx hb dX12_laySpan_231 rfl (lv_at hl 5 rfl) ?_
        refine va_get (D := (dC, dI)) (ci := 12) (v := .ref (ad 28)) (C := RX12) (T := TX12) (N := 59) hx hb hts hin12 hown hK hP 0 rfl rfl 28 (by decide) (ho (.fieldLink RX12 73 "NearEnoughModel" "sMost" "[J") (List.mem_of_getElem? (i := 5) rfl)) (fun _ h9 => h9) rfl dX12_laySpan_232 ?_
        refine lv_iload_n hx hb dX12_laySpan_235 rfl (lv_at hl 3 rfl) ?_
        refine lv_aload_n hx hb dX12_laySpan_236 rfl (lv_at hl 5 rfl) ?_
        refine va_get (D := (dC, dI)) (ci := 12) (v := .ref (ad 19)) (C := RX12) (T := TX12) (N := 59) hx hb hts hin12 hown hK hP 0 rfl rfl 19 (by decide) (ho (.fieldLink RX12 45 "NearEnoughModel" "sB" "[I") (List.mem_of_getElem? (i := 8) rfl)) (fun _ h9 => h9) rfl dX12_laySpan_237 ?_
        refine lv_iload_n hx hb dX12_laySpan_240 rfl (lv_at hl 6 rfl) ?_
        refine va_iald hx hb hK hP 11 10 rfl rfl (ti_in rfl (by omega) (by omega)) dX12_laySpan_241 ?_
        refine lv_topi (fun z34 ez34 => ?_)
        have qq35 : z34.toInt = z31.toInt := congrArg Int32.toInt ((ez34.trans (congrFun rfl (Int32.toNatClampNeg x))).trans ((ez31.trans (congrFun rfl (Int32.toNatClampNeg x)))).symm)
        have gz34 : z34.toInt = ((σ.2.1 19) (Int32.toNatClampNeg x)).toInt := congrArg Int32.toInt (ez34.trans (congrFun rfl (Int32.toNatClampNeg x)))
        have bz34 : (-99) ≤ z34.toInt ∧ z34.toInt ≤ 99 := by rw [ez34]; exact (hI.2 19) _ (by have := ti_cl (x := x) rfl (by omega); show _ < 24; omega)
        refine lv_iadd hx hb dX12_laySpan_242 ?_
        refine lv_topi (fun z36 ez36 => ?_)
        have tz36 : z36.toInt = z22.toInt + z34.toInt := ti_add ez36 rfl rfl (by omega) (by omega)
        refine va_lald hx hb hK hP 20 19 rfl rfl (ti_in rfl (by omega) (by omega)) dX12_laySpan_243 ?_
        refine lv_topl (fun y37 ey37 => ?_)
        refine lv_lstore (lv' := [(10, .long y37), (8, .long y33), (6, .long y29), (4, .long y25), (3, .int z22), (2, .int z1), (0, .ref h), (1, .int x)]) hx hb dX12_laySpan_244 hl (by decide) rfl (fun ls hl => ?_)
        refine lv_iload_n hx hb dX12_laySpan_246 rfl (lv_at hl 5 rfl) ?_
        refine lv_bipush (v := 7) hx hb dX12_laySpan_247 (by decide) ?_
        refine lv_icmp_ne (tgt := 279) hx hb dX12_laySpan_249 (by decide) (fun c38 => ?_) (fun c38 => ?_)
        · have tc38 := (show z1.toInt ≠ 7 from ti_ne rfl (by decide) c38)
          refine lv_iload_n hx hb dX12_laySpan_279 rfl (lv_at hl 5 rfl) ?_
          refine lv_iconst (v := 4) hx hb dX12_laySpan_280 (by decide) ?_
          refine lv_icmp_ne (tgt := 355) hx hb dX12_laySpan_281 (by decide) (fun c39 => ?_) (fun c39 => ?_)
          · have tc39 := (show z1.toInt ≠ 4 from ti_ne rfl (by decide) c39)
            refine lv_aload_n hx hb dX12_laySpan_355 rfl (lv_at hl 6 rfl) ?_
            refine va_get (D := (dC, dI)) (ci := 12) (v := .ref (ad 27)) (C := RX12) (T := TX12) (N := 59) hx hb hts hin12 hown hK hP 0 rfl rfl 27 (by decide) (ho (.fieldLink RX12 70 "NearEnoughModel" "sLeast" "[J") (List.mem_of_getElem? (i := 3) rfl)) (fun _ h9 => h9) rfl dX12_laySpan_356 ?_
            refine lv_iload_n hx hb dX12_laySpan_359 rfl (lv_at hl 7 rfl) ?_
            refine lv_iload_n hx hb dX12_laySpan_360 rfl (lv_at hl 5 rfl) ?_
            refine lv_iconst (v := 2) hx hb dX12_laySpan_361 (by decide) ?_
            refine lv_icmp_ne (tgt := 373) hx hb dX12_laySpan_362 (by decide) (fun c40 => ?_) (fun c40 => ?_)
            · have tc40 := (show z1.toInt ≠ 2 from ti_ne rfl (by decide) c40)
              refine lv_lload hx hb dX12_laySpan_373 (lv_at hl 3 rfl) ?_
              refine lv_lload hx hb dX12_laySpan_375 (lv_at hl 0 rfl) ?_
              refine lv_lsub hx hb dX12_laySpan_377 ?_
              refine lv_topl (fun y41 ey41 => ?_)
              refine va_last hx hb hK hP hD hS 19 18 rfl rfl (ti_in rfl (by omega) (by omega)) dX12_laySpan_378 (fun H locs hP hD hS => ?_)
              have hP : va_P (dC, dI) vwCl (mW h ad cl (sJ σ 27 (vp_updL (σ.2.2.1 27) (Int32.toNatClampNeg x) y41))) H := hP
              have hD : va_D A (mW h ad cl (sJ σ 27 (vp_updL (σ.2.2.1 27) (Int32.toNatClampNeg x) y41))) := hD
              refine lv_aload_n hx hb dX12_laySpan_379 rfl (lv_at hl 6 rfl) ?_
              refine va_get (D := (dC, dI)) (ci := 12) (v := .ref (ad 28)) (C := RX12) (T := TX12) (N := 59) hx hb hts hin12 hown hK hP 0 rfl rfl 28 (by decide) (ho (.fieldLink RX12 73 "NearEnoughModel" "sMost" "[J") (List.mem_of_getElem? (i := 5) rfl)) (fun _ h9 => h9) rfl dX12_laySpan_380 ?_
              refine lv_iload_n hx hb dX12_laySpan_383 rfl (lv_at hl 7 rfl) ?_
              refine lv_iload_n hx hb dX12_laySpan_384 rfl (lv_at hl 5 rfl) ?_
              refine lv_iconst (v := 2) hx hb dX12_laySpan_385 (by decide) ?_
              refine lv_icmp_ne (tgt := 397) hx hb dX12_laySpan_386 (by decide) (fun c42 => ?_) (fun c42 => ?_)
              · have tc42 := (show z1.toInt ≠ 2 from ti_ne rfl (by decide) c42)
                refine lv_lload hx hb dX12_laySpan_397 (lv_at hl 2 rfl) ?_
                refine lv_lload hx hb dX12_laySpan_399 (lv_at hl 1 rfl) ?_
                refine lv_lsub hx hb dX12_laySpan_401 ?_
                refine lv_topl (fun y43 ey43 => ?_)
                refine va_last hx hb hK hP hD hS 20 19 rfl rfl (ti_in rfl (by omega) (by omega)) dX12_laySpan_402 (fun H locs hP hD hS => ?_)
                have hP : va_P (dC, dI) vwCl (mW h ad cl (sJ (sJ σ 27 (vp_updL (σ.2.2.1 27) (Int32.toNatClampNeg x) y41)) 28 (vp_updL (σ.2.2.1 28) (Int32.toNatClampNeg x) y43))) H := hP
                have hD : va_D A (mW h ad cl (sJ (sJ σ 27 (vp_updL (σ.2.2.1 27) (Int32.toNatClampNeg x) y41)) 28 (vp_updL (σ.2.2.1 28) (Int32.toNatClampNeg x) y43))) := hD
                rw [hQ]
                exact W.vret hx hb hr (fun t ht hW => ⟨⟨(sJ (sJ σ 27 (vp_updL (σ.2.2.1 27) (Int32.toNatClampNeg x) y41)) 28 (vp_updL (σ.2.2.1 28) (Int32.toNatClampNeg x) y43)), rfl, ⟨(Inv.sJ (Inv.sJ hI)), (eqx.sJ (eqx.sJ eqx.rf (by decide)) (by decide))⟩, wEn_of hP (hK.sub [] rfl) hD ht hW⟩, hS.F ht⟩) hS.2.2 dX12_laySpan_403
              · have tc42 := (show z1.toInt = 2 from ti_eq rfl (by decide) c42)
                refine lv_lload hx hb dX12_laySpan_389 (lv_at hl 2 rfl) ?_
                refine lv_lload hx hb dX12_laySpan_391 (lv_at hl 0 rfl) ?_
                refine lv_ladd hx hb dX12_laySpan_393 ?_
                refine lv_topl (fun y44 ey44 => ?_)
                refine lv_goto (tgt := 402) hx hb dX12_laySpan_394 (by decide) ?_
                refine va_last hx hb hK hP hD hS 20 19 rfl rfl (ti_in rfl (by omega) (by omega)) dX12_laySpan_402 (fun H locs hP hD hS => ?_)
                have hP : va_P (dC, dI) vwCl (mW h ad cl (sJ (sJ σ 27 (vp_updL (σ.2.2.1 27) (Int32.toNatClampNeg x) y41)) 28 (vp_updL (σ.2.2.1 28) (Int32.toNatClampNeg x) y44))) H := hP
                have hD : va_D A (mW h ad cl (sJ (sJ σ 27 (vp_updL (σ.2.2.1 27) (Int32.toNatClampNeg x) y41)) 28 (vp_updL (σ.2.2.1 28) (Int32.toNatClampNeg x) y44))) := hD
                rw [hQ]
                exact W.vret hx hb hr (fun t ht hW => ⟨⟨(sJ (sJ σ 27 (vp_updL (σ.2.2.1 27) (Int32.toNatClampNeg x) y41)) 28 (vp_updL (σ.2.2.1 28) (Int32.toNatClampNeg x) y44)), rfl, ⟨(Inv.sJ (Inv.sJ hI)), (eqx.sJ (eqx.sJ eqx.rf (by decide)) (by decide))⟩, wEn_of hP (hK.sub [] rfl) hD ht hW⟩, hS.F ht⟩) hS.2.2 dX12_laySpan_403
            · have tc40 := (show z1.toInt = 2 from ti_eq rfl (by decide) c40)
              refine lv_lload hx hb dX12_laySpan_365 (lv_at hl 3 rfl) ?_
              refine lv_lload hx hb dX12_laySpan_367 (lv_at hl 1 rfl) ?_
              refine lv_ladd hx hb dX12_laySpan_369 ?_
              refine lv_topl (fun y45 ey45 => ?_)
              refine lv_goto (tgt := 378) hx hb dX12_laySpan_370 (by decide) ?_
              refine va_last hx hb hK hP hD hS 19 18 rfl rfl (ti_in rfl (by omega) (by omega)) dX12_laySpan_378 (fun H locs hP hD hS => ?_)
              have hP : va_P (dC, dI) vwCl (mW h ad cl (sJ σ 27 (vp_updL (σ.2.2.1 27) (Int32.toNatClampNeg x) y45))) H := hP
              have hD : va_D A (mW h ad cl (sJ σ 27 (vp_updL (σ.2.2.1 27) (Int32.toNatClampNeg x) y45))) := hD
              refine lv_aload_n hx hb dX12_laySpan_379 rfl (lv_at hl 6 rfl) ?_
              refine va_get (D := (dC, dI)) (ci := 12) (v := .ref (ad 28)) (C := RX12) (T := TX12) (N := 59) hx hb hts hin12 hown hK hP 0 rfl rfl 28 (by decide) (ho (.fieldLink RX12 73 "NearEnoughModel" "sMost" "[J") (List.mem_of_getElem? (i := 5) rfl)) (fun _ h9 => h9) rfl dX12_laySpan_380 ?_
              refine lv_iload_n hx hb dX12_laySpan_383 rfl (lv_at hl 7 rfl) ?_
              refine lv_iload_n hx hb dX12_laySpan_384 rfl (lv_at hl 5 rfl) ?_
              refine lv_iconst (v := 2) hx hb dX12_laySpan_385 (by decide) ?_
              refine lv_icmp_ne (tgt := 397) hx hb dX12_laySpan_386 (by decide) (fun c46 => ?_) (fun c46 => ?_)
              · have tc46 := (show z1.toInt ≠ 2 from ti_ne rfl (by decide) c46)
                refine lv_lload hx hb dX12_laySpan_397 (lv_at hl 2 rfl) ?_
                refine lv_lload hx hb dX12_laySpan_399 (lv_at hl 1 rfl) ?_
                refine lv_lsub hx hb dX12_laySpan_401 ?_
                refine lv_topl (fun y47 ey47 => ?_)
                refine va_last hx hb hK hP hD hS 20 19 rfl rfl (ti_in rfl (by omega) (by omega)) dX12_laySpan_402 (fun H locs hP hD hS => ?_)
                have hP : va_P (dC, dI) vwCl (mW h ad cl (sJ (sJ σ 27 (vp_updL (σ.2.2.1 27) (Int32.toNatClampNeg x) y45)) 28 (vp_updL (σ.2.2.1 28) (Int32.toNatClampNeg x) y47))) H := hP
                have hD : va_D A (mW h ad cl (sJ (sJ σ 27 (vp_updL (σ.2.2.1 27) (Int32.toNatClampNeg x) y45)) 28 (vp_updL (σ.2.2.1 28) (Int32.toNatClampNeg x) y47))) := hD
                rw [hQ]
                exact W.vret hx hb hr (fun t ht hW => ⟨⟨(sJ (sJ σ 27 (vp_updL (σ.2.2.1 27) (Int32.toNatClampNeg x) y45)) 28 (vp_updL (σ.2.2.1 28) (Int32.toNatClampNeg x) y47)), rfl, ⟨(Inv.sJ (Inv.sJ hI)), (eqx.sJ (eqx.sJ eqx.rf (by decide)) (by decide))⟩, wEn_of hP (hK.sub [] rfl) hD ht hW⟩, hS.F ht⟩) hS.2.2 dX12_laySpan_403
              · have tc46 := (show z1.toInt = 2 from ti_eq rfl (by decide) c46)
                refine lv_lload hx hb dX12_laySpan_389 (lv_at hl 2 rfl) ?_
                refine lv_lload hx hb dX12_laySpan_391 (lv_at hl 0 rfl) ?_
                refine lv_ladd hx hb dX12_laySpan_393 ?_
                refine lv_topl (fun y48 ey48 => ?_)
                refine lv_goto (tgt := 402) hx hb dX12_laySpan_394 (by decide) ?_
                refine va_last hx hb hK hP hD hS 20 19 rfl rfl (ti_in rfl (by omega) (by omega)) dX12_laySpan_402 (fun H locs hP hD hS => ?_)
                have hP : va_P (dC, dI) vwCl (mW h ad cl (sJ (sJ σ 27 (vp_updL (σ.2.2.1 27) (Int32.toNatClampNeg x) y45)) 28 (vp_updL (σ.2.2.1 28) (Int32.toNatClampNeg x) y48))) H := hP
                have hD : va_D A (mW h ad cl (sJ (sJ σ 27 (vp_updL (σ.2.2.1 27) (Int32.toNatClampNeg x) y45)) 28 (vp_updL (σ.2.2.1 28) (Int32.toNatClampNeg x) y48))) := hD
                rw [hQ]
                exact W.vret hx hb hr (fun t ht hW => ⟨⟨(sJ (sJ σ 27 (vp_updL (σ.2.2.1 27) (Int32.toNatClampNeg x) y45)) 28 (vp_updL (σ.2.2.1 28) (Int32.toNatClampNeg x) y48)), rfl, ⟨(Inv.sJ (Inv.sJ hI)), (eqx.sJ (eqx.sJ eqx.rf (by decide)) (by decide))⟩, wEn_of hP (hK.sub [] rfl) hD ht hW⟩, hS.F ht⟩) hS.2.2 dX12_laySpan_403
          · have tc39 := (show z1.toInt = 4 from ti_eq rfl (by decide) c39)
            refine lv_aload_n hx hb dX12_laySpan_284 rfl (lv_at hl 6 rfl) ?_
            refine va_get (D := (dC, dI)) (ci := 12) (v := .ref (ad 27)) (C := RX12) (T := TX12) (N := 59) hx hb hts hin12 hown hK hP 0 rfl rfl 27 (by decide) (ho (.fieldLink RX12 70 "NearEnoughModel" "sLeast" "[J") (List.mem_of_getElem? (i := 3) rfl)) (fun _ h9 => h9) rfl dX12_laySpan_285 ?_
            refine lv_iload_n hx hb dX12_laySpan_288 rfl (lv_at hl 7 rfl) ?_
            refine lv_lload hx hb dX12_laySpan_289 (lv_at hl 3 rfl) ?_
            refine lv_lload hx hb dX12_laySpan_291 (lv_at hl 1 rfl) ?_
            refine lv_lmul hx hb dX12_laySpan_293 ?_
            refine lv_topl (fun y49 ey49 => ?_)
            refine lv_lload hx hb dX12_laySpan_294 (lv_at hl 3 rfl) ?_
            refine lv_lload hx hb dX12_laySpan_296 (lv_at hl 0 rfl) ?_
            refine lv_lmul hx hb dX12_laySpan_298 ?_
            refine lv_topl (fun y50 ey50 => ?_)
            refine zs_l (va_runS (As := [.long y49, .long y50]) (rest := [.int x, .ref (ad 27)]) ⟨hx, hb, hml, hown, hts⟩ (n_lesser l dC dI y49 y50  H.size) (va_cwS 2 hts gd_n_laySpan_314_n_lesser rfl rfl rfl (by decide +kernel) ⟨Nat.le_of_ble_eq_true rfl, Nat.le_of_ble_eq_true rfl⟩) (preS (A := A) empP (hK.sub (tys' := []) [] rfl) empD hE) rfl rfl hl.1 rfl (lv_room (Nat.le_of_ble_eq_true rfl)) dX12_laySpan_299 ⟨Nat.le_of_ble_eq_true rfl, Nat.le_of_ble_eq_true rfl⟩) hP hD hS hA (fun y51 H locs hq hP hD hS => ?_)
            obtain f52 := hq
            refine W.widen (k := 0) (n := 0) (Nat.le_of_ble_eq_true rfl) (Nat.le_of_ble_eq_true rfl) ?_
            refine lv_lload hx hb dX12_laySpan_302 (lv_at hl 2 rfl) ?_
            refine lv_lload hx hb dX12_laySpan_304 (lv_at hl 1 rfl) ?_
            refine lv_lmul hx hb dX12_laySpan_306 ?_
            refine lv_topl (fun y53 ey53 => ?_)
            refine lv_lload hx hb dX12_laySpan_307 (lv_at hl 2 rfl) ?_
            refine lv_lload hx hb dX12_laySpan_309 (lv_at hl 0 rfl) ?_
            refine lv_lmul hx hb dX12_laySpan_311 ?_
            refine lv_topl (fun y54 ey54 => ?_)
            refine zs_l (va_runS (As := [.long y53, .long y54]) (rest := [.long y51, .int x, .ref (ad 27)]) ⟨hx, hb, hml, hown, hts⟩ (n_lesser l dC dI y53 y54  H.size) (va_cwS 2 hts gd_n_laySpan_314_n_lesser rfl rfl rfl (by decide +kernel) ⟨Nat.le_of_ble_eq_true rfl, Nat.le_of_ble_eq_true rfl⟩) (preS (A := A) empP (hK.sub (tys' := []) [] rfl) empD hE) rfl rfl hl.1 rfl (lv_room (Nat.le_of_ble_eq_true rfl)) dX12_laySpan_312 ⟨Nat.le_of_ble_eq_true rfl, Nat.le_of_ble_eq_true rfl⟩) hP hD hS hA (fun y55 H locs hq hP hD hS => ?_)
            obtain f56 := hq
            refine W.widen (k := 0) (n := 0) (Nat.le_of_ble_eq_true rfl) (Nat.le_of_ble_eq_true rfl) ?_
            refine zs_l (va_runS (As := [.long y51, .long y55]) (rest := [.int x, .ref (ad 27)]) ⟨hx, hb, hml, hown, hts⟩ (n_lesser l dC dI y51 y55  H.size) (va_cwS 2 hts gd_n_laySpan_314_n_lesser rfl rfl rfl (by decide +kernel) ⟨Nat.le_of_ble_eq_true rfl, Nat.le_of_ble_eq_true rfl⟩) (preS (A := A) empP (hK.sub (tys' := []) [] rfl) empD hE) rfl rfl hl.1 rfl (lv_room (Nat.le_of_ble_eq_true rfl)) dX12_laySpan_315 ⟨Nat.le_of_ble_eq_true rfl, Nat.le_of_ble_eq_true rfl⟩) hP hD hS hA (fun y57 H locs hq hP hD hS => ?_)
            obtain f58 := hq
            refine W.widen (k := 0) (n := 0) (Nat.le_of_ble_eq_true rfl) (Nat.le_of_ble_eq_true rfl) ?_
            refine va_last hx hb hK hP hD hS 19 18 rfl rfl (ti_in rfl (by omega) (by omega)) dX12_laySpan_318 (fun H locs hP hD hS => ?_)
            have hP : va_P (dC, dI) vwCl (mW h ad cl (sJ σ 27 (vp_updL (σ.2.2.1 27) (Int32.toNatClampNeg x) y57))) H := hP
            have hD : va_D A (mW h ad cl (sJ σ 27 (vp_updL (σ.2.2.1 27) (Int32.toNatClampNeg x) y57))) := hD
            refine lv_aload_n hx hb dX12_laySpan_319 rfl (lv_at hl 6 rfl) ?_
            refine va_get (D := (dC, dI)) (ci := 12) (v := .ref (ad 28)) (C := RX12) (T := TX12) (N := 59) hx hb hts hin12 hown hK hP 0 rfl rfl 28 (by decide) (ho (.fieldLink RX12 73 "NearEnoughModel" "sMost" "[J") (List.mem_of_getElem? (i := 5) rfl)) (fun _ h9 => h9) rfl dX12_laySpan_320 ?_
            refine lv_iload_n hx hb dX12_laySpan_323 rfl (lv_at hl 7 rfl) ?_
            refine lv_lload hx hb dX12_laySpan_324 (lv_at hl 3 rfl) ?_
            refine lv_lload hx hb dX12_laySpan_326 (lv_at hl 1 rfl) ?_
            refine lv_lmul hx hb dX12_laySpan_328 ?_
            refine lv_topl (fun y59 ey59 => ?_)
            refine lv_lload hx hb dX12_laySpan_329 (lv_at hl 3 rfl) ?_
            refine lv_lload hx hb dX12_laySpan_331 (lv_at hl 0 rfl) ?_
            refine lv_lmul hx hb dX12_laySpan_333 ?_
            refine lv_topl (fun y60 ey60 => ?_)
            refine zs_l (va_runS (As := [.long y59, .long y60]) (rest := [.int x, .ref (ad 28)]) ⟨hx, hb, hml, hown, hts⟩ (n_greater l dC dI y59 y60  H.size) (va_cwS 2 hts gd_n_laySpan_318_n_greater rfl rfl rfl (by decide +kernel) ⟨Nat.le_of_ble_eq_true rfl, Nat.le_of_ble_eq_true rfl⟩) (preS (A := A) empP (hK.sub (tys' := []) [] rfl) empD hE) rfl rfl hl.1 rfl (lv_room (Nat.le_of_ble_eq_true rfl)) dX12_laySpan_334 ⟨Nat.le_of_ble_eq_true rfl, Nat.le_of_ble_eq_true rfl⟩) hP hD hS hA (fun y61 H locs hq hP hD hS => ?_)
            obtain f62 := hq
            refine W.widen (k := 0) (n := 0) (Nat.le_of_ble_eq_true rfl) (Nat.le_of_ble_eq_true rfl) ?_
            refine lv_lload hx hb dX12_laySpan_337 (lv_at hl 2 rfl) ?_
            refine lv_lload hx hb dX12_laySpan_339 (lv_at hl 1 rfl) ?_
            refine lv_lmul hx hb dX12_laySpan_341 ?_
            refine lv_topl (fun y63 ey63 => ?_)
            refine lv_lload hx hb dX12_laySpan_342 (lv_at hl 2 rfl) ?_
            refine lv_lload hx hb dX12_laySpan_344 (lv_at hl 0 rfl) ?_
            refine lv_lmul hx hb dX12_laySpan_346 ?_
            refine lv_topl (fun y64 ey64 => ?_)
            refine zs_l (va_runS (As := [.long y63, .long y64]) (rest := [.long y61, .int x, .ref (ad 28)]) ⟨hx, hb, hml, hown, hts⟩ (n_greater l dC dI y63 y64  H.size) (va_cwS 2 hts gd_n_laySpan_318_n_greater rfl rfl rfl (by decide +kernel) ⟨Nat.le_of_ble_eq_true rfl, Nat.le_of_ble_eq_true rfl⟩) (preS (A := A) empP (hK.sub (tys' := []) [] rfl) empD hE) rfl rfl hl.1 rfl (lv_room (Nat.le_of_ble_eq_true rfl)) dX12_laySpan_347 ⟨Nat.le_of_ble_eq_true rfl, Nat.le_of_ble_eq_true rfl⟩) hP hD hS hA (fun y65 H locs hq hP hD hS => ?_)
            obtain f66 := hq
            refine W.widen (k := 0) (n := 0) (Nat.le_of_ble_eq_true rfl) (Nat.le_of_ble_eq_true rfl) ?_
            refine zs_l (va_runS (As := [.long y61, .long y65]) (rest := [.int x, .ref (ad 28)]) ⟨hx, hb, hml, hown, hts⟩ (n_greater l dC dI y61 y65  H.size) (va_cwS 2 hts gd_n_laySpan_318_n_greater rfl rfl rfl (by decide +kernel) ⟨Nat.le_of_ble_eq_true rfl, Nat.le_of_ble_eq_true rfl⟩) (preS (A := A) empP (hK.sub (tys' := []) [] rfl) empD hE) rfl rfl hl.1 rfl (lv_room (Nat.le_of_ble_eq_true rfl)) dX12_laySpan_350 ⟨Nat.le_of_ble_eq_true rfl, Nat.le_of_ble_eq_true rfl⟩) hP hD hS hA (fun y67 H locs hq hP hD hS => ?_)
            obtain f68 := hq
            refine W.widen (k := 0) (n := 0) (Nat.le_of_ble_eq_true rfl) (Nat.le_of_ble_eq_true rfl) ?_
            refine va_last hx hb hK hP hD hS 20 19 rfl rfl (ti_in rfl (by omega) (by omega)) dX12_laySpan_353 (fun H locs hP hD hS => ?_)
            have hP : va_P (dC, dI) vwCl (mW h ad cl (sJ (sJ σ 27 (vp_updL (σ.2.2.1 27) (Int32.toNatClampNeg x) y57)) 28 (vp_updL (σ.2.2.1 28) (Int32.toNatClampNeg x) y67))) H := hP
            have hD : va_D A (mW h ad cl (sJ (sJ σ 27 (vp_updL (σ.2.2.1 27) (Int32.toNatClampNeg x) y57)) 28 (vp_updL (σ.2.2.1 28) (Int32.toNatClampNeg x) y67))) := hD
            rw [hQ]
            exact W.vret hx hb hr (fun t ht hW => ⟨⟨(sJ (sJ σ 27 (vp_updL (σ.2.2.1 27) (Int32.toNatClampNeg x) y57)) 28 (vp_updL (σ.2.2.1 28) (Int32.toNatClampNeg x) y67)), rfl, ⟨(Inv.sJ (Inv.sJ hI)), (eqx.sJ (eqx.sJ eqx.rf (by decide)) (by decide))⟩, wEn_of hP (hK.sub [] rfl) hD ht hW⟩, hS.F ht⟩) hS.2.2 dX12_laySpan_354
        · have tc38 := (show z1.toInt = 7 from ti_eq rfl (by decide) c38)
          refine lv_aload_n hx hb dX12_laySpan_252 rfl (lv_at hl 6 rfl) ?_
          refine va_get (D := (dC, dI)) (ci := 12) (v := .ref (ad 27)) (C := RX12) (T := TX12) (N := 59) hx hb hts hin12 hown hK hP 0 rfl rfl 27 (by decide) (ho (.fieldLink RX12 70 "NearEnoughModel" "sLeast" "[J") (List.mem_of_getElem? (i := 3) rfl)) (fun _ h9 => h9) rfl dX12_laySpan_253 ?_
          refine lv_iload_n hx hb dX12_laySpan_256 rfl (lv_at hl 7 rfl) ?_
          refine lv_lload hx hb dX12_laySpan_257 (lv_at hl 3 rfl) ?_
          refine lv_lload hx hb dX12_laySpan_259 (lv_at hl 1 rfl) ?_
          refine zs_l (va_runS (As := [.long y25, .long y33]) (rest := [.int x, .ref (ad 27)]) ⟨hx, hb, hml, hown, hts⟩ (n_lesser l dC dI y25 y33  H.size) (va_cwS 2 hts gd_n_laySpan_314_n_lesser rfl rfl rfl (by decide +kernel) ⟨Nat.le_of_ble_eq_true rfl, Nat.le_of_ble_eq_true rfl⟩) (preS (A := A) empP (hK.sub (tys' := []) [] rfl) empD hE) rfl rfl hl.1 rfl (lv_room (Nat.le_of_ble_eq_true rfl)) dX12_laySpan_261 ⟨Nat.le_of_ble_eq_true rfl, Nat.le_of_ble_eq_true rfl⟩) hP hD hS hA (fun y69 H locs hq hP hD hS => ?_)
          obtain f70 := hq
          refine W.widen (k := 0) (n := 0) (Nat.le_of_ble_eq_true rfl) (Nat.le_of_ble_eq_true rfl) ?_
          refine va_last hx hb hK hP hD hS 19 18 rfl rfl (ti_in rfl (by omega) (by omega)) dX12_laySpan_264 (fun H locs hP hD hS => ?_)
          have hP : va_P (dC, dI) vwCl (mW h ad cl (sJ σ 27 (vp_updL (σ.2.2.1 27) (Int32.toNatClampNeg x) y69))) H := hP
          have hD : va_D A (mW h ad cl (sJ σ 27 (vp_updL (σ.2.2.1 27) (Int32.toNatClampNeg x) y69))) := hD
          refine lv_aload_n hx hb dX12_laySpan_265 rfl (lv_at hl 6 rfl) ?_
          refine va_get (D := (dC, dI)) (ci := 12) (v := .ref (ad 28)) (C := RX12) (T := TX12) (N := 59) hx hb hts hin12 hown hK hP 0 rfl rfl 28 (by decide) (ho (.fieldLink RX12 73 "NearEnoughModel" "sMost" "[J") (List.mem_of_getElem? (i := 5) rfl)) (fun _ h9 => h9) rfl dX12_laySpan_266 ?_
          refine lv_iload_n hx hb dX12_laySpan_269 rfl (lv_at hl 7 rfl) ?_
          refine lv_lload hx hb dX12_laySpan_270 (lv_at hl 2 rfl) ?_
          refine lv_lload hx hb dX12_laySpan_272 (lv_at hl 0 rfl) ?_
          refine zs_l (va_runS (As := [.long y29, .long y37]) (rest := [.int x, .ref (ad 28)]) ⟨hx, hb, hml, hown, hts⟩ (n_greater l dC dI y29 y37  H.size) (va_cwS 2 hts gd_n_laySpan_318_n_greater rfl rfl rfl (by decide +kernel) ⟨Nat.le_of_ble_eq_true rfl, Nat.le_of_ble_eq_true rfl⟩) (preS (A := A) empP (hK.sub (tys' := []) [] rfl) empD hE) rfl rfl hl.1 rfl (lv_room (Nat.le_of_ble_eq_true rfl)) dX12_laySpan_274 ⟨Nat.le_of_ble_eq_true rfl, Nat.le_of_ble_eq_true rfl⟩) hP hD hS hA (fun y71 H locs hq hP hD hS => ?_)
          obtain f72 := hq
          refine W.widen (k := 0) (n := 0) (Nat.le_of_ble_eq_true rfl) (Nat.le_of_ble_eq_true rfl) ?_
          refine va_last hx hb hK hP hD hS 20 19 rfl rfl (ti_in rfl (by omega) (by omega)) dX12_laySpan_277 (fun H locs hP hD hS => ?_)
          have hP : va_P (dC, dI) vwCl (mW h ad cl (sJ (sJ σ 27 (vp_updL (σ.2.2.1 27) (Int32.toNatClampNeg x) y69)) 28 (vp_updL (σ.2.2.1 28) (Int32.toNatClampNeg x) y71))) H := hP
          have hD : va_D A (mW h ad cl (sJ (sJ σ 27 (vp_updL (σ.2.2.1 27) (Int32.toNatClampNeg x) y69)) 28 (vp_updL (σ.2.2.1 28) (Int32.toNatClampNeg x) y71))) := hD
          rw [hQ]
          exact W.vret hx hb hr (fun t ht hW => ⟨⟨(sJ (sJ σ 27 (vp_updL (σ.2.2.1 27) (Int32.toNatClampNeg x) y69)) 28 (vp_updL (σ.2.2.1 28) (Int32.toNatClampNeg x) y71)), rfl, ⟨(Inv.sJ (Inv.sJ hI)), (eqx.sJ (eqx.sJ eqx.rf (by decide)) (by decide))⟩, wEn_of hP (hK.sub [] rfl) hD ht hW⟩, hS.F ht⟩) hS.2.2 dX12_laySpan_278
      · have tc30 := (show z1.toInt = 5 from ti_eq rfl (by decide) c30)
        refine lv_aload_n hx hb dX12_laySpan_125 rfl (lv_at hl 4 rfl) ?_
        refine va_get (D := (dC, dI)) (ci := 12) (v := .ref (ad 27)) (C := RX12) (T := TX12) (N := 59) hx hb hts hin12 hown hK hP 0 rfl rfl 27 (by decide) (ho (.fieldLink RX12 70 "NearEnoughModel" "sLeast" "[J") (List.mem_of_getElem? (i := 3) rfl)) (fun _ h9 => h9) rfl dX12_laySpan_126 ?_
        refine lv_iload_n hx hb dX12_laySpan_129 rfl (lv_at hl 5 rfl) ?_
        refine lv_lload hx hb dX12_laySpan_130 (lv_at hl 1 rfl) ?_
        refine lv_aload_n hx hb dX12_laySpan_132 rfl (lv_at hl 4 rfl) ?_
        refine va_get (D := (dC, dI)) (ci := 12) (v := .ref (ad 19)) (C := RX12) (T := TX12) (N := 59) hx hb hts hin12 hown hK hP 0 rfl rfl 19 (by decide) (ho (.fieldLink RX12 45 "NearEnoughModel" "sB" "[I") (List.mem_of_getElem? (i := 8) rfl)) (fun _ h9 => h9) rfl dX12_laySpan_133 ?_
        refine lv_iload_n hx hb dX12_laySpan_136 rfl (lv_at hl 5 rfl) ?_
        refine va_iald hx hb hK hP 11 10 rfl rfl (ti_in rfl (by omega) (by omega)) dX12_laySpan_137 ?_
        refine lv_topi (fun z73 ez73 => ?_)
        have gz73 : z73.toInt = ((σ.2.1 19) (Int32.toNatClampNeg x)).toInt := congrArg Int32.toInt (ez73.trans (congrFun rfl (Int32.toNatClampNeg x)))
        have bz73 : (-99) ≤ z73.toInt ∧ z73.toInt ≤ 99 := by rw [ez73]; exact (hI.2 19) _ (by have := ti_cl (x := x) rfl (by omega); show _ < 24; omega)
        refine lv_i2l hx hb dX12_laySpan_138 rfl ?_
        refine lv_topl (fun y74 ey74 => ?_)
        refine lv_lmul hx hb dX12_laySpan_139 ?_
        refine lv_topl (fun y75 ey75 => ?_)
        refine lv_aload_n hx hb dX12_laySpan_140 rfl (lv_at hl 4 rfl) ?_
        refine va_get (D := (dC, dI)) (ci := 12) (v := .ref (ad 20)) (C := RX12) (T := TX12) (N := 59) hx hb hts hin12 hown hK hP 0 rfl rfl 20 (by decide) (ho (.fieldLink RX12 48 "NearEnoughModel" "sC" "[I") (List.mem_of_getElem? (i := 9) rfl)) (fun _ h9 => h9) rfl dX12_laySpan_141 ?_
        refine lv_iload_n hx hb dX12_laySpan_144 rfl (lv_at hl 5 rfl) ?_
        refine va_iald hx hb hK hP 12 11 rfl rfl (ti_in rfl (by omega) (by omega)) dX12_laySpan_145 ?_
        refine lv_topi (fun z76 ez76 => ?_)
        have gz76 : z76.toInt = ((σ.2.1 20) (Int32.toNatClampNeg x)).toInt := congrArg Int32.toInt (ez76.trans (congrFun rfl (Int32.toNatClampNeg x)))
        have bz76 : (-1) ≤ z76.toInt ∧ z76.toInt ≤ 99 := by rw [ez76]; exact (hI.2 20) _ (by have := ti_cl (x := x) rfl (by omega); show _ < 24; omega)
        refine lv_i2l hx hb dX12_laySpan_146 rfl ?_
        refine lv_topl (fun y77 ey77 => ?_)
        refine lv_ldiv hx hb dX12_laySpan_147 (i2l_ne ey77 (by omega)) ?_
        refine lv_topl (fun y78 ey78 => ?_)
        refine lv_lload hx hb dX12_laySpan_148 (lv_at hl 0 rfl) ?_
        refine lv_aload_n hx hb dX12_laySpan_150 rfl (lv_at hl 4 rfl) ?_
        refine va_get (D := (dC, dI)) (ci := 12) (v := .ref (ad 19)) (C := RX12) (T := TX12) (N := 59) hx hb hts hin12 hown hK hP 0 rfl rfl 19 (by decide) (ho (.fieldLink RX12 45 "NearEnoughModel" "sB" "[I") (List.mem_of_getElem? (i := 8) rfl)) (fun _ h9 => h9) rfl dX12_laySpan_151 ?_
        refine lv_iload_n hx hb dX12_laySpan_154 rfl (lv_at hl 5 rfl) ?_
        refine va_iald hx hb hK hP 11 10 rfl rfl (ti_in rfl (by omega) (by omega)) dX12_laySpan_155 ?_
        refine lv_topi (fun z79 ez79 => ?_)
        have qq80 : z79.toInt = z73.toInt := congrArg Int32.toInt ((ez79.trans (congrFun rfl (Int32.toNatClampNeg x))).trans ((ez73.trans (congrFun rfl (Int32.toNatClampNeg x)))).symm)
        have gz79 : z79.toInt = ((σ.2.1 19) (Int32.toNatClampNeg x)).toInt := congrArg Int32.toInt (ez79.trans (congrFun rfl (Int32.toNatClampNeg x)))
        have bz79 : (-99) ≤ z79.toInt ∧ z79.toInt ≤ 99 := by rw [ez79]; exact (hI.2 19) _ (by have := ti_cl (x := x) rfl (by omega); show _ < 24; omega)
        refine lv_i2l hx hb dX12_laySpan_156 rfl ?_
        refine lv_topl (fun y81 ey81 => ?_)
        refine lv_lmul hx hb dX12_laySpan_157 ?_
        refine lv_topl (fun y82 ey82 => ?_)
        refine lv_aload_n hx hb dX12_laySpan_158 rfl (lv_at hl 4 rfl) ?_
        refine va_get (D := (dC, dI)) (ci := 12) (v := .ref (ad 20)) (C := RX12) (T := TX12) (N := 59) hx hb hts hin12 hown hK hP 0 rfl rfl 20 (by decide) (ho (.fieldLink RX12 48 "NearEnoughModel" "sC" "[I") (List.mem_of_getElem? (i := 9) rfl)) (fun _ h9 => h9) rfl dX12_laySpan_159 ?_
        refine lv_iload_n hx hb dX12_laySpan_162 rfl (lv_at hl 5 rfl) ?_
        refine va_iald hx hb hK hP 12 11 rfl rfl (ti_in rfl (by omega) (by omega)) dX12_laySpan_163 ?_
        refine lv_topi (fun z83 ez83 => ?_)
        have qq84 : z83.toInt = z76.toInt := congrArg Int32.toInt ((ez83.trans (congrFun rfl (Int32.toNatClampNeg x))).trans ((ez76.trans (congrFun rfl (Int32.toNatClampNeg x)))).symm)
        have gz83 : z83.toInt = ((σ.2.1 20) (Int32.toNatClampNeg x)).toInt := congrArg Int32.toInt (ez83.trans (congrFun rfl (Int32.toNatClampNeg x)))
        have bz83 : (-1) ≤ z83.toInt ∧ z83.toInt ≤ 99 := by rw [ez83]; exact (hI.2 20) _ (by have := ti_cl (x := x) rfl (by omega); show _ < 24; omega)
        refine lv_i2l hx hb dX12_laySpan_164 rfl ?_
        refine lv_topl (fun y85 ey85 => ?_)
        refine lv_ldiv hx hb dX12_laySpan_165 (i2l_ne ey85 (by omega)) ?_
        refine lv_topl (fun y86 ey86 => ?_)
        refine zs_l (va_runS (As := [.long y78, .long y86]) (rest := [.int x, .ref (ad 27)]) ⟨hx, hb, hml, hown, hts⟩ (n_lesser l dC dI y78 y86  H.size) (va_cwS 2 hts gd_n_laySpan_314_n_lesser rfl rfl rfl (by decide +kernel) ⟨Nat.le_of_ble_eq_true rfl, Nat.le_of_ble_eq_true rfl⟩) (preS (A := A) empP (hK.sub (tys' := []) [] rfl) empD hE) rfl rfl hl.1 rfl (lv_room (Nat.le_of_ble_eq_true rfl)) dX12_laySpan_166 ⟨Nat.le_of_ble_eq_true rfl, Nat.le_of_ble_eq_true rfl⟩) hP hD hS hA (fun y87 H locs hq hP hD hS => ?_)
        obtain f88 := hq
        refine W.widen (k := 0) (n := 0) (Nat.le_of_ble_eq_true rfl) (Nat.le_of_ble_eq_true rfl) ?_
        refine va_last hx hb hK hP hD hS 19 18 rfl rfl (ti_in rfl (by omega) (by omega)) dX12_laySpan_169 (fun H locs hP hD hS => ?_)
        have hP : va_P (dC, dI) vwCl (mW h ad cl (sJ σ 27 (vp_updL (σ.2.2.1 27) (Int32.toNatClampNeg x) y87))) H := hP
        have hD : va_D A (mW h ad cl (sJ σ 27 (vp_updL (σ.2.2.1 27) (Int32.toNatClampNeg x) y87))) := hD
        refine lv_aload_n hx hb dX12_laySpan_170 rfl (lv_at hl 4 rfl) ?_
        refine va_get (D := (dC, dI)) (ci := 12) (v := .ref (ad 28)) (C := RX12) (T := TX12) (N := 59) hx hb hts hin12 hown hK hP 0 rfl rfl 28 (by decide) (ho (.fieldLink RX12 73 "NearEnoughModel" "sMost" "[J") (List.mem_of_getElem? (i := 5) rfl)) (fun _ h9 => h9) rfl dX12_laySpan_171 ?_
        refine lv_iload_n hx hb dX12_laySpan_174 rfl (lv_at hl 5 rfl) ?_
        refine lv_lload hx hb dX12_laySpan_175 (lv_at hl 1 rfl) ?_
        refine lv_aload_n hx hb dX12_laySpan_177 rfl (lv_at hl 4 rfl) ?_
        refine va_get (D := (dC, dI)) (ci := 12) (v := .ref (ad 19)) (C := RX12) (T := TX12) (N := 59) hx hb hts hin12 hown hK hP 0 rfl rfl 19 (by decide) (ho (.fieldLink RX12 45 "NearEnoughModel" "sB" "[I") (List.mem_of_getElem? (i := 8) rfl)) (fun _ h9 => h9) rfl dX12_laySpan_178 ?_
        refine lv_iload_n hx hb dX12_laySpan_181 rfl (lv_at hl 5 rfl) ?_
        refine va_iald hx hb hK hP 11 10 rfl rfl (ti_in rfl (by omega) (by omega)) dX12_laySpan_182 ?_
        refine lv_topi (fun z89 ez89 => ?_)
        have qq90 : z89.toInt = z73.toInt := congrArg Int32.toInt ((ez89.trans (congrFun tJ (Int32.toNatClampNeg x))).trans ((ez73.trans (congrFun rfl (Int32.toNatClampNeg x)))).symm)
        have gz89 : z89.toInt = ((σ.2.1 19) (Int32.toNatClampNeg x)).toInt := congrArg Int32.toInt (ez89.trans (congrFun tJ (Int32.toNatClampNeg x)))
        have bz89 : (-99) ≤ z89.toInt ∧ z89.toInt ≤ 99 := by rw [ez89]; exact (hI.2 19) _ (by have := ti_cl (x := x) rfl (by omega); show _ < 24; omega)
        refine lv_i2l hx hb dX12_laySpan_183 rfl ?_
        refine lv_topl (fun y91 ey91 => ?_)
        refine lv_lmul hx hb dX12_laySpan_184 ?_
        refine lv_topl (fun y92 ey92 => ?_)
        refine lv_aload_n hx hb dX12_laySpan_185 rfl (lv_at hl 4 rfl) ?_
        refine va_get (D := (dC, dI)) (ci := 12) (v := .ref (ad 20)) (C := RX12) (T := TX12) (N := 59) hx hb hts hin12 hown hK hP 0 rfl rfl 20 (by decide) (ho (.fieldLink RX12 48 "NearEnoughModel" "sC" "[I") (List.mem_of_getElem? (i := 9) rfl)) (fun _ h9 => h9) rfl dX12_laySpan_186 ?_
        refine lv_iload_n hx hb dX12_laySpan_189 rfl (lv_at hl 5 rfl) ?_
        refine va_iald hx hb hK hP 12 11 rfl rfl (ti_in rfl (by omega) (by omega)) dX12_laySpan_190 ?_
        refine lv_topi (fun z93 ez93 => ?_)
        have qq94 : z93.toInt = z76.toInt := congrArg Int32.toInt ((ez93.trans (congrFun tJ (Int32.toNatClampNeg x))).trans ((ez76.trans (congrFun rfl (Int32.toNatClampNeg x)))).symm)
        have gz93 : z93.toInt = ((σ.2.1 20) (Int32.toNatClampNeg x)).toInt := congrArg Int32.toInt (ez93.trans (congrFun tJ (Int32.toNatClampNeg x)))
        have bz93 : (-1) ≤ z93.toInt ∧ z93.toInt ≤ 99 := by rw [ez93]; exact (hI.2 20) _ (by have := ti_cl (x := x) rfl (by omega); show _ < 24; omega)
        refine lv_i2l hx hb dX12_laySpan_191 rfl ?_
        refine lv_topl (fun y95 ey95 => ?_)
        refine lv_ldiv hx hb dX12_laySpan_192 (i2l_ne ey95 (by omega)) ?_
        refine lv_topl (fun y96 ey96 => ?_)
        refine lv_lload hx hb dX12_laySpan_193 (lv_at hl 0 rfl) ?_
        refine lv_aload_n hx hb dX12_laySpan_195 rfl (lv_at hl 4 rfl) ?_
        refine va_get (D := (dC, dI)) (ci := 12) (v := .ref (ad 19)) (C := RX12) (T := TX12) (N := 59) hx hb hts hin12 hown hK hP 0 rfl rfl 19 (by decide) (ho (.fieldLink RX12 45 "NearEnoughModel" "sB" "[I") (List.mem_of_getElem? (i := 8) rfl)) (fun _ h9 => h9) rfl dX12_laySpan_196 ?_
        refine lv_iload_n hx hb dX12_laySpan_199 rfl (lv_at hl 5 rfl) ?_
        refine va_iald hx hb hK hP 11 10 rfl rfl (ti_in rfl (by omega) (by omega)) dX12_laySpan_200 ?_
        refine lv_topi (fun z97 ez97 => ?_)
        have qq98 : z97.toInt = z73.toInt := congrArg Int32.toInt ((ez97.trans (congrFun tJ (Int32.toNatClampNeg x))).trans ((ez73.trans (congrFun rfl (Int32.toNatClampNeg x)))).symm)
        have gz97 : z97.toInt = ((σ.2.1 19) (Int32.toNatClampNeg x)).toInt := congrArg Int32.toInt (ez97.trans (congrFun tJ (Int32.toNatClampNeg x)))
        have bz97 : (-99) ≤ z97.toInt ∧ z97.toInt ≤ 99 := by rw [ez97]; exact (hI.2 19) _ (by have := ti_cl (x := x) rfl (by omega); show _ < 24; omega)
        refine lv_i2l hx hb dX12_laySpan_201 rfl ?_
        refine lv_topl (fun y99 ey99 => ?_)
        refine lv_lmul hx hb dX12_laySpan_202 ?_
        refine lv_topl (fun y100 ey100 => ?_)
        refine lv_aload_n hx hb dX12_laySpan_203 rfl (lv_at hl 4 rfl) ?_
        refine va_get (D := (dC, dI)) (ci := 12) (v := .ref (ad 20)) (C := RX12) (T := TX12) (N := 59) hx hb hts hin12 hown hK hP 0 rfl rfl 20 (by decide) (ho (.fieldLink RX12 48 "NearEnoughModel" "sC" "[I") (List.mem_of_getElem? (i := 9) rfl)) (fun _ h9 => h9) rfl dX12_laySpan_204 ?_
        refine lv_iload_n hx hb dX12_laySpan_207 rfl (lv_at hl 5 rfl) ?_
        refine va_iald hx hb hK hP 12 11 rfl rfl (ti_in rfl (by omega) (by omega)) dX12_laySpan_208 ?_
        refine lv_topi (fun z101 ez101 => ?_)
        have qq102 : z101.toInt = z76.toInt := congrArg Int32.toInt ((ez101.trans (congrFun tJ (Int32.toNatClampNeg x))).trans ((ez76.trans (congrFun rfl (Int32.toNatClampNeg x)))).symm)
        have gz101 : z101.toInt = ((σ.2.1 20) (Int32.toNatClampNeg x)).toInt := congrArg Int32.toInt (ez101.trans (congrFun tJ (Int32.toNatClampNeg x)))
        have bz101 : (-1) ≤ z101.toInt ∧ z101.toInt ≤ 99 := by rw [ez101]; exact (hI.2 20) _ (by have := ti_cl (x := x) rfl (by omega); show _ < 24; omega)
        refine lv_i2l hx hb dX12_laySpan_209 rfl ?_
        refine lv_topl (fun y103 ey103 => ?_)
        refine lv_ldiv hx hb dX12_laySpan_210 (i2l_ne ey103 (by omega)) ?_
        refine lv_topl (fun y104 ey104 => ?_)
        refine zs_l (va_runS (As := [.long y96, .long y104]) (rest := [.int x, .ref (ad 28)]) ⟨hx, hb, hml, hown, hts⟩ (n_greater l dC dI y96 y104  H.size) (va_cwS 2 hts gd_n_laySpan_318_n_greater rfl rfl rfl (by decide +kernel) ⟨Nat.le_of_ble_eq_true rfl, Nat.le_of_ble_eq_true rfl⟩) (preS (A := A) empP (hK.sub (tys' := []) [] rfl) empD hE) rfl rfl hl.1 rfl (lv_room (Nat.le_of_ble_eq_true rfl)) dX12_laySpan_211 ⟨Nat.le_of_ble_eq_true rfl, Nat.le_of_ble_eq_true rfl⟩) hP hD hS hA (fun y105 H locs hq hP hD hS => ?_)
        obtain f106 := hq
        refine W.widen (k := 0) (n := 0) (Nat.le_of_ble_eq_true rfl) (Nat.le_of_ble_eq_true rfl) ?_
        refine va_last hx hb hK hP hD hS 20 19 rfl rfl (ti_in rfl (by omega) (by omega)) dX12_laySpan_214 (fun H locs hP hD hS => ?_)
        have hP : va_P (dC, dI) vwCl (mW h ad cl (sJ (sJ σ 27 (vp_updL (σ.2.2.1 27) (Int32.toNatClampNeg x) y87)) 28 (vp_updL (σ.2.2.1 28) (Int32.toNatClampNeg x) y105))) H := hP
        have hD : va_D A (mW h ad cl (sJ (sJ σ 27 (vp_updL (σ.2.2.1 27) (Int32.toNatClampNeg x) y87)) 28 (vp_updL (σ.2.2.1 28) (Int32.toNatClampNeg x) y105))) := hD
        rw [hQ]
        exact W.vret hx hb hr (fun t ht hW => ⟨⟨(sJ (sJ σ 27 (vp_updL (σ.2.2.1 27) (Int32.toNatClampNeg x) y87)) 28 (vp_updL (σ.2.2.1 28) (Int32.toNatClampNeg x) y105)), rfl, ⟨(Inv.sJ (Inv.sJ hI)), (eqx.sJ (eqx.sJ eqx.rf (by decide)) (by decide))⟩, wEn_of hP (hK.sub [] rfl) hD ht hW⟩, hS.F ht⟩) hS.2.2 dX12_laySpan_215
    · have tc21 := (show z1.toInt = 6 from ti_eq rfl (by decide) c21)
      refine lv_iconst (v := 2) hx hb dX12_laySpan_18 (by decide) ?_
      refine lv_aload_n hx hb dX12_laySpan_19 rfl (lv_at hl 1 rfl) ?_
      refine va_get (D := (dC, dI)) (ci := 12) (v := .int (σ.1 30)) (C := RX12) (T := TX12) (N := 59) hx hb hts hin12 hown hK hP 0 rfl rfl 30 (by decide) (ho (.fieldLink RX12 243 "NearEnoughModel" "rb" "I") (List.mem_of_getElem? (i := 1) rfl)) (fun _ h9 => h9) rfl dX12_laySpan_20 ?_
      have bσ_30 : 0 ≤ (σ.1 30).toInt ∧ (σ.1 30).toInt ≤ 1 := hI.1 30
      refine lv_imul hx hb dX12_laySpan_23 ?_
      refine lv_topi (fun z107 ez107 => ?_)
      have tz107 : z107.toInt = 2 * (σ.1 30).toInt := ti_mul ez107 (by decide) rfl (by omega) (by omega)
      refine lv_aload_n hx hb dX12_laySpan_24 rfl (lv_at hl 1 rfl) ?_
      refine va_get (D := (dC, dI)) (ci := 12) (v := .ref (ad 18)) (C := RX12) (T := TX12) (N := 59) hx hb hts hin12 hown hK hP 0 rfl rfl 18 (by decide) (ho (.fieldLink RX12 42 "NearEnoughModel" "sA" "[I") (List.mem_of_getElem? (i := 2) rfl)) (fun _ h9 => h9) rfl dX12_laySpan_25 ?_
      refine lv_iload_n hx hb dX12_laySpan_28 rfl (lv_at hl 2 rfl) ?_
      refine va_iald hx hb hK hP 10 9 rfl rfl (ti_in rfl (by omega) (by omega)) dX12_laySpan_29 ?_
      refine lv_topi (fun z108 ez108 => ?_)
      have gz108 : z108.toInt = ((σ.2.1 18) (Int32.toNatClampNeg x)).toInt := congrArg Int32.toInt (ez108.trans (congrFun rfl (Int32.toNatClampNeg x)))
      have bz108 : (-1) ≤ z108.toInt ∧ z108.toInt ≤ 11 := by rw [ez108]; exact (hI.2 18) _ (by have := ti_cl (x := x) rfl (by omega); show _ < 24; omega)
      refine lv_iadd hx hb dX12_laySpan_30 ?_
      refine lv_topi (fun z109 ez109 => ?_)
      have tz109 : z109.toInt = z107.toInt + z108.toInt := ti_add ez109 rfl rfl (by omega) (by omega)
      refine lv_istore_n (lv' := [(3, .int z109), (2, .int z1), (0, .ref h), (1, .int x)]) hx hb dX12_laySpan_31 rfl hl (by decide) rfl (fun ls hl => ?_)
      refine lv_iload_n hx hb dX12_laySpan_32 rfl (lv_at hl 1 rfl) ?_
      refine lv_if_ne (tgt := 46) hx hb dX12_laySpan_33 (by decide) (fun c110 => ?_) (fun c110 => ?_)
      · have tc110 := (show z1.toInt ≠ 0 from ti_ne rfl (by decide) c110)
        refine lv_lconst (v := 1) hx hb dX12_laySpan_46 (by decide) ?_
        refine lv_lstore (lv' := [(4, .long 1), (3, .int z109), (2, .int z1), (0, .ref h), (1, .int x)]) hx hb dX12_laySpan_47 hl (by decide) rfl (fun ls hl => ?_)
        refine lv_aload_n hx hb dX12_laySpan_49 rfl (lv_at hl 3 rfl) ?_
        refine va_get (D := (dC, dI)) (ci := 12) (v := .ref (ad 27)) (C := RX12) (T := TX12) (N := 59) hx hb hts hin12 hown hK hP 0 rfl rfl 27 (by decide) (ho (.fieldLink RX12 70 "NearEnoughModel" "sLeast" "[J") (List.mem_of_getElem? (i := 3) rfl)) (fun _ h9 => h9) rfl dX12_laySpan_50 ?_
        refine lv_iload_n hx hb dX12_laySpan_53 rfl (lv_at hl 4 rfl) ?_
        refine lv_lload hx hb dX12_laySpan_54 (lv_at hl 0 rfl) ?_
        refine lv_aload_n hx hb dX12_laySpan_56 rfl (lv_at hl 3 rfl) ?_
        refine va_get (D := (dC, dI)) (ci := 12) (v := .ref (ad 15)) (C := RX12) (T := TX12) (N := 59) hx hb hts hin12 hown hK hP 0 rfl rfl 15 (by decide) (ho (.fieldLink RX12 33 "NearEnoughModel" "rLeast" "[I") (List.mem_of_getElem? (i := 4) rfl)) (fun _ h9 => h9) rfl dX12_laySpan_57 ?_
        refine lv_iload_n hx hb dX12_laySpan_60 rfl (lv_at hl 1 rfl) ?_
        refine va_iald hx hb hK hP 7 6 rfl rfl (ti_in rfl (by omega) (by omega)) dX12_laySpan_61 ?_
        refine lv_topi (fun z111 ez111 => ?_)
        have gz111 : z111.toInt = ((σ.2.1 15) (Int32.toNatClampNeg z109)).toInt := congrArg Int32.toInt (ez111.trans (congrFun rfl (Int32.toNatClampNeg z109)))
        refine lv_i2l hx hb dX12_laySpan_62 rfl ?_
        refine lv_topl (fun y112 ey112 => ?_)
        refine lv_lmul hx hb dX12_laySpan_63 ?_
        refine lv_topl (fun y113 ey113 => ?_)
        refine va_last hx hb hK hP hD hS 19 18 rfl rfl (ti_in rfl (by omega) (by omega)) dX12_laySpan_64 (fun H locs hP hD hS => ?_)
        have hP : va_P (dC, dI) vwCl (mW h ad cl (sJ σ 27 (vp_updL (σ.2.2.1 27) (Int32.toNatClampNeg x) y113))) H := hP
        have hD : va_D A (mW h ad cl (sJ σ 27 (vp_updL (σ.2.2.1 27) (Int32.toNatClampNeg x) y113))) := hD
        refine lv_aload_n hx hb dX12_laySpan_65 rfl (lv_at hl 3 rfl) ?_
        refine va_get (D := (dC, dI)) (ci := 12) (v := .ref (ad 28)) (C := RX12) (T := TX12) (N := 59) hx hb hts hin12 hown hK hP 0 rfl rfl 28 (by decide) (ho (.fieldLink RX12 73 "NearEnoughModel" "sMost" "[J") (List.mem_of_getElem? (i := 5) rfl)) (fun _ h9 => h9) rfl dX12_laySpan_66 ?_
        refine lv_iload_n hx hb dX12_laySpan_69 rfl (lv_at hl 4 rfl) ?_
        refine lv_lload hx hb dX12_laySpan_70 (lv_at hl 0 rfl) ?_
        refine lv_aload_n hx hb dX12_laySpan_72 rfl (lv_at hl 3 rfl) ?_
        refine va_get (D := (dC, dI)) (ci := 12) (v := .ref (ad 16)) (C := RX12) (T := TX12) (N := 59) hx hb hts hin12 hown hK hP 0 rfl rfl 16 (by decide) (ho (.fieldLink RX12 36 "NearEnoughModel" "rMost" "[I") (List.mem_of_getElem? (i := 6) rfl)) (fun _ h9 => h9) rfl dX12_laySpan_73 ?_
        refine lv_iload_n hx hb dX12_laySpan_76 rfl (lv_at hl 1 rfl) ?_
        refine va_iald hx hb hK hP 8 7 rfl rfl (ti_in rfl (by omega) (by omega)) dX12_laySpan_77 ?_
        refine lv_topi (fun z114 ez114 => ?_)
        have gz114 : z114.toInt = ((σ.2.1 16) (Int32.toNatClampNeg z109)).toInt := congrArg Int32.toInt (ez114.trans (congrFun tJ (Int32.toNatClampNeg z109)))
        refine lv_i2l hx hb dX12_laySpan_78 rfl ?_
        refine lv_topl (fun y115 ey115 => ?_)
        refine lv_lmul hx hb dX12_laySpan_79 ?_
        refine lv_topl (fun y116 ey116 => ?_)
        refine va_last hx hb hK hP hD hS 20 19 rfl rfl (ti_in rfl (by omega) (by omega)) dX12_laySpan_80 (fun H locs hP hD hS => ?_)
        have hP : va_P (dC, dI) vwCl (mW h ad cl (sJ (sJ σ 27 (vp_updL (σ.2.2.1 27) (Int32.toNatClampNeg x) y113)) 28 (vp_updL (σ.2.2.1 28) (Int32.toNatClampNeg x) y116))) H := hP
        have hD : va_D A (mW h ad cl (sJ (sJ σ 27 (vp_updL (σ.2.2.1 27) (Int32.toNatClampNeg x) y113)) 28 (vp_updL (σ.2.2.1 28) (Int32.toNatClampNeg x) y116))) := hD
        rw [hQ]
        exact W.vret hx hb hr (fun t ht hW => ⟨⟨(sJ (sJ σ 27 (vp_updL (σ.2.2.1 27) (Int32.toNatClampNeg x) y113)) 28 (vp_updL (σ.2.2.1 28) (Int32.toNatClampNeg x) y116)), rfl, ⟨(Inv.sJ (Inv.sJ hI)), (eqx.sJ (eqx.sJ eqx.rf (by decide)) (by decide))⟩, wEn_of hP (hK.sub [] rfl) hD ht hW⟩, hS.F ht⟩) hS.2.2 dX12_laySpan_81
      · have tc110 := (show z1.toInt = 0 from ti_eq rfl (by decide) c110)
        refine lv_aload_n hx hb dX12_laySpan_36 rfl (lv_at hl 2 rfl) ?_
        refine va_get (D := (dC, dI)) (ci := 12) (v := .ref (ad 14)) (C := RX12) (T := TX12) (N := 59) hx hb hts hin12 hown hK hP 0 rfl rfl 14 (by decide) (ho (.fieldLink RX12 30 "NearEnoughModel" "rHas" "[I") (List.mem_of_getElem? (i := 7) rfl)) (fun _ h9 => h9) rfl dX12_laySpan_37 ?_
        refine lv_iload_n hx hb dX12_laySpan_40 rfl (lv_at hl 0 rfl) ?_
        refine va_iald hx hb hK hP 6 5 rfl rfl (ti_in rfl (by omega) (by omega)) dX12_laySpan_41 ?_
        refine lv_topi (fun z117 ez117 => ?_)
        have gz117 : z117.toInt = ((σ.2.1 14) (Int32.toNatClampNeg z109)).toInt := congrArg Int32.toInt (ez117.trans (congrFun rfl (Int32.toNatClampNeg z109)))
        have bz117 : 0 ≤ z117.toInt ∧ z117.toInt ≤ 6 := by rw [ez117]; exact (hI.2 14) _ (by have := ti_cl (x := z109) rfl (by omega); show _ < 4; omega)
        refine lv_i2l hx hb dX12_laySpan_42 rfl ?_
        refine lv_topl (fun y118 ey118 => ?_)
        refine lv_goto (tgt := 47) hx hb dX12_laySpan_43 (by decide) ?_
        refine lv_lstore (lv' := [(4, .long y118), (3, .int z109), (2, .int z1), (0, .ref h), (1, .int x)]) hx hb dX12_laySpan_47 hl (by decide) rfl (fun ls hl => ?_)
        refine lv_aload_n hx hb dX12_laySpan_49 rfl (lv_at hl 3 rfl) ?_
        refine va_get (D := (dC, dI)) (ci := 12) (v := .ref (ad 27)) (C := RX12) (T := TX12) (N := 59) hx hb hts hin12 hown hK hP 0 rfl rfl 27 (by decide) (ho (.fieldLink RX12 70 "NearEnoughModel" "sLeast" "[J") (List.mem_of_getElem? (i := 3) rfl)) (fun _ h9 => h9) rfl dX12_laySpan_50 ?_
        refine lv_iload_n hx hb dX12_laySpan_53 rfl (lv_at hl 4 rfl) ?_
        refine lv_lload hx hb dX12_laySpan_54 (lv_at hl 0 rfl) ?_
        refine lv_aload_n hx hb dX12_laySpan_56 rfl (lv_at hl 3 rfl) ?_
        refine va_get (D := (dC, dI)) (ci := 12) (v := .ref (ad 15)) (C := RX12) (T := TX12) (N := 59) hx hb hts hin12 hown hK hP 0 rfl rfl 15 (by decide) (ho (.fieldLink RX12 33 "NearEnoughModel" "rLeast" "[I") (List.mem_of_getElem? (i := 4) rfl)) (fun _ h9 => h9) rfl dX12_laySpan_57 ?_
        refine lv_iload_n hx hb dX12_laySpan_60 rfl (lv_at hl 1 rfl) ?_
        refine va_iald hx hb hK hP 7 6 rfl rfl (ti_in rfl (by omega) (by omega)) dX12_laySpan_61 ?_
        refine lv_topi (fun z119 ez119 => ?_)
        have gz119 : z119.toInt = ((σ.2.1 15) (Int32.toNatClampNeg z109)).toInt := congrArg Int32.toInt (ez119.trans (congrFun rfl (Int32.toNatClampNeg z109)))
        refine lv_i2l hx hb dX12_laySpan_62 rfl ?_
        refine lv_topl (fun y120 ey120 => ?_)
        refine lv_lmul hx hb dX12_laySpan_63 ?_
        refine lv_topl (fun y121 ey121 => ?_)
        refine va_last hx hb hK hP hD hS 19 18 rfl rfl (ti_in rfl (by omega) (by omega)) dX12_laySpan_64 (fun H locs hP hD hS => ?_)
        have hP : va_P (dC, dI) vwCl (mW h ad cl (sJ σ 27 (vp_updL (σ.2.2.1 27) (Int32.toNatClampNeg x) y121))) H := hP
        have hD : va_D A (mW h ad cl (sJ σ 27 (vp_updL (σ.2.2.1 27) (Int32.toNatClampNeg x) y121))) := hD
        refine lv_aload_n hx hb dX12_laySpan_65 rfl (lv_at hl 3 rfl) ?_
        refine va_get (D := (dC, dI)) (ci := 12) (v := .ref (ad 28)) (C := RX12) (T := TX12) (N := 59) hx hb hts hin12 hown hK hP 0 rfl rfl 28 (by decide) (ho (.fieldLink RX12 73 "NearEnoughModel" "sMost" "[J") (List.mem_of_getElem? (i := 5) rfl)) (fun _ h9 => h9) rfl dX12_laySpan_66 ?_
        refine lv_iload_n hx hb dX12_laySpan_69 rfl (lv_at hl 4 rfl) ?_
        refine lv_lload hx hb dX12_laySpan_70 (lv_at hl 0 rfl) ?_
        refine lv_aload_n hx hb dX12_laySpan_72 rfl (lv_at hl 3 rfl) ?_
        refine va_get (D := (dC, dI)) (ci := 12) (v := .ref (ad 16)) (C := RX12) (T := TX12) (N := 59) hx hb hts hin12 hown hK hP 0 rfl rfl 16 (by decide) (ho (.fieldLink RX12 36 "NearEnoughModel" "rMost" "[I") (List.mem_of_getElem? (i := 6) rfl)) (fun _ h9 => h9) rfl dX12_laySpan_73 ?_
        refine lv_iload_n hx hb dX12_laySpan_76 rfl (lv_at hl 1 rfl) ?_
        refine va_iald hx hb hK hP 8 7 rfl rfl (ti_in rfl (by omega) (by omega)) dX12_laySpan_77 ?_
        refine lv_topi (fun z122 ez122 => ?_)
        have gz122 : z122.toInt = ((σ.2.1 16) (Int32.toNatClampNeg z109)).toInt := congrArg Int32.toInt (ez122.trans (congrFun tJ (Int32.toNatClampNeg z109)))
        refine lv_i2l hx hb dX12_laySpan_78 rfl ?_
        refine lv_topl (fun y123 ey123 => ?_)
        refine lv_lmul hx hb dX12_laySpan_79 ?_
        refine lv_topl (fun y124 ey124 => ?_)
        refine va_last hx hb hK hP hD hS 20 19 rfl rfl (ti_in rfl (by omega) (by omega)) dX12_laySpan_80 (fun H locs hP hD hS => ?_)
        have hP : va_P (dC, dI) vwCl (mW h ad cl (sJ (sJ σ 27 (vp_updL (σ.2.2.1 27) (Int32.toNatClampNeg x) y121)) 28 (vp_updL (σ.2.2.1 28) (Int32.toNatClampNeg x) y124))) H := hP
        have hD : va_D A (mW h ad cl (sJ (sJ σ 27 (vp_updL (σ.2.2.1 27) (Int32.toNatClampNeg x) y121)) 28 (vp_updL (σ.2.2.1 28) (Int32.toNatClampNeg x) y124))) := hD
        rw [hQ]
        exact W.vret hx hb hr (fun t ht hW => ⟨⟨(sJ (sJ σ 27 (vp_updL (σ.2.2.1 27) (Int32.toNatClampNeg x) y121)) 28 (vp_updL (σ.2.2.1 28) (Int32.toNatClampNeg x) y124)), rfl, ⟨(Inv.sJ (Inv.sJ hI)), (eqx.sJ (eqx.sJ eqx.rf (by decide)) (by decide))⟩, wEn_of hP (hK.sub [] rfl) hD ht hW⟩, hS.F ht⟩) hS.2.2 dX12_laySpan_81

theorem dX12_showRow_0 : decode cX12_showRow 0 = .ok (.iconst 2, 1) := by decide +kernel
theorem dX12_showRow_1 : decode cX12_showRow 1 = .ok (.aload_n 0, 1) := by decide +kernel
theorem dX12_showRow_2 : decode cX12_showRow 2 = .ok (.getfield 240, 3) := by decide +kernel
theorem dX12_showRow_5 : decode cX12_showRow 5 = .ok (.imul, 1) := by decide +kernel
theorem dX12_showRow_6 : decode cX12_showRow 6 = .ok (.aload_n 0, 1) := by decide +kernel
theorem dX12_showRow_7 : decode cX12_showRow 7 = .ok (.getfield 42, 3) := by decide +kernel
theorem dX12_showRow_10 : decode cX12_showRow 10 = .ok (.iload_n 1, 1) := by decide +kernel
theorem dX12_showRow_11 : decode cX12_showRow 11 = .ok (.iaload, 1) := by decide +kernel
theorem dX12_showRow_12 : decode cX12_showRow 12 = .ok (.iadd, 1) := by decide +kernel
theorem dX12_showRow_13 : decode cX12_showRow 13 = .ok (.istore 4, 2) := by decide +kernel
theorem dX12_showRow_15 : decode cX12_showRow 15 = .ok (.aload_n 0, 1) := by decide +kernel
theorem dX12_showRow_16 : decode cX12_showRow 16 = .ok (.getfield 36, 3) := by decide +kernel
theorem dX12_showRow_19 : decode cX12_showRow 19 = .ok (.iload 4, 2) := by decide +kernel
theorem dX12_showRow_21 : decode cX12_showRow 21 = .ok (.iaload, 1) := by decide +kernel
theorem dX12_showRow_22 : decode cX12_showRow 22 = .ok (.aload_n 0, 1) := by decide +kernel
theorem dX12_showRow_23 : decode cX12_showRow 23 = .ok (.getfield 33, 3) := by decide +kernel
theorem dX12_showRow_26 : decode cX12_showRow 26 = .ok (.iload 4, 2) := by decide +kernel
theorem dX12_showRow_28 : decode cX12_showRow 28 = .ok (.iaload, 1) := by decide +kernel
theorem dX12_showRow_29 : decode cX12_showRow 29 = .ok (.isub, 1) := by decide +kernel
theorem dX12_showRow_30 : decode cX12_showRow 30 = .ok (.i2l, 1) := by decide +kernel
theorem dX12_showRow_31 : decode cX12_showRow 31 = .ok (.lstore 5, 2) := by decide +kernel
theorem dX12_showRow_33 : decode cX12_showRow 33 = .ok (.aload_n 0, 1) := by decide +kernel
theorem dX12_showRow_34 : decode cX12_showRow 34 = .ok (.getfield 30, 3) := by decide +kernel
theorem dX12_showRow_37 : decode cX12_showRow 37 = .ok (.iload 4, 2) := by decide +kernel
theorem dX12_showRow_39 : decode cX12_showRow 39 = .ok (.iaload, 1) := by decide +kernel
theorem dX12_showRow_40 : decode cX12_showRow 40 = .ok (.iload_n 3, 1) := by decide +kernel
theorem dX12_showRow_41 : decode cX12_showRow 41 = .ok (.isub, 1) := by decide +kernel
theorem dX12_showRow_42 : decode cX12_showRow 42 = .ok (.i2l, 1) := by decide +kernel
theorem dX12_showRow_43 : decode cX12_showRow 43 = .ok (.lstore 7, 2) := by decide +kernel
theorem dX12_showRow_45 : decode cX12_showRow 45 = .ok (.iload_n 2, 1) := by decide +kernel
theorem dX12_showRow_46 : decode cX12_showRow 46 = .ok (.bipush 6, 2) := by decide +kernel
theorem dX12_showRow_48 : decode cX12_showRow 48 = .ok (.if_icmp .ne 46, 3) := by decide +kernel
theorem dX12_showRow_94 : decode cX12_showRow 94 = .ok (.lload 7, 2) := by decide +kernel
theorem dX12_showRow_96 : decode cX12_showRow 96 = .ok (.lconst 0, 1) := by decide +kernel
theorem dX12_showRow_97 : decode cX12_showRow 97 = .ok (.lcmp, 1) := by decide +kernel
theorem dX12_showRow_98 : decode cX12_showRow 98 = .ok (.ifCond .le 63, 3) := by decide +kernel
theorem dX12_showRow_161 : decode cX12_showRow 161 = .ok (.return_, 1) := by decide +kernel
theorem dX12_showRow_101 : decode cX12_showRow 101 = .ok (.aload_n 0, 1) := by decide +kernel
theorem dX12_showRow_102 : decode cX12_showRow 102 = .ok (.aload_n 0, 1) := by decide +kernel
theorem dX12_showRow_103 : decode cX12_showRow 103 = .ok (.getfield 39, 3) := by decide +kernel
theorem dX12_showRow_106 : decode cX12_showRow 106 = .ok (.iload_n 1, 1) := by decide +kernel
theorem dX12_showRow_107 : decode cX12_showRow 107 = .ok (.iaload, 1) := by decide +kernel
theorem dX12_showRow_108 : decode cX12_showRow 108 = .ok (.ifCond .ne 18, 3) := by decide +kernel
theorem dX12_showRow_111 : decode cX12_showRow 111 = .ok (.lload 7, 2) := by decide +kernel
theorem dX12_showRow_113 : decode cX12_showRow 113 = .ok (.lneg, 1) := by decide +kernel
theorem dX12_showRow_114 : decode cX12_showRow 114 = .ok (.aload_n 0, 1) := by decide +kernel
theorem dX12_showRow_115 : decode cX12_showRow 115 = .ok (.getfield 36, 3) := by decide +kernel
theorem dX12_showRow_118 : decode cX12_showRow 118 = .ok (.iload 4, 2) := by decide +kernel
theorem dX12_showRow_120 : decode cX12_showRow 120 = .ok (.iaload, 1) := by decide +kernel
theorem dX12_showRow_121 : decode cX12_showRow 121 = .ok (.i2l, 1) := by decide +kernel
theorem dX12_showRow_122 : decode cX12_showRow 122 = .ok (.lmul, 1) := by decide +kernel
theorem dX12_showRow_123 : decode cX12_showRow 123 = .ok (.goto 6, 3) := by decide +kernel
theorem dX12_showRow_129 : decode cX12_showRow 129 = .ok (.putfield 379, 3) := by decide +kernel
theorem dX12_showRow_132 : decode cX12_showRow 132 = .ok (.aload_n 0, 1) := by decide +kernel
theorem dX12_showRow_133 : decode cX12_showRow 133 = .ok (.aload_n 0, 1) := by decide +kernel
theorem dX12_showRow_134 : decode cX12_showRow 134 = .ok (.getfield 39, 3) := by decide +kernel
theorem dX12_showRow_137 : decode cX12_showRow 137 = .ok (.iload_n 1, 1) := by decide +kernel
theorem dX12_showRow_138 : decode cX12_showRow 138 = .ok (.iaload, 1) := by decide +kernel
theorem dX12_showRow_139 : decode cX12_showRow 139 = .ok (.ifCond .ne 18, 3) := by decide +kernel
theorem dX12_showRow_142 : decode cX12_showRow 142 = .ok (.lload 7, 2) := by decide +kernel
theorem dX12_showRow_144 : decode cX12_showRow 144 = .ok (.lneg, 1) := by decide +kernel
theorem dX12_showRow_145 : decode cX12_showRow 145 = .ok (.aload_n 0, 1) := by decide +kernel
theorem dX12_showRow_146 : decode cX12_showRow 146 = .ok (.getfield 33, 3) := by decide +kernel
theorem dX12_showRow_149 : decode cX12_showRow 149 = .ok (.iload 4, 2) := by decide +kernel
theorem dX12_showRow_151 : decode cX12_showRow 151 = .ok (.iaload, 1) := by decide +kernel
theorem dX12_showRow_152 : decode cX12_showRow 152 = .ok (.i2l, 1) := by decide +kernel
theorem dX12_showRow_153 : decode cX12_showRow 153 = .ok (.lmul, 1) := by decide +kernel
theorem dX12_showRow_154 : decode cX12_showRow 154 = .ok (.goto 4, 3) := by decide +kernel
theorem dX12_showRow_158 : decode cX12_showRow 158 = .ok (.putfield 382, 3) := by decide +kernel
theorem dX12_showRow_51 : decode cX12_showRow 51 = .ok (.aload_n 0, 1) := by decide +kernel
theorem dX12_showRow_52 : decode cX12_showRow 52 = .ok (.aload_n 0, 1) := by decide +kernel
theorem dX12_showRow_53 : decode cX12_showRow 53 = .ok (.getfield 39, 3) := by decide +kernel
theorem dX12_showRow_56 : decode cX12_showRow 56 = .ok (.iload_n 1, 1) := by decide +kernel
theorem dX12_showRow_57 : decode cX12_showRow 57 = .ok (.iaload, 1) := by decide +kernel
theorem dX12_showRow_58 : decode cX12_showRow 58 = .ok (.ifCond .ne 18, 3) := by decide +kernel
theorem dX12_showRow_61 : decode cX12_showRow 61 = .ok (.aload_n 0, 1) := by decide +kernel
theorem dX12_showRow_62 : decode cX12_showRow 62 = .ok (.getfield 30, 3) := by decide +kernel
theorem dX12_showRow_65 : decode cX12_showRow 65 = .ok (.iload 4, 2) := by decide +kernel
theorem dX12_showRow_67 : decode cX12_showRow 67 = .ok (.iaload, 1) := by decide +kernel
theorem dX12_showRow_68 : decode cX12_showRow 68 = .ok (.ineg, 1) := by decide +kernel
theorem dX12_showRow_69 : decode cX12_showRow 69 = .ok (.i2l, 1) := by decide +kernel
theorem dX12_showRow_70 : decode cX12_showRow 70 = .ok (.lload 5, 2) := by decide +kernel
theorem dX12_showRow_72 : decode cX12_showRow 72 = .ok (.lmul, 1) := by decide +kernel
theorem dX12_showRow_73 : decode cX12_showRow 73 = .ok (.goto 6, 3) := by decide +kernel
theorem dX12_showRow_79 : decode cX12_showRow 79 = .ok (.putfield 379, 3) := by decide +kernel
theorem dX12_showRow_82 : decode cX12_showRow 82 = .ok (.aload_n 0, 1) := by decide +kernel
theorem dX12_showRow_83 : decode cX12_showRow 83 = .ok (.aload_n 0, 1) := by decide +kernel
theorem dX12_showRow_84 : decode cX12_showRow 84 = .ok (.getfield 379, 3) := by decide +kernel
theorem dX12_showRow_87 : decode cX12_showRow 87 = .ok (.lneg, 1) := by decide +kernel
theorem dX12_showRow_88 : decode cX12_showRow 88 = .ok (.putfield 382, 3) := by decide +kernel
theorem dX12_showRow_91 : decode cX12_showRow 91 = .ok (.goto 70, 3) := by decide +kernel
theorem dX12_showRow_126 : decode cX12_showRow 126 = .ok (.lload 5, 2) := by decide +kernel
theorem dX12_showRow_128 : decode cX12_showRow 128 = .ok (.lneg, 1) := by decide +kernel
theorem dX12_showRow_157 : decode cX12_showRow 157 = .ok (.lconst 0, 1) := by decide +kernel
theorem dX12_showRow_76 : decode cX12_showRow 76 = .ok (.lload 5, 2) := by decide +kernel
theorem dX12_showRow_78 : decode cX12_showRow 78 = .ok (.lneg, 1) := by decide +kernel
theorem dX12_spread_0 : decode cX12_spread 0 = .ok (.aload_n 0, 1) := by decide +kernel
theorem dX12_spread_1 : decode cX12_spread 1 = .ok (.iload_n 1, 1) := by decide +kernel
theorem dX12_spread_2 : decode cX12_spread 2 = .ok (.invokevirtual 331, 3) := by decide +kernel
theorem dX12_spread_5 : decode cX12_spread 5 = .ok (.istore_n 2, 1) := by decide +kernel
theorem dX12_spread_6 : decode cX12_spread 6 = .ok (.aload_n 0, 1) := by decide +kernel
theorem dX12_spread_7 : decode cX12_spread 7 = .ok (.getfield 42, 3) := by decide +kernel
theorem dX12_spread_10 : decode cX12_spread 10 = .ok (.iload_n 2, 1) := by decide +kernel
theorem dX12_spread_11 : decode cX12_spread 11 = .ok (.iaload, 1) := by decide +kernel
theorem dX12_spread_12 : decode cX12_spread 12 = .ok (.istore_n 3, 1) := by decide +kernel
theorem dX12_spread_13 : decode cX12_spread 13 = .ok (.aload_n 0, 1) := by decide +kernel
theorem dX12_spread_14 : decode cX12_spread 14 = .ok (.getfield 45, 3) := by decide +kernel
theorem dX12_spread_17 : decode cX12_spread 17 = .ok (.iload_n 2, 1) := by decide +kernel
theorem dX12_spread_18 : decode cX12_spread 18 = .ok (.iaload, 1) := by decide +kernel
theorem dX12_spread_19 : decode cX12_spread 19 = .ok (.istore 4, 2) := by decide +kernel
theorem dX12_spread_21 : decode cX12_spread 21 = .ok (.aload_n 0, 1) := by decide +kernel
theorem dX12_spread_22 : decode cX12_spread 22 = .ok (.lconst 0, 1) := by decide +kernel
theorem dX12_spread_23 : decode cX12_spread 23 = .ok (.putfield 379, 3) := by decide +kernel
theorem dX12_spread_26 : decode cX12_spread 26 = .ok (.aload_n 0, 1) := by decide +kernel
theorem dX12_spread_27 : decode cX12_spread 27 = .ok (.lconst 0, 1) := by decide +kernel
theorem dX12_spread_28 : decode cX12_spread 28 = .ok (.putfield 382, 3) := by decide +kernel
theorem dX12_spread_31 : decode cX12_spread 31 = .ok (.aload_n 0, 1) := by decide +kernel
theorem dX12_spread_32 : decode cX12_spread 32 = .ok (.getfield 39, 3) := by decide +kernel
theorem dX12_spread_35 : decode cX12_spread 35 = .ok (.iload_n 2, 1) := by decide +kernel
theorem dX12_spread_36 : decode cX12_spread 36 = .ok (.iaload, 1) := by decide +kernel
theorem dX12_spread_37 : decode cX12_spread 37 = .ok (.tableswitch 271 0 6 #[43, 43, 71, 109, 147, 156, 45], 43) := by decide +kernel
theorem dX12_spread_308 : decode cX12_spread 308 = .ok (.aload_n 0, 1) := by decide +kernel
theorem dX12_spread_309 : decode cX12_spread 309 = .ok (.iload_n 3, 1) := by decide +kernel
theorem dX12_spread_310 : decode cX12_spread 310 = .ok (.iload 4, 2) := by decide +kernel
theorem dX12_spread_312 : decode cX12_spread 312 = .ok (.aload_n 0, 1) := by decide +kernel
theorem dX12_spread_313 : decode cX12_spread 313 = .ok (.getfield 107, 3) := by decide +kernel
theorem dX12_spread_316 : decode cX12_spread 316 = .ok (.aload_n 0, 1) := by decide +kernel
theorem dX12_spread_317 : decode cX12_spread 317 = .ok (.getfield 48, 3) := by decide +kernel
theorem dX12_spread_320 : decode cX12_spread 320 = .ok (.iload_n 2, 1) := by decide +kernel
theorem dX12_spread_321 : decode cX12_spread 321 = .ok (.iaload, 1) := by decide +kernel
theorem dX12_spread_322 : decode cX12_spread 322 = .ok (.laload, 1) := by decide +kernel
theorem dX12_spread_323 : decode cX12_spread 323 = .ok (.aload_n 0, 1) := by decide +kernel
theorem dX12_spread_324 : decode cX12_spread 324 = .ok (.getfield 110, 3) := by decide +kernel
theorem dX12_spread_327 : decode cX12_spread 327 = .ok (.aload_n 0, 1) := by decide +kernel
theorem dX12_spread_328 : decode cX12_spread 328 = .ok (.getfield 48, 3) := by decide +kernel
theorem dX12_spread_331 : decode cX12_spread 331 = .ok (.iload_n 2, 1) := by decide +kernel
theorem dX12_spread_332 : decode cX12_spread 332 = .ok (.iaload, 1) := by decide +kernel
theorem dX12_spread_333 : decode cX12_spread 333 = .ok (.laload, 1) := by decide +kernel
theorem dX12_spread_334 : decode cX12_spread 334 = .ok (.invokestatic 385, 3) := by decide +kernel
theorem dX12_spread_337 : decode cX12_spread 337 = .ok (.ifCond .ne 31, 3) := by decide +kernel
theorem dX12_spread_368 : decode cX12_spread 368 = .ok (.iconst 1, 1) := by decide +kernel
theorem dX12_spread_369 : decode cX12_spread 369 = .ok (.goto 4, 3) := by decide +kernel
theorem dX12_spread_373 : decode cX12_spread 373 = .ok (.invokevirtual 392, 3) := by decide +kernel
theorem dX12_spread_376 : decode cX12_spread 376 = .ok (.iconst 1, 1) := by decide +kernel
theorem dX12_spread_377 : decode cX12_spread 377 = .ok (.ireturn, 1) := by decide +kernel
theorem dX12_spread_340 : decode cX12_spread 340 = .ok (.aload_n 0, 1) := by decide +kernel
theorem dX12_spread_341 : decode cX12_spread 341 = .ok (.getfield 107, 3) := by decide +kernel
theorem dX12_spread_344 : decode cX12_spread 344 = .ok (.aload_n 0, 1) := by decide +kernel
theorem dX12_spread_345 : decode cX12_spread 345 = .ok (.getfield 51, 3) := by decide +kernel
theorem dX12_spread_348 : decode cX12_spread 348 = .ok (.iload_n 2, 1) := by decide +kernel
theorem dX12_spread_349 : decode cX12_spread 349 = .ok (.iaload, 1) := by decide +kernel
theorem dX12_spread_350 : decode cX12_spread 350 = .ok (.laload, 1) := by decide +kernel
theorem dX12_spread_351 : decode cX12_spread 351 = .ok (.aload_n 0, 1) := by decide +kernel
theorem dX12_spread_352 : decode cX12_spread 352 = .ok (.getfield 110, 3) := by decide +kernel
theorem dX12_spread_355 : decode cX12_spread 355 = .ok (.aload_n 0, 1) := by decide +kernel
theorem dX12_spread_356 : decode cX12_spread 356 = .ok (.getfield 51, 3) := by decide +kernel
theorem dX12_spread_359 : decode cX12_spread 359 = .ok (.iload_n 2, 1) := by decide +kernel
theorem dX12_spread_360 : decode cX12_spread 360 = .ok (.iaload, 1) := by decide +kernel
theorem dX12_spread_361 : decode cX12_spread 361 = .ok (.laload, 1) := by decide +kernel
theorem dX12_spread_362 : decode cX12_spread 362 = .ok (.invokestatic 385, 3) := by decide +kernel
theorem dX12_spread_365 : decode cX12_spread 365 = .ok (.ifCond .eq 7, 3) := by decide +kernel
theorem dX12_spread_372 : decode cX12_spread 372 = .ok (.iconst 0, 1) := by decide +kernel
theorem dX12_spread_80 : decode cX12_spread 80 = .ok (.iconst 1, 1) := by decide +kernel
theorem dX12_spread_81 : decode cX12_spread 81 = .ok (.ireturn, 1) := by decide +kernel
theorem dX12_spread_108 : decode cX12_spread 108 = .ok (.aload_n 0, 1) := by decide +kernel
theorem dX12_spread_109 : decode cX12_spread 109 = .ok (.aload_n 0, 1) := by decide +kernel
theorem dX12_spread_110 : decode cX12_spread 110 = .ok (.getfield 107, 3) := by decide +kernel
theorem dX12_spread_113 : decode cX12_spread 113 = .ok (.iload_n 3, 1) := by decide +kernel
theorem dX12_spread_114 : decode cX12_spread 114 = .ok (.laload, 1) := by decide +kernel
theorem dX12_spread_115 : decode cX12_spread 115 = .ok (.aload_n 0, 1) := by decide +kernel
theorem dX12_spread_116 : decode cX12_spread 116 = .ok (.getfield 107, 3) := by decide +kernel
theorem dX12_spread_119 : decode cX12_spread 119 = .ok (.iload 4, 2) := by decide +kernel
theorem dX12_spread_121 : decode cX12_spread 121 = .ok (.laload, 1) := by decide +kernel
theorem dX12_spread_122 : decode cX12_spread 122 = .ok (.ladd, 1) := by decide +kernel
theorem dX12_spread_123 : decode cX12_spread 123 = .ok (.putfield 379, 3) := by decide +kernel
theorem dX12_spread_126 : decode cX12_spread 126 = .ok (.aload_n 0, 1) := by decide +kernel
theorem dX12_spread_127 : decode cX12_spread 127 = .ok (.aload_n 0, 1) := by decide +kernel
theorem dX12_spread_128 : decode cX12_spread 128 = .ok (.getfield 110, 3) := by decide +kernel
theorem dX12_spread_131 : decode cX12_spread 131 = .ok (.iload_n 3, 1) := by decide +kernel
theorem dX12_spread_132 : decode cX12_spread 132 = .ok (.laload, 1) := by decide +kernel
theorem dX12_spread_133 : decode cX12_spread 133 = .ok (.aload_n 0, 1) := by decide +kernel
theorem dX12_spread_134 : decode cX12_spread 134 = .ok (.getfield 110, 3) := by decide +kernel
theorem dX12_spread_137 : decode cX12_spread 137 = .ok (.iload 4, 2) := by decide +kernel
theorem dX12_spread_139 : decode cX12_spread 139 = .ok (.laload, 1) := by decide +kernel
theorem dX12_spread_140 : decode cX12_spread 140 = .ok (.ladd, 1) := by decide +kernel
theorem dX12_spread_141 : decode cX12_spread 141 = .ok (.putfield 382, 3) := by decide +kernel
theorem dX12_spread_144 : decode cX12_spread 144 = .ok (.iconst 1, 1) := by decide +kernel
theorem dX12_spread_145 : decode cX12_spread 145 = .ok (.ireturn, 1) := by decide +kernel
theorem dX12_spread_146 : decode cX12_spread 146 = .ok (.aload_n 0, 1) := by decide +kernel
theorem dX12_spread_147 : decode cX12_spread 147 = .ok (.aload_n 0, 1) := by decide +kernel
theorem dX12_spread_148 : decode cX12_spread 148 = .ok (.getfield 107, 3) := by decide +kernel
theorem dX12_spread_151 : decode cX12_spread 151 = .ok (.iload_n 3, 1) := by decide +kernel
theorem dX12_spread_152 : decode cX12_spread 152 = .ok (.laload, 1) := by decide +kernel
theorem dX12_spread_153 : decode cX12_spread 153 = .ok (.aload_n 0, 1) := by decide +kernel
theorem dX12_spread_154 : decode cX12_spread 154 = .ok (.getfield 110, 3) := by decide +kernel
theorem dX12_spread_157 : decode cX12_spread 157 = .ok (.iload 4, 2) := by decide +kernel
theorem dX12_spread_159 : decode cX12_spread 159 = .ok (.laload, 1) := by decide +kernel
theorem dX12_spread_160 : decode cX12_spread 160 = .ok (.lsub, 1) := by decide +kernel
theorem dX12_spread_161 : decode cX12_spread 161 = .ok (.putfield 379, 3) := by decide +kernel
theorem dX12_spread_164 : decode cX12_spread 164 = .ok (.aload_n 0, 1) := by decide +kernel
theorem dX12_spread_165 : decode cX12_spread 165 = .ok (.aload_n 0, 1) := by decide +kernel
theorem dX12_spread_166 : decode cX12_spread 166 = .ok (.getfield 110, 3) := by decide +kernel
theorem dX12_spread_169 : decode cX12_spread 169 = .ok (.iload_n 3, 1) := by decide +kernel
theorem dX12_spread_170 : decode cX12_spread 170 = .ok (.laload, 1) := by decide +kernel
theorem dX12_spread_171 : decode cX12_spread 171 = .ok (.aload_n 0, 1) := by decide +kernel
theorem dX12_spread_172 : decode cX12_spread 172 = .ok (.getfield 107, 3) := by decide +kernel
theorem dX12_spread_175 : decode cX12_spread 175 = .ok (.iload 4, 2) := by decide +kernel
theorem dX12_spread_177 : decode cX12_spread 177 = .ok (.laload, 1) := by decide +kernel
theorem dX12_spread_178 : decode cX12_spread 178 = .ok (.lsub, 1) := by decide +kernel
theorem dX12_spread_179 : decode cX12_spread 179 = .ok (.putfield 382, 3) := by decide +kernel
theorem dX12_spread_182 : decode cX12_spread 182 = .ok (.iconst 1, 1) := by decide +kernel
theorem dX12_spread_183 : decode cX12_spread 183 = .ok (.ireturn, 1) := by decide +kernel
theorem dX12_spread_184 : decode cX12_spread 184 = .ok (.aload_n 0, 1) := by decide +kernel
theorem dX12_spread_185 : decode cX12_spread 185 = .ok (.iload_n 3, 1) := by decide +kernel
theorem dX12_spread_186 : decode cX12_spread 186 = .ok (.iload 4, 2) := by decide +kernel
theorem dX12_spread_188 : decode cX12_spread 188 = .ok (.invokevirtual 389, 3) := by decide +kernel
theorem dX12_spread_191 : decode cX12_spread 191 = .ok (.iconst 1, 1) := by decide +kernel
theorem dX12_spread_192 : decode cX12_spread 192 = .ok (.ireturn, 1) := by decide +kernel
theorem dX12_spread_193 : decode cX12_spread 193 = .ok (.aload_n 0, 1) := by decide +kernel
theorem dX12_spread_194 : decode cX12_spread 194 = .ok (.getfield 107, 3) := by decide +kernel
theorem dX12_spread_197 : decode cX12_spread 197 = .ok (.iload_n 3, 1) := by decide +kernel
theorem dX12_spread_198 : decode cX12_spread 198 = .ok (.laload, 1) := by decide +kernel
theorem dX12_spread_199 : decode cX12_spread 199 = .ok (.aload_n 0, 1) := by decide +kernel
theorem dX12_spread_200 : decode cX12_spread 200 = .ok (.getfield 110, 3) := by decide +kernel
theorem dX12_spread_203 : decode cX12_spread 203 = .ok (.iload_n 3, 1) := by decide +kernel
theorem dX12_spread_204 : decode cX12_spread 204 = .ok (.laload, 1) := by decide +kernel
theorem dX12_spread_205 : decode cX12_spread 205 = .ok (.invokestatic 385, 3) := by decide +kernel
theorem dX12_spread_208 : decode cX12_spread 208 = .ok (.ifCond .eq 98, 3) := by decide +kernel
theorem dX12_spread_306 : decode cX12_spread 306 = .ok (.iconst 1, 1) := by decide +kernel
theorem dX12_spread_307 : decode cX12_spread 307 = .ok (.ireturn, 1) := by decide +kernel
theorem dX12_spread_211 : decode cX12_spread 211 = .ok (.aload_n 0, 1) := by decide +kernel
theorem dX12_spread_212 : decode cX12_spread 212 = .ok (.aload_n 0, 1) := by decide +kernel
theorem dX12_spread_213 : decode cX12_spread 213 = .ok (.getfield 107, 3) := by decide +kernel
theorem dX12_spread_216 : decode cX12_spread 216 = .ok (.iload_n 3, 1) := by decide +kernel
theorem dX12_spread_217 : decode cX12_spread 217 = .ok (.laload, 1) := by decide +kernel
theorem dX12_spread_218 : decode cX12_spread 218 = .ok (.aload_n 0, 1) := by decide +kernel
theorem dX12_spread_219 : decode cX12_spread 219 = .ok (.getfield 45, 3) := by decide +kernel
theorem dX12_spread_222 : decode cX12_spread 222 = .ok (.iload_n 2, 1) := by decide +kernel
theorem dX12_spread_223 : decode cX12_spread 223 = .ok (.iaload, 1) := by decide +kernel
theorem dX12_spread_224 : decode cX12_spread 224 = .ok (.i2l, 1) := by decide +kernel
theorem dX12_spread_225 : decode cX12_spread 225 = .ok (.lmul, 1) := by decide +kernel
theorem dX12_spread_226 : decode cX12_spread 226 = .ok (.aload_n 0, 1) := by decide +kernel
theorem dX12_spread_227 : decode cX12_spread 227 = .ok (.getfield 110, 3) := by decide +kernel
theorem dX12_spread_230 : decode cX12_spread 230 = .ok (.iload_n 3, 1) := by decide +kernel
theorem dX12_spread_231 : decode cX12_spread 231 = .ok (.laload, 1) := by decide +kernel
theorem dX12_spread_232 : decode cX12_spread 232 = .ok (.aload_n 0, 1) := by decide +kernel
theorem dX12_spread_233 : decode cX12_spread 233 = .ok (.getfield 45, 3) := by decide +kernel
theorem dX12_spread_236 : decode cX12_spread 236 = .ok (.iload_n 2, 1) := by decide +kernel
theorem dX12_spread_237 : decode cX12_spread 237 = .ok (.iaload, 1) := by decide +kernel
theorem dX12_spread_238 : decode cX12_spread 238 = .ok (.i2l, 1) := by decide +kernel
theorem dX12_spread_239 : decode cX12_spread 239 = .ok (.lmul, 1) := by decide +kernel
theorem dX12_spread_240 : decode cX12_spread 240 = .ok (.invokestatic 314, 3) := by decide +kernel
theorem dX12_spread_243 : decode cX12_spread 243 = .ok (.aload_n 0, 1) := by decide +kernel
theorem dX12_spread_244 : decode cX12_spread 244 = .ok (.getfield 48, 3) := by decide +kernel
theorem dX12_spread_247 : decode cX12_spread 247 = .ok (.iload_n 2, 1) := by decide +kernel
theorem dX12_spread_248 : decode cX12_spread 248 = .ok (.iaload, 1) := by decide +kernel
theorem dX12_spread_249 : decode cX12_spread 249 = .ok (.i2l, 1) := by decide +kernel
theorem dX12_spread_250 : decode cX12_spread 250 = .ok (.invokestatic 337, 3) := by decide +kernel
theorem dX12_spread_253 : decode cX12_spread 253 = .ok (.lconst 1, 1) := by decide +kernel
theorem dX12_spread_254 : decode cX12_spread 254 = .ok (.lsub, 1) := by decide +kernel
theorem dX12_spread_255 : decode cX12_spread 255 = .ok (.putfield 379, 3) := by decide +kernel
theorem dX12_spread_258 : decode cX12_spread 258 = .ok (.aload_n 0, 1) := by decide +kernel
theorem dX12_spread_259 : decode cX12_spread 259 = .ok (.lconst 1, 1) := by decide +kernel
theorem dX12_spread_260 : decode cX12_spread 260 = .ok (.aload_n 0, 1) := by decide +kernel
theorem dX12_spread_261 : decode cX12_spread 261 = .ok (.getfield 107, 3) := by decide +kernel
theorem dX12_spread_264 : decode cX12_spread 264 = .ok (.iload_n 3, 1) := by decide +kernel
theorem dX12_spread_265 : decode cX12_spread 265 = .ok (.laload, 1) := by decide +kernel
theorem dX12_spread_266 : decode cX12_spread 266 = .ok (.aload_n 0, 1) := by decide +kernel
theorem dX12_spread_267 : decode cX12_spread 267 = .ok (.getfield 45, 3) := by decide +kernel
theorem dX12_spread_270 : decode cX12_spread 270 = .ok (.iload_n 2, 1) := by decide +kernel
theorem dX12_spread_271 : decode cX12_spread 271 = .ok (.iaload, 1) := by decide +kernel
theorem dX12_spread_272 : decode cX12_spread 272 = .ok (.i2l, 1) := by decide +kernel
theorem dX12_spread_273 : decode cX12_spread 273 = .ok (.lmul, 1) := by decide +kernel
theorem dX12_spread_274 : decode cX12_spread 274 = .ok (.aload_n 0, 1) := by decide +kernel
theorem dX12_spread_275 : decode cX12_spread 275 = .ok (.getfield 110, 3) := by decide +kernel
theorem dX12_spread_278 : decode cX12_spread 278 = .ok (.iload_n 3, 1) := by decide +kernel
theorem dX12_spread_279 : decode cX12_spread 279 = .ok (.laload, 1) := by decide +kernel
theorem dX12_spread_280 : decode cX12_spread 280 = .ok (.aload_n 0, 1) := by decide +kernel
theorem dX12_spread_281 : decode cX12_spread 281 = .ok (.getfield 45, 3) := by decide +kernel
theorem dX12_spread_284 : decode cX12_spread 284 = .ok (.iload_n 2, 1) := by decide +kernel
theorem dX12_spread_285 : decode cX12_spread 285 = .ok (.iaload, 1) := by decide +kernel
theorem dX12_spread_286 : decode cX12_spread 286 = .ok (.i2l, 1) := by decide +kernel
theorem dX12_spread_287 : decode cX12_spread 287 = .ok (.lmul, 1) := by decide +kernel
theorem dX12_spread_288 : decode cX12_spread 288 = .ok (.invokestatic 318, 3) := by decide +kernel
theorem dX12_spread_291 : decode cX12_spread 291 = .ok (.lneg, 1) := by decide +kernel
theorem dX12_spread_292 : decode cX12_spread 292 = .ok (.aload_n 0, 1) := by decide +kernel
theorem dX12_spread_293 : decode cX12_spread 293 = .ok (.getfield 48, 3) := by decide +kernel
theorem dX12_spread_296 : decode cX12_spread 296 = .ok (.iload_n 2, 1) := by decide +kernel
theorem dX12_spread_297 : decode cX12_spread 297 = .ok (.iaload, 1) := by decide +kernel
theorem dX12_spread_298 : decode cX12_spread 298 = .ok (.i2l, 1) := by decide +kernel
theorem dX12_spread_299 : decode cX12_spread 299 = .ok (.invokestatic 337, 3) := by decide +kernel
theorem dX12_spread_302 : decode cX12_spread 302 = .ok (.lsub, 1) := by decide +kernel
theorem dX12_spread_303 : decode cX12_spread 303 = .ok (.putfield 382, 3) := by decide +kernel
theorem dX12_spread_82 : decode cX12_spread 82 = .ok (.aload_n 0, 1) := by decide +kernel
theorem dX12_spread_83 : decode cX12_spread 83 = .ok (.getfield 107, 3) := by decide +kernel
theorem dX12_spread_86 : decode cX12_spread 86 = .ok (.iload 4, 2) := by decide +kernel
theorem dX12_spread_88 : decode cX12_spread 88 = .ok (.laload, 1) := by decide +kernel
theorem dX12_spread_89 : decode cX12_spread 89 = .ok (.aload_n 0, 1) := by decide +kernel
theorem dX12_spread_90 : decode cX12_spread 90 = .ok (.getfield 110, 3) := by decide +kernel
theorem dX12_spread_93 : decode cX12_spread 93 = .ok (.iload 4, 2) := by decide +kernel
theorem dX12_spread_95 : decode cX12_spread 95 = .ok (.laload, 1) := by decide +kernel
theorem dX12_spread_96 : decode cX12_spread 96 = .ok (.invokestatic 385, 3) := by decide +kernel
theorem dX12_spread_99 : decode cX12_spread 99 = .ok (.ifCond .ne 7, 3) := by decide +kernel
theorem dX12_spread_106 : decode cX12_spread 106 = .ok (.iconst 0, 1) := by decide +kernel
theorem dX12_spread_107 : decode cX12_spread 107 = .ok (.ireturn, 1) := by decide +kernel
theorem dX12_spread_102 : decode cX12_spread 102 = .ok (.iconst 1, 1) := by decide +kernel
theorem dX12_spread_103 : decode cX12_spread 103 = .ok (.goto 4, 3) := by decide +kernel
theorem rg_503 : ∀ q, q ∈ [45, 46] → q ∈ [45, 46] := by decide
theorem rg_504 : 29 ∉ [45, 46] := by decide
def ow_n_showRow : List Cond := [.fieldLink RX12 240 "NearEnoughModel" "bank" "I", .fieldLink RX12 42 "NearEnoughModel" "sA" "[I", .fieldLink RX12 36 "NearEnoughModel" "rMost" "[I", .fieldLink RX12 33 "NearEnoughModel" "rLeast" "[I", .fieldLink RX12 30 "NearEnoughModel" "rHas" "[I", .fieldLink RX12 39 "NearEnoughModel" "sKind" "[I", .fieldLink RX12 379 "NearEnoughModel" "spanLow" "J", .fieldLink RX12 382 "NearEnoughModel" "spanHigh" "J"]
def vs_n_showRow : List Cond := .code yX12_showRow cX12_showRow 9 none :: (ow_n_showRow ++ (wsX120))
theorem vg_n_showRow : vs_n_showRow.all goodWord = true := by decide +kernel
theorem dd_n_showRow : yX12_showRow.cls = RX12 ∧ yX12_showRow.cls ≠ "java/lang/invoke/MethodHandle" ∧ yX12_showRow.cls ≠ "java/lang/invoke/VarHandle" ∧ (parseMethodDescriptor yX12_showRow.desc).map (fun d => d.parameters.length) = some 3 := by decide +kernel
def rm_n_showRow : Room := { frames := 0, cells := 0, slots := 0, locals := 0 }
set_option maxHeartbeats 4000000 in
set_option maxRecDepth 100000 in
theorem n_showRow (l : Launch) (dC : Nat → ClassId) (dI : Nat → Nat → Nat) (h : Nat) (ad : Nat → Nat) (cl : Nat → ClassId) (sz : Nat) (σ : MS) (x9 : Int32) (k9 : Int32) (n9 : Int32) (hI : Inv σ) (hx9 : 0 ≤ x9.toInt ∧ x9.toInt ≤ 23) (hk9 : k9.toInt = 5 ∨ k9.toInt = 6) (ha9 : 0 ≤ (σ.2.1 18 x9.toNatClampNeg).toInt ∧ (σ.2.1 18 x9.toNatClampNeg).toInt ≤ 1) : Met l yX12_showRow vs_n_showRow rm_n_showRow (va_Pc [.ref h, .int x9, .int k9, .int n9] (wSt dC dI (mW h ad cl σ) (mT cl) sz)) (va_Qv (fun (τ : MS) => Inv τ ∧ eqx [45, 46] τ σ ∧ τ.2.2.2 45 = rwLo (cor σ) (2 * (σ.1 29).toNatClampNeg + (σ.2.1 18 x9.toNatClampNeg).toNatClampNeg) (σ.2.1 17 x9.toNatClampNeg).toInt k9.toInt n9 (σ.2.2.2 45) ∧ τ.2.2.2 46 = rwHi (cor σ) (2 * (σ.1 29).toNatClampNeg + (σ.2.1 18 x9.toNatClampNeg).toNatClampNeg) (σ.2.1 17 x9.toNatClampNeg).toInt k9.toInt n9 (σ.2.2.2 46)) (fun (τ : MS) => wEn dC dI (va_A (mW h ad cl σ) sz) (mW h ad cl τ) []) (va_A (mW h ad cl σ) sz)) 0 0 (va_A (mW h ad cl σ) sz) := by
  refine Met.ofW (cc := cX12_showRow) (maxL := 9) (ret := none) (by decide) rfl ?_
  intro p e s m args below meth c s₁ B hml hv
  obtain ⟨rfl, hsz, hP, hK, hD0, hE⟩ := hv
  have hx := B.exec
  have hb := B.bytes
  have hr := B.returns
  have hts := atoms_spec (ws := vs_n_showRow) B.pre
  have hown : s.vm.findClass RX12 = some m.cls := findClass_of_methodNamed B.named
  have hlocks := B.notSynchronized
  subst hsz
  have hD := hD0.self (sz := s.heap.size)
  generalize hAe : va_A (mW h ad cl σ) s.heap.size = A at hD ⊢
  have hA : ∀ q : Nat, s.heap.size ≤ q → A q := fun q h => by rw [← hAe]; exact Or.inr h
  have hl := lv_entry ([.ref h, .int x9, .int k9, .int n9]) (n := 9) (Nat.le_of_ble_eq_true rfl)
  rw [lg_entry_eq]
  generalize (lg_sl ([.ref h, .int x9, .int k9, .int n9]) ++ List.replicate (9 - (lg_sl ([.ref h, .int x9, .int k9, .int n9])).length) Slot.unset).toArray = ls at hl ⊢
  have hl : lv_has ls 9 [(0, .ref h), (1, .int x9), (2, .int k9), (3, .int n9)] := hl
  have ho := fun w (h : w ∈ ow_n_showRow) => hts w (List.mem_cons_of_mem _ (List.mem_append_left _ h))
  have hin12 : ∀ w ∈ u_ws RX12 TX12 59, w ∈ vs_n_showRow := fun w h => (List.mem_cons_of_mem _ (List.mem_append_right _ h))
  refine zQ (fun Q hQ => ?_)
  refine zH (A := A) (ws := mW h ad cl σ) (fun H hP hS => ?_) hP
  have bσ_29 : 0 ≤ (σ.1 29).toInt ∧ (σ.1 29).toInt ≤ 1 := hI.1 29
  refine lv_iconst (v := 2) hx hb dX12_showRow_0 rg_19 ?_
  refine lv_aload_n hx hb dX12_showRow_1 rfl (lv_at hl 0 rfl) ?_
  refine va_get (D := (dC, dI)) (ci := 12) (v := .int (σ.1 29)) (C := RX12) (T := TX12) (N := 59) hx hb hts hin12 hown hK hP 0 rfl rfl 29 (Nat.le_of_ble_eq_true rfl) (ho (.fieldLink RX12 240 "NearEnoughModel" "bank" "I") (List.mem_of_getElem? (i := 0) rfl)) (fun _ h9 => h9) rfl dX12_showRow_2 ?_
  have bσ_29 : 0 ≤ (σ.1 29).toInt ∧ (σ.1 29).toInt ≤ 1 := hI.1 29
  refine lv_imul hx hb dX12_showRow_5 ?_
  refine lv_topi (fun z1_ ez1_ => ?_)
  have o1 : -2147483648 ≤ 2 * (σ.1 29).toInt := by omega
  have o2 : 2 * (σ.1 29).toInt ≤ 2147483647 := by omega
  have tz1_ : z1_.toInt = 2 * (σ.1 29).toInt := ti_mul ez1_ rg_20 rfl o1 o2
  refine lv_aload_n hx hb dX12_showRow_6 rfl (lv_at hl 0 rfl) ?_
  refine va_get (D := (dC, dI)) (ci := 12) (v := .ref (ad 18)) (C := RX12) (T := TX12) (N := 59) hx hb hts hin12 hown hK hP 0 rfl rfl 18 (Nat.le_of_ble_eq_true rfl) (ho (.fieldLink RX12 42 "NearEnoughModel" "sA" "[I") (List.mem_of_getElem? (i := 1) rfl)) (fun _ h9 => h9) rfl dX12_showRow_7 ?_
  refine lv_iload_n hx hb dX12_showRow_10 rfl (lv_at hl 1 rfl) ?_
  have o3 : 0 ≤ x9.toInt := by omega
  have o4 : x9.toInt < ((24 : Nat) : Int) := by omega
  refine va_iald hx hb hK hP 10 9 rfl rfl (ti_inx o3 o4) dX12_showRow_11 ?_
  refine lv_topi (fun z2_ ez2_ => ?_)
  have gz2_ : z2_.toInt = ((σ.2.1 18) (Int32.toNatClampNeg x9)).toInt := congrArg Int32.toInt (ez2_.trans (congrFun rfl (Int32.toNatClampNeg x9)))
  have bz2_ : (-1) ≤ z2_.toInt ∧ z2_.toInt ≤ 11 := by rw [ez2_]; exact (hI.2 18) _ (cl_lt (n := 24) o3 o4)
  refine lv_iadd hx hb dX12_showRow_12 ?_
  refine lv_topi (fun z3_ ez3_ => ?_)
  have o5 : -2147483648 ≤ z1_.toInt + z2_.toInt := by omega
  have o6 : z1_.toInt + z2_.toInt ≤ 2147483647 := by omega
  have tz3_ : z3_.toInt = z1_.toInt + z2_.toInt := ti_add ez3_ rfl rfl o5 o6
  refine lv_istore (lv' := [(4, .int z3_), (0, .ref h), (1, .int x9), (2, .int k9), (3, .int n9)]) hx hb dX12_showRow_13 hl (Nat.le_of_ble_eq_true rfl) rfl (fun ls hl => ?_)
  have o7 : 0 ≤ z2_.toInt := by omega
  have o8 : z3_.toInt = 2 * (σ.1 29).toInt + z2_.toInt := by omega
  have Xz3_ : z3_.toNatClampNeg = (2 * (σ.1 29).toNatClampNeg + (σ.2.1 18 x9.toNatClampNeg).toNatClampNeg) := by rw [← ez2_]; exact row_x (hI.1 29).1 o7 o8
  refine lv_aload_n hx hb dX12_showRow_15 rfl (lv_at hl 1 rfl) ?_
  refine va_get (D := (dC, dI)) (ci := 12) (v := .ref (ad 16)) (C := RX12) (T := TX12) (N := 59) hx hb hts hin12 hown hK hP 0 rfl rfl 16 (Nat.le_of_ble_eq_true rfl) (ho (.fieldLink RX12 36 "NearEnoughModel" "rMost" "[I") (List.mem_of_getElem? (i := 2) rfl)) (fun _ h9 => h9) rfl dX12_showRow_16 ?_
  refine lv_iload hx hb dX12_showRow_19 (lv_at hl 0 rfl) ?_
  have o9 : 0 ≤ z3_.toInt := by omega
  have o10 : z3_.toInt < ((4 : Nat) : Int) := by omega
  refine va_iald hx hb hK hP 8 7 rfl rfl (ti_inx o9 o10) dX12_showRow_21 ?_
  refine lv_topi (fun z4_ ez4_ => ?_)
  have gz4_ : z4_.toInt = ((σ.2.1 16) (Int32.toNatClampNeg z3_)).toInt := congrArg Int32.toInt (ez4_.trans (congrFun rfl (Int32.toNatClampNeg z3_)))
  refine lv_aload_n hx hb dX12_showRow_22 rfl (lv_at hl 1 rfl) ?_
  refine va_get (D := (dC, dI)) (ci := 12) (v := .ref (ad 15)) (C := RX12) (T := TX12) (N := 59) hx hb hts hin12 hown hK hP 0 rfl rfl 15 (Nat.le_of_ble_eq_true rfl) (ho (.fieldLink RX12 33 "NearEnoughModel" "rLeast" "[I") (List.mem_of_getElem? (i := 3) rfl)) (fun _ h9 => h9) rfl dX12_showRow_23 ?_
  refine lv_iload hx hb dX12_showRow_26 (lv_at hl 0 rfl) ?_
  refine va_iald hx hb hK hP 7 6 rfl rfl (ti_inx o9 o10) dX12_showRow_28 ?_
  refine lv_topi (fun z5_ ez5_ => ?_)
  have gz5_ : z5_.toInt = ((σ.2.1 15) (Int32.toNatClampNeg z3_)).toInt := congrArg Int32.toInt (ez5_.trans (congrFun rfl (Int32.toNatClampNeg z3_)))
  refine lv_isub hx hb dX12_showRow_29 ?_
  refine lv_topi (fun z6_ ez6_ => ?_)
  refine lv_i2l hx hb dX12_showRow_30 rfl ?_
  refine lv_topl (fun y7_ ey7_ => ?_)
  by_cases hsm : (σ.2.1 17 x9.toNatClampNeg).toInt = 0
  · refine lv_lstore (lv' := [(5, .long y7_), (4, .int z3_), (0, .ref h), (1, .int x9), (2, .int k9), (3, .int n9)]) hx hb dX12_showRow_31 hl (Nat.le_of_ble_eq_true rfl) rfl (fun ls hl => ?_)
    refine lv_aload_n hx hb dX12_showRow_33 rfl (lv_at hl 2 rfl) ?_
    refine va_get (D := (dC, dI)) (ci := 12) (v := .ref (ad 14)) (C := RX12) (T := TX12) (N := 59) hx hb hts hin12 hown hK hP 0 rfl rfl 14 (Nat.le_of_ble_eq_true rfl) (ho (.fieldLink RX12 30 "NearEnoughModel" "rHas" "[I") (List.mem_of_getElem? (i := 4) rfl)) (fun _ h9 => h9) rfl dX12_showRow_34 ?_
    refine lv_iload hx hb dX12_showRow_37 (lv_at hl 1 rfl) ?_
    have o11 : 0 ≤ z3_.toInt := by omega
    have o12 : z3_.toInt < ((4 : Nat) : Int) := by omega
    refine va_iald hx hb hK hP 6 5 rfl rfl (ti_inx o11 o12) dX12_showRow_39 ?_
    refine lv_topi (fun z8_ ez8_ => ?_)
    have gz8_ : z8_.toInt = ((σ.2.1 14) (Int32.toNatClampNeg z3_)).toInt := congrArg Int32.toInt (ez8_.trans (congrFun rfl (Int32.toNatClampNeg z3_)))
    have bz8_ : 0 ≤ z8_.toInt ∧ z8_.toInt ≤ 6 := by rw [ez8_]; exact (hI.2 14) _ (cl_lt (n := 4) o11 o12)
    refine lv_iload_n hx hb dX12_showRow_40 rfl (lv_at hl 5 rfl) ?_
    refine lv_isub hx hb dX12_showRow_41 ?_
    refine lv_topi (fun z9_ ez9_ => ?_)
    refine lv_i2l hx hb dX12_showRow_42 rfl ?_
    refine lv_topl (fun y10_ ey10_ => ?_)
    refine lv_lstore (lv' := [(7, .long y10_), (5, .long y7_), (4, .int z3_), (0, .ref h), (1, .int x9), (2, .int k9), (3, .int n9)]) hx hb dX12_showRow_43 hl (Nat.le_of_ble_eq_true rfl) rfl (fun ls hl => ?_)
    refine lv_iload_n hx hb dX12_showRow_45 rfl (lv_at hl 5 rfl) ?_
    refine lv_bipush (v := 6) hx hb dX12_showRow_46 rg_55 ?_
    refine lv_icmp_ne (tgt := 94) hx hb dX12_showRow_48 rfl (fun c11_ => ?_) (fun c11_ => ?_)
    · have tc11_ := (show k9.toInt ≠ 6 from ti_ne rfl rg_70 c11_)
      refine lv_lload hx hb dX12_showRow_94 (lv_at hl 0 rfl) ?_
      refine lv_lconst (v := 0) hx hb dX12_showRow_96 (by decide) ?_
      refine W.lcmp hx hb dX12_showRow_97 ?_
      refine lv_topi (fun z12_ ez12_ => ?_)
      refine lv_if_le (tgt := 161) hx hb dX12_showRow_98 rfl (fun c13_ => ?_) (fun c13_ => ?_)
      · have tc13_ := (show z12_.toInt ≤ 0 from ti_le rfl rg_11 c13_)
        have lc13_ : y10_ ≤ 0 := (lg_cmp_le y10_ 0).mp (by rw [← ez12_]; exact c13_)
        rw [hQ]
        have o13 : ¬ k9.toInt = 6 := by omega
        have L14_ : ¬ (0 < (cor σ 14 (2 * (σ.1 29).toNatClampNeg + (σ.2.1 18 x9.toNatClampNeg).toNatClampNeg) - n9).toInt64) := by have h8 := Int64.not_lt.mpr lc13_; simp only [ez1_, ez2_, ez4_, ez5_, ez6_, ey7_, ez8_, ez9_, ey10_, ez12_, Xz3_] at h8; exact h8
        have L15_ : ¬ (0 < (cor σ 14 (2 * (σ.1 29).toNatClampNeg + (σ.2.1 18 x9.toNatClampNeg).toNatClampNeg) - n9).toInt64) := by have h8 := Int64.not_lt.mpr lc13_; simp only [ez1_, ez2_, ez4_, ez5_, ez6_, ey7_, ez8_, ez9_, ey10_, ez12_, Xz3_] at h8; exact h8
        have R16_ : (σ.2.2.2 45) = rwLo (cor σ) (2 * (σ.1 29).toNatClampNeg + (σ.2.1 18 x9.toNatClampNeg).toNatClampNeg) (σ.2.1 17 x9.toNatClampNeg).toInt k9.toInt n9 (σ.2.2.2 45) := by unfold rwLo; rw [if_neg o13, if_neg L14_] <;> (simp only [rFar, ez1_, ez2_, ez4_, ez5_, ez6_, ey7_, ez8_, ez9_, ey10_, ez12_, Xz3_] <;> rfl)
        have R17_ : (σ.2.2.2 46) = rwHi (cor σ) (2 * (σ.1 29).toNatClampNeg + (σ.2.1 18 x9.toNatClampNeg).toNatClampNeg) (σ.2.1 17 x9.toNatClampNeg).toInt k9.toInt n9 (σ.2.2.2 46) := by unfold rwHi; rw [if_neg o13, if_neg L15_] <;> (simp only [rFar, ez1_, ez2_, ez4_, ez5_, ez6_, ey7_, ez8_, ez9_, ey10_, ez12_, Xz3_] <;> rfl)
        exact W.vret hx hb hr (fun t ht hW => ⟨⟨σ, rfl, ⟨hI, eqx.rf, R16_, R17_⟩, wEn_of hP (hK.sub [] rfl) hD ht hW⟩, hS.F ht⟩) hS.2.2 dX12_showRow_161
      · have tc13_ := (show 0 < z12_.toInt from ti_nle rfl rg_11 c13_)
        have lc13_ : ¬ y10_ ≤ 0 := fun h => c13_ (by rw [ez12_]; exact (lg_cmp_le y10_ 0).mpr h)
        refine lv_aload_n hx hb dX12_showRow_101 rfl (lv_at hl 3 rfl) ?_
        refine lv_aload_n hx hb dX12_showRow_102 rfl (lv_at hl 3 rfl) ?_
        refine va_get (D := (dC, dI)) (ci := 12) (v := .ref (ad 17)) (C := RX12) (T := TX12) (N := 59) hx hb hts hin12 hown hK hP 0 rfl rfl 17 (Nat.le_of_ble_eq_true rfl) (ho (.fieldLink RX12 39 "NearEnoughModel" "sKind" "[I") (List.mem_of_getElem? (i := 5) rfl)) (fun _ h9 => h9) rfl dX12_showRow_103 ?_
        refine lv_iload_n hx hb dX12_showRow_106 rfl (lv_at hl 4 rfl) ?_
        have o14 : 0 ≤ x9.toInt := by omega
        have o15 : x9.toInt < ((24 : Nat) : Int) := by omega
        refine va_iald hx hb hK hP 9 8 rfl rfl (ti_inx o14 o15) dX12_showRow_107 ?_
        refine lv_topi (fun z18_ ez18_ => ?_)
        have gz18_ : z18_.toInt = ((σ.2.1 17) (Int32.toNatClampNeg x9)).toInt := congrArg Int32.toInt (ez18_.trans (congrFun rfl (Int32.toNatClampNeg x9)))
        have bz18_ : 0 ≤ z18_.toInt ∧ z18_.toInt ≤ 7 := by rw [ez18_]; exact (hI.2 17) _ (cl_lt (n := 24) o14 o15)
        have o16 : z18_.toInt = 0 := by omega
        refine lv_if_ne (tgt := 126) hx hb dX12_showRow_108 rfl (fun cc => absurd o16 (ti_ne rfl rg_11 cc)) (fun _ => ?_)
        refine lv_lload hx hb dX12_showRow_111 (lv_at hl 0 rfl) ?_
        refine lv_lneg hx hb dX12_showRow_113 ?_
        refine lv_topl (fun y20_ ey20_ => ?_)
        refine lv_aload_n hx hb dX12_showRow_114 rfl (lv_at hl 3 rfl) ?_
        refine va_get (D := (dC, dI)) (ci := 12) (v := .ref (ad 16)) (C := RX12) (T := TX12) (N := 59) hx hb hts hin12 hown hK hP 0 rfl rfl 16 (Nat.le_of_ble_eq_true rfl) (ho (.fieldLink RX12 36 "NearEnoughModel" "rMost" "[I") (List.mem_of_getElem? (i := 2) rfl)) (fun _ h9 => h9) rfl dX12_showRow_115 ?_
        refine lv_iload hx hb dX12_showRow_118 (lv_at hl 2 rfl) ?_
        refine va_iald hx hb hK hP 8 7 rfl rfl (ti_inx o11 o12) dX12_showRow_120 ?_
        refine lv_topi (fun z21_ ez21_ => ?_)
        have qq22_ : z21_.toInt = z4_.toInt := congrArg Int32.toInt ((ez21_.trans (congrFun rfl (Int32.toNatClampNeg z3_))).trans ((ez4_.trans (congrFun rfl (Int32.toNatClampNeg z3_)))).symm)
        have gz21_ : z21_.toInt = ((σ.2.1 16) (Int32.toNatClampNeg z3_)).toInt := congrArg Int32.toInt (ez21_.trans (congrFun rfl (Int32.toNatClampNeg z3_)))
        refine lv_i2l hx hb dX12_showRow_121 rfl ?_
        refine lv_topl (fun y23_ ey23_ => ?_)
        refine lv_lmul hx hb dX12_showRow_122 ?_
        refine lv_topl (fun y24_ ey24_ => ?_)
        refine lv_goto (tgt := 129) hx hb dX12_showRow_123 rfl ?_
        refine va_put (D := (dC, dI)) (ci := 12) (v := .long y24_) (ty := tyX12 45) (C := RX12) (T := TX12) (N := 59) hx hb hts hin12 tyX12 tyX12_ok nmX12 hown hK hP hD hS 0 rfl rfl 45 (Nat.le_of_ble_eq_true rfl) (ho (.fieldLink RX12 379 "NearEnoughModel" "spanLow" "J") (List.mem_of_getElem? (i := 6) rfl)) (fun _ h9 => h9) rfl (tyX12_ok 45 (Nat.le_of_ble_eq_true rfl)) rfl rfl (Nat.le_of_ble_eq_true rfl) dX12_showRow_129 (fun H locs hP hD hS => ?_)
        have hP : va_P (dC, dI) vwCl (mW h ad cl (sL σ 45 y24_)) H := hP
        have hD : va_D A (mW h ad cl (sL σ 45 y24_)) := hD
        refine lv_aload_n hx hb dX12_showRow_132 rfl (lv_at hl 3 rfl) ?_
        refine lv_aload_n hx hb dX12_showRow_133 rfl (lv_at hl 3 rfl) ?_
        refine va_get (D := (dC, dI)) (ci := 12) (v := .ref (ad 17)) (C := RX12) (T := TX12) (N := 59) hx hb hts hin12 hown hK hP 0 rfl rfl 17 (Nat.le_of_ble_eq_true rfl) (ho (.fieldLink RX12 39 "NearEnoughModel" "sKind" "[I") (List.mem_of_getElem? (i := 5) rfl)) (fun _ h9 => h9) rfl dX12_showRow_134 ?_
        refine lv_iload_n hx hb dX12_showRow_137 rfl (lv_at hl 4 rfl) ?_
        refine va_iald hx hb hK hP 9 8 rfl rfl (ti_inx o14 o15) dX12_showRow_138 ?_
        refine lv_topi (fun z25_ ez25_ => ?_)
        have qq26_ : z25_.toInt = z18_.toInt := congrArg Int32.toInt ((ez25_.trans (congrFun tL (Int32.toNatClampNeg x9))).trans ((ez18_.trans (congrFun rfl (Int32.toNatClampNeg x9)))).symm)
        have gz25_ : z25_.toInt = ((σ.2.1 17) (Int32.toNatClampNeg x9)).toInt := congrArg Int32.toInt (ez25_.trans (congrFun tL (Int32.toNatClampNeg x9)))
        have bz25_ : 0 ≤ z25_.toInt ∧ z25_.toInt ≤ 7 := by rw [ez25_]; exact (hI.2 17) _ (cl_lt (n := 24) o14 o15)
        have o17 : z25_.toInt = 0 := by omega
        refine lv_if_ne (tgt := 157) hx hb dX12_showRow_139 rfl (fun cc => absurd o17 (ti_ne rfl rg_11 cc)) (fun _ => ?_)
        refine lv_lload hx hb dX12_showRow_142 (lv_at hl 0 rfl) ?_
        refine lv_lneg hx hb dX12_showRow_144 ?_
        refine lv_topl (fun y28_ ey28_ => ?_)
        refine lv_aload_n hx hb dX12_showRow_145 rfl (lv_at hl 3 rfl) ?_
        refine va_get (D := (dC, dI)) (ci := 12) (v := .ref (ad 15)) (C := RX12) (T := TX12) (N := 59) hx hb hts hin12 hown hK hP 0 rfl rfl 15 (Nat.le_of_ble_eq_true rfl) (ho (.fieldLink RX12 33 "NearEnoughModel" "rLeast" "[I") (List.mem_of_getElem? (i := 3) rfl)) (fun _ h9 => h9) rfl dX12_showRow_146 ?_
        refine lv_iload hx hb dX12_showRow_149 (lv_at hl 2 rfl) ?_
        refine va_iald hx hb hK hP 7 6 rfl rfl (ti_inx o11 o12) dX12_showRow_151 ?_
        refine lv_topi (fun z29_ ez29_ => ?_)
        have qq30_ : z29_.toInt = z5_.toInt := congrArg Int32.toInt ((ez29_.trans (congrFun tL (Int32.toNatClampNeg z3_))).trans ((ez5_.trans (congrFun rfl (Int32.toNatClampNeg z3_)))).symm)
        have gz29_ : z29_.toInt = ((σ.2.1 15) (Int32.toNatClampNeg z3_)).toInt := congrArg Int32.toInt (ez29_.trans (congrFun tL (Int32.toNatClampNeg z3_)))
        refine lv_i2l hx hb dX12_showRow_152 rfl ?_
        refine lv_topl (fun y31_ ey31_ => ?_)
        refine lv_lmul hx hb dX12_showRow_153 ?_
        refine lv_topl (fun y32_ ey32_ => ?_)
        refine lv_goto (tgt := 158) hx hb dX12_showRow_154 rfl ?_
        refine va_put (D := (dC, dI)) (ci := 12) (v := .long y32_) (ty := tyX12 46) (C := RX12) (T := TX12) (N := 59) hx hb hts hin12 tyX12 tyX12_ok nmX12 hown hK hP hD hS 0 rfl rfl 46 (Nat.le_of_ble_eq_true rfl) (ho (.fieldLink RX12 382 "NearEnoughModel" "spanHigh" "J") (List.mem_of_getElem? (i := 7) rfl)) (fun _ h9 => h9) rfl (tyX12_ok 46 (Nat.le_of_ble_eq_true rfl)) rfl rfl (Nat.le_of_ble_eq_true rfl) dX12_showRow_158 (fun H locs hP hD hS => ?_)
        have hP : va_P (dC, dI) vwCl (mW h ad cl (sL (sL σ 45 y24_) 46 y32_)) H := hP
        have hD : va_D A (mW h ad cl (sL (sL σ 45 y24_) 46 y32_)) := hD
        rw [hQ]
        have o18 : ¬ k9.toInt = 6 := by omega
        have L33_ : 0 < (cor σ 14 (2 * (σ.1 29).toNatClampNeg + (σ.2.1 18 x9.toNatClampNeg).toNatClampNeg) - n9).toInt64 := by have h8 := Int64.not_le.mp lc13_; simp only [ez1_, ez2_, ez4_, ez5_, ez6_, ey7_, ez8_, ez9_, ey10_, ez12_, ez18_, ey20_, ez21_, ey23_, ey24_, ez25_, ey28_, ez29_, ey31_, ey32_, Xz3_] at h8; exact h8
        have o19 : (σ.2.1 17 x9.toNatClampNeg).toInt = 0 := by omega
        have L34_ : 0 < (cor σ 14 (2 * (σ.1 29).toNatClampNeg + (σ.2.1 18 x9.toNatClampNeg).toNatClampNeg) - n9).toInt64 := by have h8 := Int64.not_le.mp lc13_; simp only [ez1_, ez2_, ez4_, ez5_, ez6_, ey7_, ez8_, ez9_, ey10_, ez12_, ez18_, ey20_, ez21_, ey23_, ey24_, ez25_, ey28_, ez29_, ey31_, ey32_, Xz3_] at h8; exact h8
        have R35_ : y24_ = rwLo (cor σ) (2 * (σ.1 29).toNatClampNeg + (σ.2.1 18 x9.toNatClampNeg).toNatClampNeg) (σ.2.1 17 x9.toNatClampNeg).toInt k9.toInt n9 (σ.2.2.2 45) := by unfold rwLo; rw [if_neg o18, if_pos L33_, if_pos o19] <;> (simp only [rFar, ez1_, ez2_, ez4_, ez5_, ez6_, ey7_, ez8_, ez9_, ey10_, ez12_, ez18_, ey20_, ez21_, ey23_, ey24_, ez25_, ey28_, ez29_, ey31_, ey32_, Xz3_] <;> rfl)
        have R36_ : y32_ = rwHi (cor σ) (2 * (σ.1 29).toNatClampNeg + (σ.2.1 18 x9.toNatClampNeg).toNatClampNeg) (σ.2.1 17 x9.toNatClampNeg).toInt k9.toInt n9 (σ.2.2.2 46) := by unfold rwHi; rw [if_neg o18, if_pos L34_, if_pos o19] <;> (simp only [rFar, ez1_, ez2_, ez4_, ez5_, ez6_, ey7_, ez8_, ez9_, ey10_, ez12_, ez18_, ey20_, ez21_, ey23_, ey24_, ez25_, ey28_, ez29_, ey31_, ey32_, Xz3_] <;> rfl)
        exact W.vret hx hb hr (fun t ht hW => ⟨⟨(sL (sL σ 45 y24_) 46 y32_), rfl, ⟨(Inv.sL (Inv.sL hI)), (eqx.sL (eqx.sL eqx.rf rg_498) rg_499), R35_, R36_⟩, wEn_of hP (hK.sub [] rfl) hD ht hW⟩, hS.F ht⟩) hS.2.2 dX12_showRow_161
    · have tc11_ := (show k9.toInt = 6 from ti_eq rfl rg_70 c11_)
      refine lv_aload_n hx hb dX12_showRow_51 rfl (lv_at hl 3 rfl) ?_
      refine lv_aload_n hx hb dX12_showRow_52 rfl (lv_at hl 3 rfl) ?_
      refine va_get (D := (dC, dI)) (ci := 12) (v := .ref (ad 17)) (C := RX12) (T := TX12) (N := 59) hx hb hts hin12 hown hK hP 0 rfl rfl 17 (Nat.le_of_ble_eq_true rfl) (ho (.fieldLink RX12 39 "NearEnoughModel" "sKind" "[I") (List.mem_of_getElem? (i := 5) rfl)) (fun _ h9 => h9) rfl dX12_showRow_53 ?_
      refine lv_iload_n hx hb dX12_showRow_56 rfl (lv_at hl 4 rfl) ?_
      have o20 : 0 ≤ x9.toInt := by omega
      have o21 : x9.toInt < ((24 : Nat) : Int) := by omega
      refine va_iald hx hb hK hP 9 8 rfl rfl (ti_inx o20 o21) dX12_showRow_57 ?_
      refine lv_topi (fun z37_ ez37_ => ?_)
      have gz37_ : z37_.toInt = ((σ.2.1 17) (Int32.toNatClampNeg x9)).toInt := congrArg Int32.toInt (ez37_.trans (congrFun rfl (Int32.toNatClampNeg x9)))
      have bz37_ : 0 ≤ z37_.toInt ∧ z37_.toInt ≤ 7 := by rw [ez37_]; exact (hI.2 17) _ (cl_lt (n := 24) o20 o21)
      have o22 : z37_.toInt = 0 := by omega
      refine lv_if_ne (tgt := 76) hx hb dX12_showRow_58 rfl (fun cc => absurd o22 (ti_ne rfl rg_11 cc)) (fun _ => ?_)
      refine lv_aload_n hx hb dX12_showRow_61 rfl (lv_at hl 3 rfl) ?_
      refine va_get (D := (dC, dI)) (ci := 12) (v := .ref (ad 14)) (C := RX12) (T := TX12) (N := 59) hx hb hts hin12 hown hK hP 0 rfl rfl 14 (Nat.le_of_ble_eq_true rfl) (ho (.fieldLink RX12 30 "NearEnoughModel" "rHas" "[I") (List.mem_of_getElem? (i := 4) rfl)) (fun _ h9 => h9) rfl dX12_showRow_62 ?_
      refine lv_iload hx hb dX12_showRow_65 (lv_at hl 2 rfl) ?_
      refine va_iald hx hb hK hP 6 5 rfl rfl (ti_inx o11 o12) dX12_showRow_67 ?_
      refine lv_topi (fun z39_ ez39_ => ?_)
      have qq40_ : z39_.toInt = z8_.toInt := congrArg Int32.toInt ((ez39_.trans (congrFun rfl (Int32.toNatClampNeg z3_))).trans ((ez8_.trans (congrFun rfl (Int32.toNatClampNeg z3_)))).symm)
      have gz39_ : z39_.toInt = ((σ.2.1 14) (Int32.toNatClampNeg z3_)).toInt := congrArg Int32.toInt (ez39_.trans (congrFun rfl (Int32.toNatClampNeg z3_)))
      have bz39_ : 0 ≤ z39_.toInt ∧ z39_.toInt ≤ 6 := by rw [ez39_]; exact (hI.2 14) _ (cl_lt (n := 4) o11 o12)
      refine lv_ineg hx hb dX12_showRow_68 ?_
      refine lv_topi (fun z41_ ez41_ => ?_)
      refine lv_i2l hx hb dX12_showRow_69 rfl ?_
      refine lv_topl (fun y42_ ey42_ => ?_)
      refine lv_lload hx hb dX12_showRow_70 (lv_at hl 1 rfl) ?_
      refine lv_lmul hx hb dX12_showRow_72 ?_
      refine lv_topl (fun y43_ ey43_ => ?_)
      refine lv_goto (tgt := 79) hx hb dX12_showRow_73 rfl ?_
      refine va_put (D := (dC, dI)) (ci := 12) (v := .long y43_) (ty := tyX12 45) (C := RX12) (T := TX12) (N := 59) hx hb hts hin12 tyX12 tyX12_ok nmX12 hown hK hP hD hS 0 rfl rfl 45 (Nat.le_of_ble_eq_true rfl) (ho (.fieldLink RX12 379 "NearEnoughModel" "spanLow" "J") (List.mem_of_getElem? (i := 6) rfl)) (fun _ h9 => h9) rfl (tyX12_ok 45 (Nat.le_of_ble_eq_true rfl)) rfl rfl (Nat.le_of_ble_eq_true rfl) dX12_showRow_79 (fun H locs hP hD hS => ?_)
      have hP : va_P (dC, dI) vwCl (mW h ad cl (sL σ 45 y43_)) H := hP
      have hD : va_D A (mW h ad cl (sL σ 45 y43_)) := hD
      refine lv_aload_n hx hb dX12_showRow_82 rfl (lv_at hl 3 rfl) ?_
      refine lv_aload_n hx hb dX12_showRow_83 rfl (lv_at hl 3 rfl) ?_
      refine va_get (D := (dC, dI)) (ci := 12) (v := .long y43_) (C := RX12) (T := TX12) (N := 59) hx hb hts hin12 hown hK hP 0 rfl rfl 45 (Nat.le_of_ble_eq_true rfl) (ho (.fieldLink RX12 379 "NearEnoughModel" "spanLow" "J") (List.mem_of_getElem? (i := 6) rfl)) (fun _ h9 => h9) rfl dX12_showRow_84 ?_
      refine lv_lneg hx hb dX12_showRow_87 ?_
      refine lv_topl (fun y44_ ey44_ => ?_)
      refine va_put (D := (dC, dI)) (ci := 12) (v := .long y44_) (ty := tyX12 46) (C := RX12) (T := TX12) (N := 59) hx hb hts hin12 tyX12 tyX12_ok nmX12 hown hK hP hD hS 0 rfl rfl 46 (Nat.le_of_ble_eq_true rfl) (ho (.fieldLink RX12 382 "NearEnoughModel" "spanHigh" "J") (List.mem_of_getElem? (i := 7) rfl)) (fun _ h9 => h9) rfl (tyX12_ok 46 (Nat.le_of_ble_eq_true rfl)) rfl rfl (Nat.le_of_ble_eq_true rfl) dX12_showRow_88 (fun H locs hP hD hS => ?_)
      have hP : va_P (dC, dI) vwCl (mW h ad cl (sL (sL σ 45 y43_) 46 y44_)) H := hP
      have hD : va_D A (mW h ad cl (sL (sL σ 45 y43_) 46 y44_)) := hD
      refine lv_goto (tgt := 161) hx hb dX12_showRow_91 rfl ?_
      rw [hQ]
      have o23 : k9.toInt = 6 := by omega
      have o24 : (σ.2.1 17 x9.toNatClampNeg).toInt = 0 := by omega
      have R45_ : y43_ = rwLo (cor σ) (2 * (σ.1 29).toNatClampNeg + (σ.2.1 18 x9.toNatClampNeg).toNatClampNeg) (σ.2.1 17 x9.toNatClampNeg).toInt k9.toInt n9 (σ.2.2.2 45) := by unfold rwLo; rw [if_pos o23, if_pos o24] <;> (simp only [rFar, ez1_, ez2_, ez4_, ez5_, ez6_, ey7_, ez8_, ez9_, ey10_, ez37_, ez39_, ez41_, ey42_, ey43_, ey44_, Xz3_] <;> rfl)
      have R46_ : y44_ = rwHi (cor σ) (2 * (σ.1 29).toNatClampNeg + (σ.2.1 18 x9.toNatClampNeg).toNatClampNeg) (σ.2.1 17 x9.toNatClampNeg).toInt k9.toInt n9 (σ.2.2.2 46) := by unfold rwHi; rw [if_pos o23, if_pos o24] <;> (simp only [rFar, ez1_, ez2_, ez4_, ez5_, ez6_, ey7_, ez8_, ez9_, ey10_, ez37_, ez39_, ez41_, ey42_, ey43_, ey44_, Xz3_] <;> rfl)
      exact W.vret hx hb hr (fun t ht hW => ⟨⟨(sL (sL σ 45 y43_) 46 y44_), rfl, ⟨(Inv.sL (Inv.sL hI)), (eqx.sL (eqx.sL eqx.rf rg_498) rg_499), R45_, R46_⟩, wEn_of hP (hK.sub [] rfl) hD ht hW⟩, hS.F ht⟩) hS.2.2 dX12_showRow_161
  · refine lv_lstore (lv' := [(5, .long y7_), (4, .int z3_), (0, .ref h), (1, .int x9), (2, .int k9), (3, .int n9)]) hx hb dX12_showRow_31 hl (Nat.le_of_ble_eq_true rfl) rfl (fun ls hl => ?_)
    refine lv_aload_n hx hb dX12_showRow_33 rfl (lv_at hl 2 rfl) ?_
    refine va_get (D := (dC, dI)) (ci := 12) (v := .ref (ad 14)) (C := RX12) (T := TX12) (N := 59) hx hb hts hin12 hown hK hP 0 rfl rfl 14 (Nat.le_of_ble_eq_true rfl) (ho (.fieldLink RX12 30 "NearEnoughModel" "rHas" "[I") (List.mem_of_getElem? (i := 4) rfl)) (fun _ h9 => h9) rfl dX12_showRow_34 ?_
    refine lv_iload hx hb dX12_showRow_37 (lv_at hl 1 rfl) ?_
    have o25 : 0 ≤ z3_.toInt := by omega
    have o26 : z3_.toInt < ((4 : Nat) : Int) := by omega
    refine va_iald hx hb hK hP 6 5 rfl rfl (ti_inx o25 o26) dX12_showRow_39 ?_
    refine lv_topi (fun z47_ ez47_ => ?_)
    have gz47_ : z47_.toInt = ((σ.2.1 14) (Int32.toNatClampNeg z3_)).toInt := congrArg Int32.toInt (ez47_.trans (congrFun rfl (Int32.toNatClampNeg z3_)))
    have bz47_ : 0 ≤ z47_.toInt ∧ z47_.toInt ≤ 6 := by rw [ez47_]; exact (hI.2 14) _ (cl_lt (n := 4) o25 o26)
    refine lv_iload_n hx hb dX12_showRow_40 rfl (lv_at hl 5 rfl) ?_
    refine lv_isub hx hb dX12_showRow_41 ?_
    refine lv_topi (fun z48_ ez48_ => ?_)
    refine lv_i2l hx hb dX12_showRow_42 rfl ?_
    refine lv_topl (fun y49_ ey49_ => ?_)
    refine lv_lstore (lv' := [(7, .long y49_), (5, .long y7_), (4, .int z3_), (0, .ref h), (1, .int x9), (2, .int k9), (3, .int n9)]) hx hb dX12_showRow_43 hl (Nat.le_of_ble_eq_true rfl) rfl (fun ls hl => ?_)
    refine lv_iload_n hx hb dX12_showRow_45 rfl (lv_at hl 5 rfl) ?_
    refine lv_bipush (v := 6) hx hb dX12_showRow_46 rg_55 ?_
    refine lv_icmp_ne (tgt := 94) hx hb dX12_showRow_48 rfl (fun c50_ => ?_) (fun c50_ => ?_)
    · have tc50_ := (show k9.toInt ≠ 6 from ti_ne rfl rg_70 c50_)
      refine lv_lload hx hb dX12_showRow_94 (lv_at hl 0 rfl) ?_
      refine lv_lconst (v := 0) hx hb dX12_showRow_96 (by decide) ?_
      refine W.lcmp hx hb dX12_showRow_97 ?_
      refine lv_topi (fun z51_ ez51_ => ?_)
      refine lv_if_le (tgt := 161) hx hb dX12_showRow_98 rfl (fun c52_ => ?_) (fun c52_ => ?_)
      · have tc52_ := (show z51_.toInt ≤ 0 from ti_le rfl rg_11 c52_)
        have lc52_ : y49_ ≤ 0 := (lg_cmp_le y49_ 0).mp (by rw [← ez51_]; exact c52_)
        rw [hQ]
        have o27 : ¬ k9.toInt = 6 := by omega
        have L53_ : ¬ (0 < (cor σ 14 (2 * (σ.1 29).toNatClampNeg + (σ.2.1 18 x9.toNatClampNeg).toNatClampNeg) - n9).toInt64) := by have h8 := Int64.not_lt.mpr lc52_; simp only [ez1_, ez2_, ez4_, ez5_, ez6_, ey7_, ez47_, ez48_, ey49_, ez51_, Xz3_] at h8; exact h8
        have L54_ : ¬ (0 < (cor σ 14 (2 * (σ.1 29).toNatClampNeg + (σ.2.1 18 x9.toNatClampNeg).toNatClampNeg) - n9).toInt64) := by have h8 := Int64.not_lt.mpr lc52_; simp only [ez1_, ez2_, ez4_, ez5_, ez6_, ey7_, ez47_, ez48_, ey49_, ez51_, Xz3_] at h8; exact h8
        have R55_ : (σ.2.2.2 45) = rwLo (cor σ) (2 * (σ.1 29).toNatClampNeg + (σ.2.1 18 x9.toNatClampNeg).toNatClampNeg) (σ.2.1 17 x9.toNatClampNeg).toInt k9.toInt n9 (σ.2.2.2 45) := by unfold rwLo; rw [if_neg o27, if_neg L53_] <;> (simp only [rFar, ez1_, ez2_, ez4_, ez5_, ez6_, ey7_, ez47_, ez48_, ey49_, ez51_, Xz3_] <;> rfl)
        have R56_ : (σ.2.2.2 46) = rwHi (cor σ) (2 * (σ.1 29).toNatClampNeg + (σ.2.1 18 x9.toNatClampNeg).toNatClampNeg) (σ.2.1 17 x9.toNatClampNeg).toInt k9.toInt n9 (σ.2.2.2 46) := by unfold rwHi; rw [if_neg o27, if_neg L54_] <;> (simp only [rFar, ez1_, ez2_, ez4_, ez5_, ez6_, ey7_, ez47_, ez48_, ey49_, ez51_, Xz3_] <;> rfl)
        exact W.vret hx hb hr (fun t ht hW => ⟨⟨σ, rfl, ⟨hI, eqx.rf, R55_, R56_⟩, wEn_of hP (hK.sub [] rfl) hD ht hW⟩, hS.F ht⟩) hS.2.2 dX12_showRow_161
      · have tc52_ := (show 0 < z51_.toInt from ti_nle rfl rg_11 c52_)
        have lc52_ : ¬ y49_ ≤ 0 := fun h => c52_ (by rw [ez51_]; exact (lg_cmp_le y49_ 0).mpr h)
        refine lv_aload_n hx hb dX12_showRow_101 rfl (lv_at hl 3 rfl) ?_
        refine lv_aload_n hx hb dX12_showRow_102 rfl (lv_at hl 3 rfl) ?_
        refine va_get (D := (dC, dI)) (ci := 12) (v := .ref (ad 17)) (C := RX12) (T := TX12) (N := 59) hx hb hts hin12 hown hK hP 0 rfl rfl 17 (Nat.le_of_ble_eq_true rfl) (ho (.fieldLink RX12 39 "NearEnoughModel" "sKind" "[I") (List.mem_of_getElem? (i := 5) rfl)) (fun _ h9 => h9) rfl dX12_showRow_103 ?_
        refine lv_iload_n hx hb dX12_showRow_106 rfl (lv_at hl 4 rfl) ?_
        have o28 : 0 ≤ x9.toInt := by omega
        have o29 : x9.toInt < ((24 : Nat) : Int) := by omega
        refine va_iald hx hb hK hP 9 8 rfl rfl (ti_inx o28 o29) dX12_showRow_107 ?_
        refine lv_topi (fun z57_ ez57_ => ?_)
        have gz57_ : z57_.toInt = ((σ.2.1 17) (Int32.toNatClampNeg x9)).toInt := congrArg Int32.toInt (ez57_.trans (congrFun rfl (Int32.toNatClampNeg x9)))
        have bz57_ : 0 ≤ z57_.toInt ∧ z57_.toInt ≤ 7 := by rw [ez57_]; exact (hI.2 17) _ (cl_lt (n := 24) o28 o29)
        have o30 : z57_.toInt ≠ 0 := by omega
        refine lv_if_ne (tgt := 126) hx hb dX12_showRow_108 rfl (fun _ => ?_) (fun cc => absurd (ti_eq rfl rg_11 cc) o30)
        refine lv_lload hx hb dX12_showRow_126 (lv_at hl 1 rfl) ?_
        refine lv_lneg hx hb dX12_showRow_128 ?_
        refine lv_topl (fun y59_ ey59_ => ?_)
        refine va_put (D := (dC, dI)) (ci := 12) (v := .long y59_) (ty := tyX12 45) (C := RX12) (T := TX12) (N := 59) hx hb hts hin12 tyX12 tyX12_ok nmX12 hown hK hP hD hS 0 rfl rfl 45 (Nat.le_of_ble_eq_true rfl) (ho (.fieldLink RX12 379 "NearEnoughModel" "spanLow" "J") (List.mem_of_getElem? (i := 6) rfl)) (fun _ h9 => h9) rfl (tyX12_ok 45 (Nat.le_of_ble_eq_true rfl)) rfl rfl (Nat.le_of_ble_eq_true rfl) dX12_showRow_129 (fun H locs hP hD hS => ?_)
        have hP : va_P (dC, dI) vwCl (mW h ad cl (sL σ 45 y59_)) H := hP
        have hD : va_D A (mW h ad cl (sL σ 45 y59_)) := hD
        refine lv_aload_n hx hb dX12_showRow_132 rfl (lv_at hl 3 rfl) ?_
        refine lv_aload_n hx hb dX12_showRow_133 rfl (lv_at hl 3 rfl) ?_
        refine va_get (D := (dC, dI)) (ci := 12) (v := .ref (ad 17)) (C := RX12) (T := TX12) (N := 59) hx hb hts hin12 hown hK hP 0 rfl rfl 17 (Nat.le_of_ble_eq_true rfl) (ho (.fieldLink RX12 39 "NearEnoughModel" "sKind" "[I") (List.mem_of_getElem? (i := 5) rfl)) (fun _ h9 => h9) rfl dX12_showRow_134 ?_
        refine lv_iload_n hx hb dX12_showRow_137 rfl (lv_at hl 4 rfl) ?_
        refine va_iald hx hb hK hP 9 8 rfl rfl (ti_inx o28 o29) dX12_showRow_138 ?_
        refine lv_topi (fun z60_ ez60_ => ?_)
        have qq61_ : z60_.toInt = z57_.toInt := congrArg Int32.toInt ((ez60_.trans (congrFun tL (Int32.toNatClampNeg x9))).trans ((ez57_.trans (congrFun rfl (Int32.toNatClampNeg x9)))).symm)
        have gz60_ : z60_.toInt = ((σ.2.1 17) (Int32.toNatClampNeg x9)).toInt := congrArg Int32.toInt (ez60_.trans (congrFun tL (Int32.toNatClampNeg x9)))
        have bz60_ : 0 ≤ z60_.toInt ∧ z60_.toInt ≤ 7 := by rw [ez60_]; exact (hI.2 17) _ (cl_lt (n := 24) o28 o29)
        have o31 : z60_.toInt ≠ 0 := by omega
        refine lv_if_ne (tgt := 157) hx hb dX12_showRow_139 rfl (fun _ => ?_) (fun cc => absurd (ti_eq rfl rg_11 cc) o31)
        refine lv_lconst (v := 0) hx hb dX12_showRow_157 (by decide) ?_
        refine va_put (D := (dC, dI)) (ci := 12) (v := .long 0) (ty := tyX12 46) (C := RX12) (T := TX12) (N := 59) hx hb hts hin12 tyX12 tyX12_ok nmX12 hown hK hP hD hS 0 rfl rfl 46 (Nat.le_of_ble_eq_true rfl) (ho (.fieldLink RX12 382 "NearEnoughModel" "spanHigh" "J") (List.mem_of_getElem? (i := 7) rfl)) (fun _ h9 => h9) rfl (tyX12_ok 46 (Nat.le_of_ble_eq_true rfl)) rfl rfl (Nat.le_of_ble_eq_true rfl) dX12_showRow_158 (fun H locs hP hD hS => ?_)
        have hP : va_P (dC, dI) vwCl (mW h ad cl (sL (sL σ 45 y59_) 46 0)) H := hP
        have hD : va_D A (mW h ad cl (sL (sL σ 45 y59_) 46 0)) := hD
        rw [hQ]
        have o32 : ¬ k9.toInt = 6 := by omega
        have L63_ : 0 < (cor σ 14 (2 * (σ.1 29).toNatClampNeg + (σ.2.1 18 x9.toNatClampNeg).toNatClampNeg) - n9).toInt64 := by have h8 := Int64.not_le.mp lc52_; simp only [ez1_, ez2_, ez4_, ez5_, ez6_, ey7_, ez47_, ez48_, ey49_, ez51_, ez57_, ey59_, ez60_, Xz3_] at h8; exact h8
        have o33 : ¬ (σ.2.1 17 x9.toNatClampNeg).toInt = 0 := by omega
        have L64_ : 0 < (cor σ 14 (2 * (σ.1 29).toNatClampNeg + (σ.2.1 18 x9.toNatClampNeg).toNatClampNeg) - n9).toInt64 := by have h8 := Int64.not_le.mp lc52_; simp only [ez1_, ez2_, ez4_, ez5_, ez6_, ey7_, ez47_, ez48_, ey49_, ez51_, ez57_, ey59_, ez60_, Xz3_] at h8; exact h8
        have R65_ : y59_ = rwLo (cor σ) (2 * (σ.1 29).toNatClampNeg + (σ.2.1 18 x9.toNatClampNeg).toNatClampNeg) (σ.2.1 17 x9.toNatClampNeg).toInt k9.toInt n9 (σ.2.2.2 45) := by unfold rwLo; rw [if_neg o32, if_pos L63_, if_neg o33] <;> (simp only [rFar, ez1_, ez2_, ez4_, ez5_, ez6_, ey7_, ez47_, ez48_, ey49_, ez51_, ez57_, ey59_, ez60_, Xz3_] <;> rfl)
        have R66_ : 0 = rwHi (cor σ) (2 * (σ.1 29).toNatClampNeg + (σ.2.1 18 x9.toNatClampNeg).toNatClampNeg) (σ.2.1 17 x9.toNatClampNeg).toInt k9.toInt n9 (σ.2.2.2 46) := by unfold rwHi; rw [if_neg o32, if_pos L64_, if_neg o33] <;> (simp only [rFar, ez1_, ez2_, ez4_, ez5_, ez6_, ey7_, ez47_, ez48_, ey49_, ez51_, ez57_, ey59_, ez60_, Xz3_] <;> rfl)
        exact W.vret hx hb hr (fun t ht hW => ⟨⟨(sL (sL σ 45 y59_) 46 0), rfl, ⟨(Inv.sL (Inv.sL hI)), (eqx.sL (eqx.sL eqx.rf rg_498) rg_499), R65_, R66_⟩, wEn_of hP (hK.sub [] rfl) hD ht hW⟩, hS.F ht⟩) hS.2.2 dX12_showRow_161
    · have tc50_ := (show k9.toInt = 6 from ti_eq rfl rg_70 c50_)
      refine lv_aload_n hx hb dX12_showRow_51 rfl (lv_at hl 3 rfl) ?_
      refine lv_aload_n hx hb dX12_showRow_52 rfl (lv_at hl 3 rfl) ?_
      refine va_get (D := (dC, dI)) (ci := 12) (v := .ref (ad 17)) (C := RX12) (T := TX12) (N := 59) hx hb hts hin12 hown hK hP 0 rfl rfl 17 (Nat.le_of_ble_eq_true rfl) (ho (.fieldLink RX12 39 "NearEnoughModel" "sKind" "[I") (List.mem_of_getElem? (i := 5) rfl)) (fun _ h9 => h9) rfl dX12_showRow_53 ?_
      refine lv_iload_n hx hb dX12_showRow_56 rfl (lv_at hl 4 rfl) ?_
      have o34 : 0 ≤ x9.toInt := by omega
      have o35 : x9.toInt < ((24 : Nat) : Int) := by omega
      refine va_iald hx hb hK hP 9 8 rfl rfl (ti_inx o34 o35) dX12_showRow_57 ?_
      refine lv_topi (fun z67_ ez67_ => ?_)
      have gz67_ : z67_.toInt = ((σ.2.1 17) (Int32.toNatClampNeg x9)).toInt := congrArg Int32.toInt (ez67_.trans (congrFun rfl (Int32.toNatClampNeg x9)))
      have bz67_ : 0 ≤ z67_.toInt ∧ z67_.toInt ≤ 7 := by rw [ez67_]; exact (hI.2 17) _ (cl_lt (n := 24) o34 o35)
      have o36 : z67_.toInt ≠ 0 := by omega
      refine lv_if_ne (tgt := 76) hx hb dX12_showRow_58 rfl (fun _ => ?_) (fun cc => absurd (ti_eq rfl rg_11 cc) o36)
      refine lv_lload hx hb dX12_showRow_76 (lv_at hl 1 rfl) ?_
      refine lv_lneg hx hb dX12_showRow_78 ?_
      refine lv_topl (fun y69_ ey69_ => ?_)
      refine va_put (D := (dC, dI)) (ci := 12) (v := .long y69_) (ty := tyX12 45) (C := RX12) (T := TX12) (N := 59) hx hb hts hin12 tyX12 tyX12_ok nmX12 hown hK hP hD hS 0 rfl rfl 45 (Nat.le_of_ble_eq_true rfl) (ho (.fieldLink RX12 379 "NearEnoughModel" "spanLow" "J") (List.mem_of_getElem? (i := 6) rfl)) (fun _ h9 => h9) rfl (tyX12_ok 45 (Nat.le_of_ble_eq_true rfl)) rfl rfl (Nat.le_of_ble_eq_true rfl) dX12_showRow_79 (fun H locs hP hD hS => ?_)
      have hP : va_P (dC, dI) vwCl (mW h ad cl (sL σ 45 y69_)) H := hP
      have hD : va_D A (mW h ad cl (sL σ 45 y69_)) := hD
      refine lv_aload_n hx hb dX12_showRow_82 rfl (lv_at hl 3 rfl) ?_
      refine lv_aload_n hx hb dX12_showRow_83 rfl (lv_at hl 3 rfl) ?_
      refine va_get (D := (dC, dI)) (ci := 12) (v := .long y69_) (C := RX12) (T := TX12) (N := 59) hx hb hts hin12 hown hK hP 0 rfl rfl 45 (Nat.le_of_ble_eq_true rfl) (ho (.fieldLink RX12 379 "NearEnoughModel" "spanLow" "J") (List.mem_of_getElem? (i := 6) rfl)) (fun _ h9 => h9) rfl dX12_showRow_84 ?_
      refine lv_lneg hx hb dX12_showRow_87 ?_
      refine lv_topl (fun y70_ ey70_ => ?_)
      refine va_put (D := (dC, dI)) (ci := 12) (v := .long y70_) (ty := tyX12 46) (C := RX12) (T := TX12) (N := 59) hx hb hts hin12 tyX12 tyX12_ok nmX12 hown hK hP hD hS 0 rfl rfl 46 (Nat.le_of_ble_eq_true rfl) (ho (.fieldLink RX12 382 "NearEnoughModel" "spanHigh" "J") (List.mem_of_getElem? (i := 7) rfl)) (fun _ h9 => h9) rfl (tyX12_ok 46 (Nat.le_of_ble_eq_true rfl)) rfl rfl (Nat.le_of_ble_eq_true rfl) dX12_showRow_88 (fun H locs hP hD hS => ?_)
      have hP : va_P (dC, dI) vwCl (mW h ad cl (sL (sL σ 45 y69_) 46 y70_)) H := hP
      have hD : va_D A (mW h ad cl (sL (sL σ 45 y69_) 46 y70_)) := hD
      refine lv_goto (tgt := 161) hx hb dX12_showRow_91 rfl ?_
      rw [hQ]
      have o37 : k9.toInt = 6 := by omega
      have o38 : ¬ (σ.2.1 17 x9.toNatClampNeg).toInt = 0 := by omega
      have R71_ : y69_ = rwLo (cor σ) (2 * (σ.1 29).toNatClampNeg + (σ.2.1 18 x9.toNatClampNeg).toNatClampNeg) (σ.2.1 17 x9.toNatClampNeg).toInt k9.toInt n9 (σ.2.2.2 45) := by unfold rwLo; rw [if_pos o37, if_neg o38] <;> (simp only [rFar, ez1_, ez2_, ez4_, ez5_, ez6_, ey7_, ez47_, ez48_, ey49_, ez67_, ey69_, ey70_, Xz3_] <;> rfl)
      have R72_ : y70_ = rwHi (cor σ) (2 * (σ.1 29).toNatClampNeg + (σ.2.1 18 x9.toNatClampNeg).toNatClampNeg) (σ.2.1 17 x9.toNatClampNeg).toInt k9.toInt n9 (σ.2.2.2 46) := by unfold rwHi; rw [if_pos o37, if_neg o38] <;> (simp only [rFar, ez1_, ez2_, ez4_, ez5_, ez6_, ey7_, ez47_, ez48_, ey49_, ez67_, ey69_, ey70_, Xz3_] <;> rfl)
      exact W.vret hx hb hr (fun t ht hW => ⟨⟨(sL (sL σ 45 y69_) 46 y70_), rfl, ⟨(Inv.sL (Inv.sL hI)), (eqx.sL (eqx.sL eqx.rf rg_498) rg_499), R71_, R72_⟩, wEn_of hP (hK.sub [] rfl) hD ht hW⟩, hS.F ht⟩) hS.2.2 dX12_showRow_161
def ow_n_spread : List Cond := [.fieldLink RX12 42 "NearEnoughModel" "sA" "[I", .fieldLink RX12 45 "NearEnoughModel" "sB" "[I", .fieldLink RX12 379 "NearEnoughModel" "spanLow" "J", .fieldLink RX12 382 "NearEnoughModel" "spanHigh" "J", .fieldLink RX12 39 "NearEnoughModel" "sKind" "[I", .fieldLink RX12 107 "NearEnoughModel" "low" "[J", .fieldLink RX12 48 "NearEnoughModel" "sC" "[I", .fieldLink RX12 110 "NearEnoughModel" "high0" "[J", .fieldLink RX12 51 "NearEnoughModel" "sD" "[I"]
def vs_n_spread : List Cond := .code yX12_spread cX12_spread 5 (some .boolean) :: (ow_n_spread ++ (([.methodLink RX12 331 yX12_at0, .instanceMethod yX12_at0, .selects RX12 yX12_at0 yX12_at0, .initialized RX12] : List Cond) ++ (vs_n_at0 ++ (([.methodLink RX12 385 yX12_errs, .static yX12_errs, .initialized yX12_errs.cls] : List Cond) ++ (vs_n_errsV ++ (([.methodLink RX12 392 yX12_spreadPick, .instanceMethod yX12_spreadPick, .selects RX12 yX12_spreadPick yX12_spreadPick, .initialized RX12] : List Cond) ++ (vs_n_spreadPick ++ (([.methodLink RX12 389 yX12_spreadTimes, .instanceMethod yX12_spreadTimes, .selects RX12 yX12_spreadTimes yX12_spreadTimes, .initialized RX12] : List Cond) ++ (vs_n_spreadTimes ++ (([.methodLink RX12 314 yX12_lesser, .static yX12_lesser, .initialized yX12_lesser.cls] : List Cond) ++ (vs_n_lesserV ++ (([.methodLink RX12 337 yX12_floorOver, .static yX12_floorOver, .initialized yX12_floorOver.cls] : List Cond) ++ (vs_n_floorOver ++ (([.methodLink RX12 318 yX12_greater, .static yX12_greater, .initialized yX12_greater.cls] : List Cond) ++ (vs_n_greaterV ++ (wsX120))))))))))))))))
theorem vg_n_spread : vs_n_spread.all goodWord = true := by decide +kernel
theorem dd_n_spread : yX12_spread.cls = RX12 ∧ yX12_spread.cls ≠ "java/lang/invoke/MethodHandle" ∧ yX12_spread.cls ≠ "java/lang/invoke/VarHandle" ∧ (parseMethodDescriptor yX12_spread.desc).map (fun d => d.parameters.length) = some 1 := by decide +kernel
def rm_n_spread : Room := { frames := 3, cells := 0, slots := 0, locals := 88 }
theorem gd_n_spread_331_n_at0 : GoodIn vs_n_spread (wsV RX12 331 RX12 yX12_at0 vs_n_at0) := goodIn_app (goodIn_sub (fun w h => (List.mem_cons_of_mem _ (List.mem_append_right _ (List.mem_append_left _ h)))) (by decide +kernel)) (goodIn_sub (fun w h => (List.mem_cons_of_mem _ (List.mem_append_right _ (List.mem_append_right _ (List.mem_append_left _ h))))) vg_n_at0)
theorem gd_n_spread_385_n_errsV : GoodIn vs_n_spread (va_wsS RX12 385 yX12_errs vs_n_errsV) := goodIn_app (goodIn_sub (fun w h => (List.mem_cons_of_mem _ (List.mem_append_right _ (List.mem_append_right _ (List.mem_append_right _ (List.mem_append_left _ h)))))) (by decide +kernel)) (goodIn_sub (fun w h => (List.mem_cons_of_mem _ (List.mem_append_right _ (List.mem_append_right _ (List.mem_append_right _ (List.mem_append_right _ (List.mem_append_left _ h))))))) vg_n_errsV)
theorem gd_n_spread_392_n_spreadPick : GoodIn vs_n_spread (wsV RX12 392 RX12 yX12_spreadPick vs_n_spreadPick) := goodIn_app (goodIn_sub (fun w h => (List.mem_cons_of_mem _ (List.mem_append_right _ (List.mem_append_right _ (List.mem_append_right _ (List.mem_append_right _ (List.mem_append_right _ (List.mem_append_left _ h)))))))) (by decide +kernel)) (goodIn_sub (fun w h => (List.mem_cons_of_mem _ (List.mem_append_right _ (List.mem_append_right _ (List.mem_append_right _ (List.mem_append_right _ (List.mem_append_right _ (List.mem_append_right _ (List.mem_append_left _ h))))))))) vg_n_spreadPick)
theorem gd_n_spread_389_n_spreadTimes : GoodIn vs_n_spread (wsV RX12 389 RX12 yX12_spreadTimes vs_n_spreadTimes) := goodIn_app (goodIn_sub (fun w h => (List.mem_cons_of_mem _ (List.mem_append_right _ (List.mem_append_right _ (List.mem_append_right _ (List.mem_append_right _ (List.mem_append_right _ (List.mem_append_right _ (List.mem_append_right _ (List.mem_append_left _ h)))))))))) (by decide +kernel)) (goodIn_sub (fun w h => (List.mem_cons_of_mem _ (List.mem_append_right _ (List.mem_append_right _ (List.mem_append_right _ (List.mem_append_right _ (List.mem_append_right _ (List.mem_append_right _ (List.mem_append_right _ (List.mem_append_right _ (List.mem_append_left _ h))))))))))) vg_n_spreadTimes)
theorem gd_n_spread_314_n_lesserV : GoodIn vs_n_spread (va_wsS RX12 314 yX12_lesser vs_n_lesserV) := goodIn_app (goodIn_sub (fun w h => (List.mem_cons_of_mem _ (List.mem_append_right _ (List.mem_append_right _ (List.mem_append_right _ (List.mem_append_right _ (List.mem_append_right _ (List.mem_append_right _ (List.mem_append_right _ (List.mem_append_right _ (List.mem_append_right _ (List.mem_append_left _ h)))))))))))) (by decide +kernel)) (goodIn_sub (fun w h => (List.mem_cons_of_mem _ (List.mem_append_right _ (List.mem_append_right _ (List.mem_append_right _ (List.mem_append_right _ (List.mem_append_right _ (List.mem_append_right _ (List.mem_append_right _ (List.mem_append_right _ (List.mem_append_right _ (List.mem_append_right _ (List.mem_append_left _ h))))))))))))) vg_n_lesserV)
theorem gd_n_spread_337_n_floorOver : GoodIn vs_n_spread (va_wsS RX12 337 yX12_floorOver vs_n_floorOver) := goodIn_app (goodIn_sub (fun w h => (List.mem_cons_of_mem _ (List.mem_append_right _ (List.mem_append_right _ (List.mem_append_right _ (List.mem_append_right _ (List.mem_append_right _ (List.mem_append_right _ (List.mem_append_right _ (List.mem_append_right _ (List.mem_append_right _ (List.mem_append_right _ (List.mem_append_right _ (List.mem_append_left _ h)))))))))))))) (by decide +kernel)) (goodIn_sub (fun w h => (List.mem_cons_of_mem _ (List.mem_append_right _ (List.mem_append_right _ (List.mem_append_right _ (List.mem_append_right _ (List.mem_append_right _ (List.mem_append_right _ (List.mem_append_right _ (List.mem_append_right _ (List.mem_append_right _ (List.mem_append_right _ (List.mem_append_right _ (List.mem_append_right _ (List.mem_append_left _ h))))))))))))))) vg_n_floorOver)
theorem gd_n_spread_318_n_greaterV : GoodIn vs_n_spread (va_wsS RX12 318 yX12_greater vs_n_greaterV) := goodIn_app (goodIn_sub (fun w h => (List.mem_cons_of_mem _ (List.mem_append_right _ (List.mem_append_right _ (List.mem_append_right _ (List.mem_append_right _ (List.mem_append_right _ (List.mem_append_right _ (List.mem_append_right _ (List.mem_append_right _ (List.mem_append_right _ (List.mem_append_right _ (List.mem_append_right _ (List.mem_append_right _ (List.mem_append_right _ (List.mem_append_left _ h)))))))))))))))) (by decide +kernel)) (goodIn_sub (fun w h => (List.mem_cons_of_mem _ (List.mem_append_right _ (List.mem_append_right _ (List.mem_append_right _ (List.mem_append_right _ (List.mem_append_right _ (List.mem_append_right _ (List.mem_append_right _ (List.mem_append_right _ (List.mem_append_right _ (List.mem_append_right _ (List.mem_append_right _ (List.mem_append_right _ (List.mem_append_right _ (List.mem_append_right _ (List.mem_append_left _ h))))))))))))))))) vg_n_greaterV)
set_option maxHeartbeats 4000000 in
set_option maxRecDepth 100000 in
theorem n_spread (l : Launch) (dC : Nat → ClassId) (dI : Nat → Nat → Nat) (h : Nat) (ad : Nat → Nat) (cl : Nat → ClassId) (sz : Nat) (σ : MS) (st9 : Int32) (hI : Inv σ) (hs : 0 ≤ st9.toInt ∧ st9.toInt ≤ 11) (hwk : WkOk σ st9) : Met l yX12_spread vs_n_spread rm_n_spread (va_Pc [.ref h, .int st9] (wSt dC dI (mW h ad cl σ) (mT cl) sz)) (va_Qi (fun (r : Int32) (τ : MS) => Inv τ ∧ eqx [45, 46] τ σ ∧ τ.2.2.2 45 = spLo (σ.1 29).toNatClampNeg (cor σ) (coJ σ) (σ.2.2.1 43) (σ.2.2.1 44) st9.toNatClampNeg ∧ τ.2.2.2 46 = spHi (σ.1 29).toNatClampNeg (cor σ) (coJ σ) (σ.2.2.1 43) (σ.2.2.1 44) st9.toNatClampNeg ∧ ((r.toInt = 1 ∧ spOk (σ.1 29).toNatClampNeg (cor σ) (σ.2.2.1 43) (σ.2.2.1 44) st9.toNatClampNeg) ∨ (r.toInt = 0 ∧ ¬ spOk (σ.1 29).toNatClampNeg (cor σ) (σ.2.2.1 43) (σ.2.2.1 44) st9.toNatClampNeg))) (fun (τ : MS) => wEn dC dI (va_A (mW h ad cl σ) sz) (mW h ad cl τ) []) (va_A (mW h ad cl σ) sz)) 0 0 (va_A (mW h ad cl σ) sz) := by
  refine Met.ofW (cc := cX12_spread) (maxL := 5) (ret := (some .boolean)) (by decide) rfl ?_
  intro p e s m args below meth c s₁ B hml hv
  obtain ⟨rfl, hsz, hP, hK, hD0, hE⟩ := hv
  have hx := B.exec
  have hb := B.bytes
  have hr := B.returns
  have hts := atoms_spec (ws := vs_n_spread) B.pre
  have hown : s.vm.findClass RX12 = some m.cls := findClass_of_methodNamed B.named
  have hlocks := B.notSynchronized
  subst hsz
  have hD := hD0.self (sz := s.heap.size)
  generalize hAe : va_A (mW h ad cl σ) s.heap.size = A at hD ⊢
  have hA : ∀ q : Nat, s.heap.size ≤ q → A q := fun q h => by rw [← hAe]; exact Or.inr h
  have hl := lv_entry ([.ref h, .int st9]) (n := 5) (Nat.le_of_ble_eq_true rfl)
  rw [lg_entry_eq]
  generalize (lg_sl ([.ref h, .int st9]) ++ List.replicate (5 - (lg_sl ([.ref h, .int st9])).length) Slot.unset).toArray = ls at hl ⊢
  have hl : lv_has ls 5 [(0, .ref h), (1, .int st9)] := hl
  have ho := fun w (h : w ∈ ow_n_spread) => hts w (List.mem_cons_of_mem _ (List.mem_append_left _ h))
  have hin12 : ∀ w ∈ u_ws RX12 TX12 59, w ∈ vs_n_spread := fun w h => (List.mem_cons_of_mem _ (List.mem_append_right _ (List.mem_append_right _ (List.mem_append_right _ (List.mem_append_right _ (List.mem_append_right _ (List.mem_append_right _ (List.mem_append_right _ (List.mem_append_right _ (List.mem_append_right _ (List.mem_append_right _ (List.mem_append_right _ (List.mem_append_right _ (List.mem_append_right _ (List.mem_append_right _ (List.mem_append_right _ h))))))))))))))))
  refine zQ (fun Q hQ => ?_)
  have hrows : (σ.2.1 11 (σ.1 29).toNatClampNeg).toInt ≤ 2 := (hI.2 11 _ (cl_lt (n := 2) (hI.1 29).1 (Int.lt_of_le_of_lt (hI.1 29).2 (by decide)))).2
  refine zH (A := A) (ws := mW h ad cl σ) (fun H hP hS => ?_) hP
  have bσ_29 : 0 ≤ (σ.1 29).toInt ∧ (σ.1 29).toInt ≤ 1 := hI.1 29
  refine lv_aload_n hx hb dX12_spread_0 rfl (lv_at hl 0 rfl) ?_
  refine lv_iload_n hx hb dX12_spread_1 rfl (lv_at hl 1 rfl) ?_
  have o1 : 0 ≤ st9.toInt := by omega
  have o2 : st9.toInt ≤ 11 := by omega
  refine zy_i (va_runV (As := [.int st9]) (rest := []) ⟨hx, hb, hml, hown, hts⟩ (n_at0 l dC dI h ad cl H.size σ st9 hI ⟨o1, o2⟩) (cwV 1 hts gd_n_spread_331_n_at0 rfl rfl rfl dd_n_at0 ⟨Nat.le_of_ble_eq_true rfl, Nat.le_of_ble_eq_true rfl⟩) (preV hP hK hD hE (ci := 12) (q0 := 0) rfl rfl) rfl rfl hl.1 rfl (lv_room (Nat.le_of_ble_eq_true rfl)) dX12_spread_2 ⟨Nat.le_of_ble_eq_true rfl, Nat.le_of_ble_eq_true rfl⟩) hD hS hA (fun z2_ τ1_ H locs hq hP hD hS => ?_)
  obtain ⟨rfl, f3_⟩ := hq
  refine W.widen (k := 0) (n := 0) (Nat.le_of_ble_eq_true rfl) (Nat.le_of_ble_eq_true rfl) ?_
  have o3 : z2_.toInt = 12 * (σ.1 29).toInt + st9.toInt := by omega
  have Xz2_ : z2_.toNatClampNeg = 12 * (σ.1 29).toNatClampNeg + st9.toNatClampNeg := at0x (hI.1 29).1 o1 o3
  have hst := hwk.st2 Xz2_
  unfold StOk at hst
  refine lv_istore_n (lv' := [(2, .int z2_), (0, .ref h), (1, .int st9)]) hx hb dX12_spread_5 rfl hl (Nat.le_of_ble_eq_true rfl) rfl (fun ls hl => ?_)
  refine lv_aload_n hx hb dX12_spread_6 rfl (lv_at hl 1 rfl) ?_
  refine va_get (D := (dC, dI)) (ci := 12) (v := .ref (ad 18)) (C := RX12) (T := TX12) (N := 59) hx hb hts hin12 hown hK hP 0 rfl rfl 18 (Nat.le_of_ble_eq_true rfl) (ho (.fieldLink RX12 42 "NearEnoughModel" "sA" "[I") (List.mem_of_getElem? (i := 0) rfl)) (fun _ h9 => h9) rfl dX12_spread_7 ?_
  refine lv_iload_n hx hb dX12_spread_10 rfl (lv_at hl 0 rfl) ?_
  have o4 : 0 ≤ z2_.toInt := by omega
  have o5 : z2_.toInt < ((24 : Nat) : Int) := by omega
  refine va_iald hx hb hK hP 10 9 rfl rfl (ti_inx o4 o5) dX12_spread_11 ?_
  refine lv_topi (fun z4_ ez4_ => ?_)
  have gz4_ : z4_.toInt = ((σ.2.1 18) (Int32.toNatClampNeg z2_)).toInt := congrArg Int32.toInt (ez4_.trans (congrFun rfl (Int32.toNatClampNeg z2_)))
  have bz4_ : (-1) ≤ z4_.toInt ∧ z4_.toInt ≤ 11 := by rw [ez4_]; exact (hI.2 18) _ (cl_lt (n := 24) o4 o5)
  refine lv_istore_n (lv' := [(3, .int z4_), (2, .int z2_), (0, .ref h), (1, .int st9)]) hx hb dX12_spread_12 rfl hl (Nat.le_of_ble_eq_true rfl) rfl (fun ls hl => ?_)
  refine lv_aload_n hx hb dX12_spread_13 rfl (lv_at hl 2 rfl) ?_
  refine va_get (D := (dC, dI)) (ci := 12) (v := .ref (ad 19)) (C := RX12) (T := TX12) (N := 59) hx hb hts hin12 hown hK hP 0 rfl rfl 19 (Nat.le_of_ble_eq_true rfl) (ho (.fieldLink RX12 45 "NearEnoughModel" "sB" "[I") (List.mem_of_getElem? (i := 1) rfl)) (fun _ h9 => h9) rfl dX12_spread_14 ?_
  refine lv_iload_n hx hb dX12_spread_17 rfl (lv_at hl 1 rfl) ?_
  refine va_iald hx hb hK hP 11 10 rfl rfl (ti_inx o4 o5) dX12_spread_18 ?_
  refine lv_topi (fun z5_ ez5_ => ?_)
  have gz5_ : z5_.toInt = ((σ.2.1 19) (Int32.toNatClampNeg z2_)).toInt := congrArg Int32.toInt (ez5_.trans (congrFun rfl (Int32.toNatClampNeg z2_)))
  have bz5_ : (-99) ≤ z5_.toInt ∧ z5_.toInt ≤ 99 := by rw [ez5_]; exact (hI.2 19) _ (cl_lt (n := 24) o4 o5)
  refine lv_istore (lv' := [(4, .int z5_), (3, .int z4_), (2, .int z2_), (0, .ref h), (1, .int st9)]) hx hb dX12_spread_19 hl (Nat.le_of_ble_eq_true rfl) rfl (fun ls hl => ?_)
  refine lv_aload_n hx hb dX12_spread_21 rfl (lv_at hl 3 rfl) ?_
  refine lv_lconst (v := 0) hx hb dX12_spread_22 (by decide) ?_
  refine va_put (D := (dC, dI)) (ci := 12) (v := .long 0) (ty := tyX12 45) (C := RX12) (T := TX12) (N := 59) hx hb hts hin12 tyX12 tyX12_ok nmX12 hown hK hP hD hS 0 rfl rfl 45 (Nat.le_of_ble_eq_true rfl) (ho (.fieldLink RX12 379 "NearEnoughModel" "spanLow" "J") (List.mem_of_getElem? (i := 2) rfl)) (fun _ h9 => h9) rfl (tyX12_ok 45 (Nat.le_of_ble_eq_true rfl)) rfl rfl (Nat.le_of_ble_eq_true rfl) dX12_spread_23 (fun H locs hP hD hS => ?_)
  have hP : va_P (dC, dI) vwCl (mW h ad cl (sL σ 45 0)) H := hP
  have hD : va_D A (mW h ad cl (sL σ 45 0)) := hD
  refine lv_aload_n hx hb dX12_spread_26 rfl (lv_at hl 3 rfl) ?_
  refine lv_lconst (v := 0) hx hb dX12_spread_27 (by decide) ?_
  refine va_put (D := (dC, dI)) (ci := 12) (v := .long 0) (ty := tyX12 46) (C := RX12) (T := TX12) (N := 59) hx hb hts hin12 tyX12 tyX12_ok nmX12 hown hK hP hD hS 0 rfl rfl 46 (Nat.le_of_ble_eq_true rfl) (ho (.fieldLink RX12 382 "NearEnoughModel" "spanHigh" "J") (List.mem_of_getElem? (i := 3) rfl)) (fun _ h9 => h9) rfl (tyX12_ok 46 (Nat.le_of_ble_eq_true rfl)) rfl rfl (Nat.le_of_ble_eq_true rfl) dX12_spread_28 (fun H locs hP hD hS => ?_)
  have hP : va_P (dC, dI) vwCl (mW h ad cl (sL (sL σ 45 0) 46 0)) H := hP
  have hD : va_D A (mW h ad cl (sL (sL σ 45 0) 46 0)) := hD
  refine lv_aload_n hx hb dX12_spread_31 rfl (lv_at hl 3 rfl) ?_
  refine va_get (D := (dC, dI)) (ci := 12) (v := .ref (ad 17)) (C := RX12) (T := TX12) (N := 59) hx hb hts hin12 hown hK hP 0 rfl rfl 17 (Nat.le_of_ble_eq_true rfl) (ho (.fieldLink RX12 39 "NearEnoughModel" "sKind" "[I") (List.mem_of_getElem? (i := 4) rfl)) (fun _ h9 => h9) rfl dX12_spread_32 ?_
  refine lv_iload_n hx hb dX12_spread_35 rfl (lv_at hl 2 rfl) ?_
  refine va_iald hx hb hK hP 9 8 rfl rfl (ti_inx o4 o5) dX12_spread_36 ?_
  refine lv_topi (fun z6_ ez6_ => ?_)
  have gz6_ : z6_.toInt = ((σ.2.1 17) (Int32.toNatClampNeg z2_)).toInt := congrArg Int32.toInt (ez6_.trans (congrFun (tL.trans tL) (Int32.toNatClampNeg z2_)))
  have bz6_ : 0 ≤ z6_.toInt ∧ z6_.toInt ≤ 7 := by rw [ez6_]; exact (hI.2 17) _ (cl_lt (n := 24) o4 o5)
  by_cases c_lo : z6_.toInt < 0
  · refine lv_tableOut (tgt := 308) hx hb dX12_spread_37 (Or.inl c_lo) rfl ?_
    refine lv_aload_n hx hb dX12_spread_308 rfl (lv_at hl 3 rfl) ?_
    refine lv_iload_n hx hb dX12_spread_309 rfl (lv_at hl 1 rfl) ?_
    refine lv_iload hx hb dX12_spread_310 (lv_at hl 0 rfl) ?_
    refine lv_aload_n hx hb dX12_spread_312 rfl (lv_at hl 3 rfl) ?_
    refine va_get (D := (dC, dI)) (ci := 12) (v := .ref (ad 43)) (C := RX12) (T := TX12) (N := 59) hx hb hts hin12 hown hK hP 0 rfl rfl 43 (Nat.le_of_ble_eq_true rfl) (ho (.fieldLink RX12 107 "NearEnoughModel" "low" "[J") (List.mem_of_getElem? (i := 5) rfl)) (fun _ h9 => h9) rfl dX12_spread_313 ?_
    refine lv_aload_n hx hb dX12_spread_316 rfl (lv_at hl 3 rfl) ?_
    refine va_get (D := (dC, dI)) (ci := 12) (v := .ref (ad 20)) (C := RX12) (T := TX12) (N := 59) hx hb hts hin12 hown hK hP 0 rfl rfl 20 (Nat.le_of_ble_eq_true rfl) (ho (.fieldLink RX12 48 "NearEnoughModel" "sC" "[I") (List.mem_of_getElem? (i := 6) rfl)) (fun _ h9 => h9) rfl dX12_spread_317 ?_
    refine lv_iload_n hx hb dX12_spread_320 rfl (lv_at hl 2 rfl) ?_
    refine va_iald hx hb hK hP 12 11 rfl rfl (ti_inx o4 o5) dX12_spread_321 ?_
    refine lv_topi (fun z7_ ez7_ => ?_)
    have gz7_ : z7_.toInt = ((σ.2.1 20) (Int32.toNatClampNeg z2_)).toInt := congrArg Int32.toInt (ez7_.trans (congrFun (tL.trans tL) (Int32.toNatClampNeg z2_)))
    have bz7_ : (-1) ≤ z7_.toInt ∧ z7_.toInt ≤ 99 := by rw [ez7_]; exact (hI.2 20) _ (cl_lt (n := 24) o4 o5)
    have o6 : 0 ≤ z7_.toInt := by omega
    have o7 : z7_.toInt < ((12 : Nat) : Int) := by omega
    refine va_lald hx hb hK hP 31 30 rfl rfl (ti_inx o6 o7) dX12_spread_322 ?_
    refine lv_topl (fun y8_ ey8_ => ?_)
    refine lv_aload_n hx hb dX12_spread_323 rfl (lv_at hl 3 rfl) ?_
    refine va_get (D := (dC, dI)) (ci := 12) (v := .ref (ad 44)) (C := RX12) (T := TX12) (N := 59) hx hb hts hin12 hown hK hP 0 rfl rfl 44 (Nat.le_of_ble_eq_true rfl) (ho (.fieldLink RX12 110 "NearEnoughModel" "high0" "[J") (List.mem_of_getElem? (i := 7) rfl)) (fun _ h9 => h9) rfl dX12_spread_324 ?_
    refine lv_aload_n hx hb dX12_spread_327 rfl (lv_at hl 3 rfl) ?_
    refine va_get (D := (dC, dI)) (ci := 12) (v := .ref (ad 20)) (C := RX12) (T := TX12) (N := 59) hx hb hts hin12 hown hK hP 0 rfl rfl 20 (Nat.le_of_ble_eq_true rfl) (ho (.fieldLink RX12 48 "NearEnoughModel" "sC" "[I") (List.mem_of_getElem? (i := 6) rfl)) (fun _ h9 => h9) rfl dX12_spread_328 ?_
    refine lv_iload_n hx hb dX12_spread_331 rfl (lv_at hl 2 rfl) ?_
    refine va_iald hx hb hK hP 12 11 rfl rfl (ti_inx o4 o5) dX12_spread_332 ?_
    refine lv_topi (fun z9_ ez9_ => ?_)
    have qq10_ : z9_.toInt = z7_.toInt := congrArg Int32.toInt ((ez9_.trans (congrFun (tL.trans tL) (Int32.toNatClampNeg z2_))).trans ((ez7_.trans (congrFun (tL.trans tL) (Int32.toNatClampNeg z2_)))).symm)
    have gz9_ : z9_.toInt = ((σ.2.1 20) (Int32.toNatClampNeg z2_)).toInt := congrArg Int32.toInt (ez9_.trans (congrFun (tL.trans tL) (Int32.toNatClampNeg z2_)))
    have bz9_ : (-1) ≤ z9_.toInt ∧ z9_.toInt ≤ 99 := by rw [ez9_]; exact (hI.2 20) _ (cl_lt (n := 24) o4 o5)
    have o8 : 0 ≤ z9_.toInt := by omega
    have o9 : z9_.toInt < ((12 : Nat) : Int) := by omega
    refine va_lald hx hb hK hP 32 31 rfl rfl (ti_inx o8 o9) dX12_spread_333 ?_
    refine lv_topl (fun y11_ ey11_ => ?_)
    refine zs_i (va_runS (As := [.long y8_, .long y11_]) (rest := [.int z5_, .int z4_, .ref h]) ⟨hx, hb, hml, hown, hts⟩ (n_errsV l dC dI y8_ y11_  H.size) (va_cwS 2 hts gd_n_spread_385_n_errsV rfl rfl rfl dd_n_errsV ⟨Nat.le_of_ble_eq_true rfl, Nat.le_of_ble_eq_true rfl⟩) (preS (A := A) empP (hK.sub (tys' := []) [] rfl) empD hE) rfl rfl hl.1 rfl (lv_room (Nat.le_of_ble_eq_true rfl)) dX12_spread_334 ⟨Nat.le_of_ble_eq_true rfl, Nat.le_of_ble_eq_true rfl⟩) hP hD hS hA (fun z12_ H locs hq hP hD hS => ?_)
    have f13_ := hq
    refine W.widen (k := 0) (n := 0) (Nat.le_of_ble_eq_true rfl) (Nat.le_of_ble_eq_true rfl) ?_
    refine lv_if_ne (tgt := 368) hx hb dX12_spread_337 rfl (fun c14_ => ?_) (fun c14_ => ?_)
    · have tc14_ := (show z12_.toInt ≠ 0 from ti_ne rfl rg_11 c14_)
      refine lv_iconst (v := 1) hx hb dX12_spread_368 rg_6 ?_
      refine lv_goto (tgt := 373) hx hb dX12_spread_369 rfl ?_
      have kk15_ : (1 : Int32).toInt = 1 := rg_18
      have o10 : 0 ≤ z4_.toInt := by omega
      have o11 : z4_.toInt ≤ 11 := by omega
      have o12 : 0 ≤ z5_.toInt := by omega
      have o13 : z5_.toInt ≤ 11 := by omega
      refine zy_v (va_runV (As := [.int z4_, .int z5_, .int 1]) (rest := []) ⟨hx, hb, hml, hown, hts⟩ (n_spreadPick l dC dI h ad cl H.size (sL (sL σ 45 0) 46 0) z4_ z5_ 1 (Inv.sL (Inv.sL hI)) ⟨o10, o11⟩ ⟨o12, o13⟩) (cwV 3 hts gd_n_spread_392_n_spreadPick rfl rfl rfl dd_n_spreadPick ⟨Nat.le_of_ble_eq_true rfl, Nat.le_of_ble_eq_true rfl⟩) (preV hP hK hD hE (ci := 12) (q0 := 0) rfl rfl) rfl rfl hl.1 rfl (lv_room (Nat.le_of_ble_eq_true rfl)) dX12_spread_373 ⟨Nat.le_of_ble_eq_true rfl, Nat.le_of_ble_eq_true rfl⟩) hD hS hA (fun τ16_ H locs hq hP hD hS => ?_)
      obtain ⟨hI18_, hx19_, f20_, f21_⟩ := hq
      have Xτ16_ : eqx [45, 46] τ16_ σ := eqx.tr hx19_ (eqx.sL (eqx.sL eqx.rf rg_498) rg_499) rg_503
      have qq22_ : (τ16_.1 29).toInt = ((σ.1 29) : Int32).toInt := congrArg Int32.toInt ((show τ16_.1 29 = (σ.1 29) from ((hx19_ 29 rg_504).1).trans rfl))
      refine W.widen (k := 0) (n := 0) (Nat.le_of_ble_eq_true rfl) (Nat.le_of_ble_eq_true rfl) ?_
      refine lv_iconst (v := 1) hx hb dX12_spread_376 rg_6 ?_
      rw [hQ]
      have o14 : (σ.2.1 17 (Int32.toNatClampNeg z2_)).toInt = 7 := by omega
      have K26_ : (σ.2.1 17 (12 * (σ.1 29).toNatClampNeg + st9.toNatClampNeg)).toInt = 7 := by rw [← Xz2_]; exact o14
      have a9 : z4_.toNatClampNeg = (σ.2.1 18 (12 * (σ.1 29).toNatClampNeg + st9.toNatClampNeg)).toNatClampNeg := by rw [← Xz2_, ← ez4_]
      have b9 : z5_.toNatClampNeg = (σ.2.1 19 (12 * (σ.1 29).toNatClampNeg + st9.toNatClampNeg)).toNatClampNeg := by rw [← Xz2_, ← ez5_]
      have o15 : ¬ z12_.toInt = 0 := by omega
      have U27_ : Ers (σ.2.2.1 43) (σ.2.2.1 44) (σ.2.1 20 (12 * (σ.1 29).toNatClampNeg + st9.toNatClampNeg)).toNatClampNeg ∨ Ers (σ.2.2.1 43) (σ.2.2.1 44) (σ.2.1 21 (12 * (σ.1 29).toNatClampNeg + st9.toNatClampNeg)).toNatClampNeg := (Or.inl (by have h8 : ¬ (y8_ = 0 ∧ y11_ = 0) := (by rcases f13_ with q | q; exact q.2; exact absurd q.1 o15); simp only [ez4_, ez5_, ez6_, ez7_, ey8_, ez9_, ey11_, Xz2_] at h8; exact h8))
      have R23_ : (τ16_.2.2.2 45) = spLo (σ.1 29).toNatClampNeg (cor σ) (coJ σ) (σ.2.2.1 43) (σ.2.2.1 44) st9.toNatClampNeg := by rw [(sp_7 (B := (σ.1 29).toNatClampNeg) (T := cor σ) (J := coJ σ) (L := σ.2.2.1 43) (H := σ.2.2.1 44) (j := st9.toNatClampNeg) K26_).1, f20_, a9, b9]; exact (pk_y (B := (σ.1 29).toNatClampNeg) (J := coJ σ) (L := σ.2.2.1 43) (H := σ.2.2.1 44) (u := ¬ (1 : Int32).toInt = 0) (rg_502 : ¬ (1 : Int32).toInt = 0)).1.trans (pk_y (B := (σ.1 29).toNatClampNeg) (J := coJ σ) (L := σ.2.2.1 43) (H := σ.2.2.1 44) U27_).1.symm
      have R24_ : (τ16_.2.2.2 46) = spHi (σ.1 29).toNatClampNeg (cor σ) (coJ σ) (σ.2.2.1 43) (σ.2.2.1 44) st9.toNatClampNeg := by rw [(sp_7 (B := (σ.1 29).toNatClampNeg) (T := cor σ) (J := coJ σ) (L := σ.2.2.1 43) (H := σ.2.2.1 44) (j := st9.toNatClampNeg) K26_).2, f21_, a9, b9]; exact (pk_y (B := (σ.1 29).toNatClampNeg) (J := coJ σ) (L := σ.2.2.1 43) (H := σ.2.2.1 44) (u := ¬ (1 : Int32).toInt = 0) (rg_502 : ¬ (1 : Int32).toInt = 0)).2.trans (pk_y (B := (σ.1 29).toNatClampNeg) (J := coJ σ) (L := σ.2.2.1 43) (H := σ.2.2.1 44) U27_).2.symm
      have o16 : ¬ (σ.2.1 17 (Int32.toNatClampNeg z2_)).toInt = 6 := by omega
      have K28_ : ¬ (σ.2.1 17 (12 * (σ.1 29).toNatClampNeg + st9.toNatClampNeg)).toInt = 6 := by rw [← Xz2_]; exact o16
      have R25_ : (1 : Int32).toInt = 1 ∧ spOk (σ.1 29).toNatClampNeg (cor σ) (σ.2.2.1 43) (σ.2.2.1 44) st9.toNatClampNeg ∨ (1 : Int32).toInt = 0 ∧ ¬ spOk (σ.1 29).toNatClampNeg (cor σ) (σ.2.2.1 43) (σ.2.2.1 44) st9.toNatClampNeg := Or.inl ⟨rg_18, fun h7 => absurd h7 K28_⟩
      exact W.zret (v := 1) hx hb hr rfl (fun t ht hW => ⟨⟨1, τ16_, rfl, ⟨hI18_, Xτ16_, R23_, R24_, R25_⟩, wEn_of hP (hK.sub [] rfl) hD ht hW⟩, hS.F ht⟩) hS.2.2 dX12_spread_377
    · have tc14_ := (show z12_.toInt = 0 from ti_eq rfl rg_11 c14_)
      refine lv_aload_n hx hb dX12_spread_340 rfl (lv_at hl 3 rfl) ?_
      refine va_get (D := (dC, dI)) (ci := 12) (v := .ref (ad 43)) (C := RX12) (T := TX12) (N := 59) hx hb hts hin12 hown hK hP 0 rfl rfl 43 (Nat.le_of_ble_eq_true rfl) (ho (.fieldLink RX12 107 "NearEnoughModel" "low" "[J") (List.mem_of_getElem? (i := 5) rfl)) (fun _ h9 => h9) rfl dX12_spread_341 ?_
      refine lv_aload_n hx hb dX12_spread_344 rfl (lv_at hl 3 rfl) ?_
      refine va_get (D := (dC, dI)) (ci := 12) (v := .ref (ad 21)) (C := RX12) (T := TX12) (N := 59) hx hb hts hin12 hown hK hP 0 rfl rfl 21 (Nat.le_of_ble_eq_true rfl) (ho (.fieldLink RX12 51 "NearEnoughModel" "sD" "[I") (List.mem_of_getElem? (i := 8) rfl)) (fun _ h9 => h9) rfl dX12_spread_345 ?_
      refine lv_iload_n hx hb dX12_spread_348 rfl (lv_at hl 2 rfl) ?_
      refine va_iald hx hb hK hP 13 12 rfl rfl (ti_inx o4 o5) dX12_spread_349 ?_
      refine lv_topi (fun z29_ ez29_ => ?_)
      have gz29_ : z29_.toInt = ((σ.2.1 21) (Int32.toNatClampNeg z2_)).toInt := congrArg Int32.toInt (ez29_.trans (congrFun (tL.trans tL) (Int32.toNatClampNeg z2_)))
      have bz29_ : (-1) ≤ z29_.toInt ∧ z29_.toInt ≤ 11 := by rw [ez29_]; exact (hI.2 21) _ (cl_lt (n := 24) o4 o5)
      have o17 : 0 ≤ z29_.toInt := by omega
      have o18 : z29_.toInt < ((12 : Nat) : Int) := by omega
      refine va_lald hx hb hK hP 31 30 rfl rfl (ti_inx o17 o18) dX12_spread_350 ?_
      refine lv_topl (fun y30_ ey30_ => ?_)
      refine lv_aload_n hx hb dX12_spread_351 rfl (lv_at hl 3 rfl) ?_
      refine va_get (D := (dC, dI)) (ci := 12) (v := .ref (ad 44)) (C := RX12) (T := TX12) (N := 59) hx hb hts hin12 hown hK hP 0 rfl rfl 44 (Nat.le_of_ble_eq_true rfl) (ho (.fieldLink RX12 110 "NearEnoughModel" "high0" "[J") (List.mem_of_getElem? (i := 7) rfl)) (fun _ h9 => h9) rfl dX12_spread_352 ?_
      refine lv_aload_n hx hb dX12_spread_355 rfl (lv_at hl 3 rfl) ?_
      refine va_get (D := (dC, dI)) (ci := 12) (v := .ref (ad 21)) (C := RX12) (T := TX12) (N := 59) hx hb hts hin12 hown hK hP 0 rfl rfl 21 (Nat.le_of_ble_eq_true rfl) (ho (.fieldLink RX12 51 "NearEnoughModel" "sD" "[I") (List.mem_of_getElem? (i := 8) rfl)) (fun _ h9 => h9) rfl dX12_spread_356 ?_
      refine lv_iload_n hx hb dX12_spread_359 rfl (lv_at hl 2 rfl) ?_
      refine va_iald hx hb hK hP 13 12 rfl rfl (ti_inx o4 o5) dX12_spread_360 ?_
      refine lv_topi (fun z31_ ez31_ => ?_)
      have qq32_ : z31_.toInt = z29_.toInt := congrArg Int32.toInt ((ez31_.trans (congrFun (tL.trans tL) (Int32.toNatClampNeg z2_))).trans ((ez29_.trans (congrFun (tL.trans tL) (Int32.toNatClampNeg z2_)))).symm)
      have gz31_ : z31_.toInt = ((σ.2.1 21) (Int32.toNatClampNeg z2_)).toInt := congrArg Int32.toInt (ez31_.trans (congrFun (tL.trans tL) (Int32.toNatClampNeg z2_)))
      have bz31_ : (-1) ≤ z31_.toInt ∧ z31_.toInt ≤ 11 := by rw [ez31_]; exact (hI.2 21) _ (cl_lt (n := 24) o4 o5)
      have o19 : 0 ≤ z31_.toInt := by omega
      have o20 : z31_.toInt < ((12 : Nat) : Int) := by omega
      refine va_lald hx hb hK hP 32 31 rfl rfl (ti_inx o19 o20) dX12_spread_361 ?_
      refine lv_topl (fun y33_ ey33_ => ?_)
      refine zs_i (va_runS (As := [.long y30_, .long y33_]) (rest := [.int z5_, .int z4_, .ref h]) ⟨hx, hb, hml, hown, hts⟩ (n_errsV l dC dI y30_ y33_  H.size) (va_cwS 2 hts gd_n_spread_385_n_errsV rfl rfl rfl dd_n_errsV ⟨Nat.le_of_ble_eq_true rfl, Nat.le_of_ble_eq_true rfl⟩) (preS (A := A) empP (hK.sub (tys' := []) [] rfl) empD hE) rfl rfl hl.1 rfl (lv_room (Nat.le_of_ble_eq_true rfl)) dX12_spread_362 ⟨Nat.le_of_ble_eq_true rfl, Nat.le_of_ble_eq_true rfl⟩) hP hD hS hA (fun z34_ H locs hq hP hD hS => ?_)
      have f35_ := hq
      refine W.widen (k := 0) (n := 0) (Nat.le_of_ble_eq_true rfl) (Nat.le_of_ble_eq_true rfl) ?_
      refine lv_if_eq (tgt := 372) hx hb dX12_spread_365 rfl (fun c36_ => ?_) (fun c36_ => ?_)
      · have tc36_ := (show z34_.toInt = 0 from ti_eq rfl rg_11 c36_)
        refine lv_iconst (v := 0) hx hb dX12_spread_372 rg_0 ?_
        have kk37_ : (0 : Int32).toInt = 0 := rg_11
        have o21 : 0 ≤ z4_.toInt := by omega
        have o22 : z4_.toInt ≤ 11 := by omega
        have o23 : 0 ≤ z5_.toInt := by omega
        have o24 : z5_.toInt ≤ 11 := by omega
        refine zy_v (va_runV (As := [.int z4_, .int z5_, .int 0]) (rest := []) ⟨hx, hb, hml, hown, hts⟩ (n_spreadPick l dC dI h ad cl H.size (sL (sL σ 45 0) 46 0) z4_ z5_ 0 (Inv.sL (Inv.sL hI)) ⟨o21, o22⟩ ⟨o23, o24⟩) (cwV 3 hts gd_n_spread_392_n_spreadPick rfl rfl rfl dd_n_spreadPick ⟨Nat.le_of_ble_eq_true rfl, Nat.le_of_ble_eq_true rfl⟩) (preV hP hK hD hE (ci := 12) (q0 := 0) rfl rfl) rfl rfl hl.1 rfl (lv_room (Nat.le_of_ble_eq_true rfl)) dX12_spread_373 ⟨Nat.le_of_ble_eq_true rfl, Nat.le_of_ble_eq_true rfl⟩) hD hS hA (fun τ38_ H locs hq hP hD hS => ?_)
        obtain ⟨hI40_, hx41_, f42_, f43_⟩ := hq
        have Xτ38_ : eqx [45, 46] τ38_ σ := eqx.tr hx41_ (eqx.sL (eqx.sL eqx.rf rg_498) rg_499) rg_503
        have qq44_ : (τ38_.1 29).toInt = ((σ.1 29) : Int32).toInt := congrArg Int32.toInt ((show τ38_.1 29 = (σ.1 29) from ((hx41_ 29 rg_504).1).trans rfl))
        refine W.widen (k := 0) (n := 0) (Nat.le_of_ble_eq_true rfl) (Nat.le_of_ble_eq_true rfl) ?_
        refine lv_iconst (v := 1) hx hb dX12_spread_376 rg_6 ?_
        rw [hQ]
        have o25 : (σ.2.1 17 (Int32.toNatClampNeg z2_)).toInt = 7 := by omega
        have K48_ : (σ.2.1 17 (12 * (σ.1 29).toNatClampNeg + st9.toNatClampNeg)).toInt = 7 := by rw [← Xz2_]; exact o25
        have a9 : z4_.toNatClampNeg = (σ.2.1 18 (12 * (σ.1 29).toNatClampNeg + st9.toNatClampNeg)).toNatClampNeg := by rw [← Xz2_, ← ez4_]
        have b9 : z5_.toNatClampNeg = (σ.2.1 19 (12 * (σ.1 29).toNatClampNeg + st9.toNatClampNeg)).toNatClampNeg := by rw [← Xz2_, ← ez5_]
        have o26 : ¬ z12_.toInt = 1 := by omega
        have o27 : ¬ z34_.toInt = 1 := by omega
        have U49_ : ¬ (Ers (σ.2.2.1 43) (σ.2.2.1 44) (σ.2.1 20 (12 * (σ.1 29).toNatClampNeg + st9.toNatClampNeg)).toNatClampNeg ∨ Ers (σ.2.2.1 43) (σ.2.2.1 44) (σ.2.1 21 (12 * (σ.1 29).toNatClampNeg + st9.toNatClampNeg)).toNatClampNeg) := (fun h7 => h7.elim (fun h6 => h6 (by have h8 : y8_ = 0 ∧ y11_ = 0 := (by rcases f13_ with q | q; exact absurd q.1 o26; exact q.2); simp only [ez4_, ez5_, ez6_, ez7_, ey8_, ez9_, ey11_, ez29_, ey30_, ez31_, ey33_, Xz2_] at h8; exact h8)) (fun h6 => h6 (by have h8 : y30_ = 0 ∧ y33_ = 0 := (by rcases f35_ with q | q; exact absurd q.1 o27; exact q.2); simp only [ez4_, ez5_, ez6_, ez7_, ey8_, ez9_, ey11_, ez29_, ey30_, ez31_, ey33_, Xz2_] at h8; exact h8)))
        have R45_ : (τ38_.2.2.2 45) = spLo (σ.1 29).toNatClampNeg (cor σ) (coJ σ) (σ.2.2.1 43) (σ.2.2.1 44) st9.toNatClampNeg := by rw [(sp_7 (B := (σ.1 29).toNatClampNeg) (T := cor σ) (J := coJ σ) (L := σ.2.2.1 43) (H := σ.2.2.1 44) (j := st9.toNatClampNeg) K48_).1, f42_, a9, b9]; exact (pk_n (B := (σ.1 29).toNatClampNeg) (J := coJ σ) (L := σ.2.2.1 43) (H := σ.2.2.1 44) (u := ¬ (0 : Int32).toInt = 0) (fun h9 => h9 rg_11)).1.trans (pk_n (B := (σ.1 29).toNatClampNeg) (J := coJ σ) (L := σ.2.2.1 43) (H := σ.2.2.1 44) U49_).1.symm
        have R46_ : (τ38_.2.2.2 46) = spHi (σ.1 29).toNatClampNeg (cor σ) (coJ σ) (σ.2.2.1 43) (σ.2.2.1 44) st9.toNatClampNeg := by rw [(sp_7 (B := (σ.1 29).toNatClampNeg) (T := cor σ) (J := coJ σ) (L := σ.2.2.1 43) (H := σ.2.2.1 44) (j := st9.toNatClampNeg) K48_).2, f43_, a9, b9]; exact (pk_n (B := (σ.1 29).toNatClampNeg) (J := coJ σ) (L := σ.2.2.1 43) (H := σ.2.2.1 44) (u := ¬ (0 : Int32).toInt = 0) (fun h9 => h9 rg_11)).2.trans (pk_n (B := (σ.1 29).toNatClampNeg) (J := coJ σ) (L := σ.2.2.1 43) (H := σ.2.2.1 44) U49_).2.symm
        have o28 : ¬ (σ.2.1 17 (Int32.toNatClampNeg z2_)).toInt = 6 := by omega
        have K50_ : ¬ (σ.2.1 17 (12 * (σ.1 29).toNatClampNeg + st9.toNatClampNeg)).toInt = 6 := by rw [← Xz2_]; exact o28
        have R47_ : (1 : Int32).toInt = 1 ∧ spOk (σ.1 29).toNatClampNeg (cor σ) (σ.2.2.1 43) (σ.2.2.1 44) st9.toNatClampNeg ∨ (1 : Int32).toInt = 0 ∧ ¬ spOk (σ.1 29).toNatClampNeg (cor σ) (σ.2.2.1 43) (σ.2.2.1 44) st9.toNatClampNeg := Or.inl ⟨rg_18, fun h7 => absurd h7 K50_⟩
        exact W.zret (v := 1) hx hb hr rfl (fun t ht hW => ⟨⟨1, τ38_, rfl, ⟨hI40_, Xτ38_, R45_, R46_, R47_⟩, wEn_of hP (hK.sub [] rfl) hD ht hW⟩, hS.F ht⟩) hS.2.2 dX12_spread_377
      · have tc36_ := (show z34_.toInt ≠ 0 from ti_ne rfl rg_11 c36_)
        refine lv_iconst (v := 1) hx hb dX12_spread_368 rg_6 ?_
        refine lv_goto (tgt := 373) hx hb dX12_spread_369 rfl ?_
        have kk51_ : (1 : Int32).toInt = 1 := rg_18
        have o29 : 0 ≤ z4_.toInt := by omega
        have o30 : z4_.toInt ≤ 11 := by omega
        have o31 : 0 ≤ z5_.toInt := by omega
        have o32 : z5_.toInt ≤ 11 := by omega
        refine zy_v (va_runV (As := [.int z4_, .int z5_, .int 1]) (rest := []) ⟨hx, hb, hml, hown, hts⟩ (n_spreadPick l dC dI h ad cl H.size (sL (sL σ 45 0) 46 0) z4_ z5_ 1 (Inv.sL (Inv.sL hI)) ⟨o29, o30⟩ ⟨o31, o32⟩) (cwV 3 hts gd_n_spread_392_n_spreadPick rfl rfl rfl dd_n_spreadPick ⟨Nat.le_of_ble_eq_true rfl, Nat.le_of_ble_eq_true rfl⟩) (preV hP hK hD hE (ci := 12) (q0 := 0) rfl rfl) rfl rfl hl.1 rfl (lv_room (Nat.le_of_ble_eq_true rfl)) dX12_spread_373 ⟨Nat.le_of_ble_eq_true rfl, Nat.le_of_ble_eq_true rfl⟩) hD hS hA (fun τ52_ H locs hq hP hD hS => ?_)
        obtain ⟨hI54_, hx55_, f56_, f57_⟩ := hq
        have Xτ52_ : eqx [45, 46] τ52_ σ := eqx.tr hx55_ (eqx.sL (eqx.sL eqx.rf rg_498) rg_499) rg_503
        have qq58_ : (τ52_.1 29).toInt = ((σ.1 29) : Int32).toInt := congrArg Int32.toInt ((show τ52_.1 29 = (σ.1 29) from ((hx55_ 29 rg_504).1).trans rfl))
        refine W.widen (k := 0) (n := 0) (Nat.le_of_ble_eq_true rfl) (Nat.le_of_ble_eq_true rfl) ?_
        refine lv_iconst (v := 1) hx hb dX12_spread_376 rg_6 ?_
        rw [hQ]
        have o33 : (σ.2.1 17 (Int32.toNatClampNeg z2_)).toInt = 7 := by omega
        have K62_ : (σ.2.1 17 (12 * (σ.1 29).toNatClampNeg + st9.toNatClampNeg)).toInt = 7 := by rw [← Xz2_]; exact o33
        have a9 : z4_.toNatClampNeg = (σ.2.1 18 (12 * (σ.1 29).toNatClampNeg + st9.toNatClampNeg)).toNatClampNeg := by rw [← Xz2_, ← ez4_]
        have b9 : z5_.toNatClampNeg = (σ.2.1 19 (12 * (σ.1 29).toNatClampNeg + st9.toNatClampNeg)).toNatClampNeg := by rw [← Xz2_, ← ez5_]
        have o34 : ¬ z34_.toInt = 0 := by omega
        have U63_ : Ers (σ.2.2.1 43) (σ.2.2.1 44) (σ.2.1 20 (12 * (σ.1 29).toNatClampNeg + st9.toNatClampNeg)).toNatClampNeg ∨ Ers (σ.2.2.1 43) (σ.2.2.1 44) (σ.2.1 21 (12 * (σ.1 29).toNatClampNeg + st9.toNatClampNeg)).toNatClampNeg := (Or.inr (by have h8 : ¬ (y30_ = 0 ∧ y33_ = 0) := (by rcases f35_ with q | q; exact q.2; exact absurd q.1 o34); simp only [ez4_, ez5_, ez6_, ez7_, ey8_, ez9_, ey11_, ez29_, ey30_, ez31_, ey33_, Xz2_] at h8; exact h8))
        have R59_ : (τ52_.2.2.2 45) = spLo (σ.1 29).toNatClampNeg (cor σ) (coJ σ) (σ.2.2.1 43) (σ.2.2.1 44) st9.toNatClampNeg := by rw [(sp_7 (B := (σ.1 29).toNatClampNeg) (T := cor σ) (J := coJ σ) (L := σ.2.2.1 43) (H := σ.2.2.1 44) (j := st9.toNatClampNeg) K62_).1, f56_, a9, b9]; exact (pk_y (B := (σ.1 29).toNatClampNeg) (J := coJ σ) (L := σ.2.2.1 43) (H := σ.2.2.1 44) (u := ¬ (1 : Int32).toInt = 0) (rg_502 : ¬ (1 : Int32).toInt = 0)).1.trans (pk_y (B := (σ.1 29).toNatClampNeg) (J := coJ σ) (L := σ.2.2.1 43) (H := σ.2.2.1 44) U63_).1.symm
        have R60_ : (τ52_.2.2.2 46) = spHi (σ.1 29).toNatClampNeg (cor σ) (coJ σ) (σ.2.2.1 43) (σ.2.2.1 44) st9.toNatClampNeg := by rw [(sp_7 (B := (σ.1 29).toNatClampNeg) (T := cor σ) (J := coJ σ) (L := σ.2.2.1 43) (H := σ.2.2.1 44) (j := st9.toNatClampNeg) K62_).2, f57_, a9, b9]; exact (pk_y (B := (σ.1 29).toNatClampNeg) (J := coJ σ) (L := σ.2.2.1 43) (H := σ.2.2.1 44) (u := ¬ (1 : Int32).toInt = 0) (rg_502 : ¬ (1 : Int32).toInt = 0)).2.trans (pk_y (B := (σ.1 29).toNatClampNeg) (J := coJ σ) (L := σ.2.2.1 43) (H := σ.2.2.1 44) U63_).2.symm
        have o35 : ¬ (σ.2.1 17 (Int32.toNatClampNeg z2_)).toInt = 6 := by omega
        have K64_ : ¬ (σ.2.1 17 (12 * (σ.1 29).toNatClampNeg + st9.toNatClampNeg)).toInt = 6 := by rw [← Xz2_]; exact o35
        have R61_ : (1 : Int32).toInt = 1 ∧ spOk (σ.1 29).toNatClampNeg (cor σ) (σ.2.2.1 43) (σ.2.2.1 44) st9.toNatClampNeg ∨ (1 : Int32).toInt = 0 ∧ ¬ spOk (σ.1 29).toNatClampNeg (cor σ) (σ.2.2.1 43) (σ.2.2.1 44) st9.toNatClampNeg := Or.inl ⟨rg_18, fun h7 => absurd h7 K64_⟩
        exact W.zret (v := 1) hx hb hr rfl (fun t ht hW => ⟨⟨1, τ52_, rfl, ⟨hI54_, Xτ52_, R59_, R60_, R61_⟩, wEn_of hP (hK.sub [] rfl) hD ht hW⟩, hS.F ht⟩) hS.2.2 dX12_spread_377
  · by_cases c_hi : 6 < z6_.toInt
    · refine lv_tableOut (tgt := 308) hx hb dX12_spread_37 (Or.inr c_hi) rfl ?_
      refine lv_aload_n hx hb dX12_spread_308 rfl (lv_at hl 3 rfl) ?_
      refine lv_iload_n hx hb dX12_spread_309 rfl (lv_at hl 1 rfl) ?_
      refine lv_iload hx hb dX12_spread_310 (lv_at hl 0 rfl) ?_
      refine lv_aload_n hx hb dX12_spread_312 rfl (lv_at hl 3 rfl) ?_
      refine va_get (D := (dC, dI)) (ci := 12) (v := .ref (ad 43)) (C := RX12) (T := TX12) (N := 59) hx hb hts hin12 hown hK hP 0 rfl rfl 43 (Nat.le_of_ble_eq_true rfl) (ho (.fieldLink RX12 107 "NearEnoughModel" "low" "[J") (List.mem_of_getElem? (i := 5) rfl)) (fun _ h9 => h9) rfl dX12_spread_313 ?_
      refine lv_aload_n hx hb dX12_spread_316 rfl (lv_at hl 3 rfl) ?_
      refine va_get (D := (dC, dI)) (ci := 12) (v := .ref (ad 20)) (C := RX12) (T := TX12) (N := 59) hx hb hts hin12 hown hK hP 0 rfl rfl 20 (Nat.le_of_ble_eq_true rfl) (ho (.fieldLink RX12 48 "NearEnoughModel" "sC" "[I") (List.mem_of_getElem? (i := 6) rfl)) (fun _ h9 => h9) rfl dX12_spread_317 ?_
      refine lv_iload_n hx hb dX12_spread_320 rfl (lv_at hl 2 rfl) ?_
      refine va_iald hx hb hK hP 12 11 rfl rfl (ti_inx o4 o5) dX12_spread_321 ?_
      refine lv_topi (fun z65_ ez65_ => ?_)
      have gz65_ : z65_.toInt = ((σ.2.1 20) (Int32.toNatClampNeg z2_)).toInt := congrArg Int32.toInt (ez65_.trans (congrFun (tL.trans tL) (Int32.toNatClampNeg z2_)))
      have bz65_ : (-1) ≤ z65_.toInt ∧ z65_.toInt ≤ 99 := by rw [ez65_]; exact (hI.2 20) _ (cl_lt (n := 24) o4 o5)
      have o36 : 0 ≤ z65_.toInt := by omega
      have o37 : z65_.toInt < ((12 : Nat) : Int) := by omega
      refine va_lald hx hb hK hP 31 30 rfl rfl (ti_inx o36 o37) dX12_spread_322 ?_
      refine lv_topl (fun y66_ ey66_ => ?_)
      refine lv_aload_n hx hb dX12_spread_323 rfl (lv_at hl 3 rfl) ?_
      refine va_get (D := (dC, dI)) (ci := 12) (v := .ref (ad 44)) (C := RX12) (T := TX12) (N := 59) hx hb hts hin12 hown hK hP 0 rfl rfl 44 (Nat.le_of_ble_eq_true rfl) (ho (.fieldLink RX12 110 "NearEnoughModel" "high0" "[J") (List.mem_of_getElem? (i := 7) rfl)) (fun _ h9 => h9) rfl dX12_spread_324 ?_
      refine lv_aload_n hx hb dX12_spread_327 rfl (lv_at hl 3 rfl) ?_
      refine va_get (D := (dC, dI)) (ci := 12) (v := .ref (ad 20)) (C := RX12) (T := TX12) (N := 59) hx hb hts hin12 hown hK hP 0 rfl rfl 20 (Nat.le_of_ble_eq_true rfl) (ho (.fieldLink RX12 48 "NearEnoughModel" "sC" "[I") (List.mem_of_getElem? (i := 6) rfl)) (fun _ h9 => h9) rfl dX12_spread_328 ?_
      refine lv_iload_n hx hb dX12_spread_331 rfl (lv_at hl 2 rfl) ?_
      refine va_iald hx hb hK hP 12 11 rfl rfl (ti_inx o4 o5) dX12_spread_332 ?_
      refine lv_topi (fun z67_ ez67_ => ?_)
      have qq68_ : z67_.toInt = z65_.toInt := congrArg Int32.toInt ((ez67_.trans (congrFun (tL.trans tL) (Int32.toNatClampNeg z2_))).trans ((ez65_.trans (congrFun (tL.trans tL) (Int32.toNatClampNeg z2_)))).symm)
      have gz67_ : z67_.toInt = ((σ.2.1 20) (Int32.toNatClampNeg z2_)).toInt := congrArg Int32.toInt (ez67_.trans (congrFun (tL.trans tL) (Int32.toNatClampNeg z2_)))
      have bz67_ : (-1) ≤ z67_.toInt ∧ z67_.toInt ≤ 99 := by rw [ez67_]; exact (hI.2 20) _ (cl_lt (n := 24) o4 o5)
      have o38 : 0 ≤ z67_.toInt := by omega
      have o39 : z67_.toInt < ((12 : Nat) : Int) := by omega
      refine va_lald hx hb hK hP 32 31 rfl rfl (ti_inx o38 o39) dX12_spread_333 ?_
      refine lv_topl (fun y69_ ey69_ => ?_)
      refine zs_i (va_runS (As := [.long y66_, .long y69_]) (rest := [.int z5_, .int z4_, .ref h]) ⟨hx, hb, hml, hown, hts⟩ (n_errsV l dC dI y66_ y69_  H.size) (va_cwS 2 hts gd_n_spread_385_n_errsV rfl rfl rfl dd_n_errsV ⟨Nat.le_of_ble_eq_true rfl, Nat.le_of_ble_eq_true rfl⟩) (preS (A := A) empP (hK.sub (tys' := []) [] rfl) empD hE) rfl rfl hl.1 rfl (lv_room (Nat.le_of_ble_eq_true rfl)) dX12_spread_334 ⟨Nat.le_of_ble_eq_true rfl, Nat.le_of_ble_eq_true rfl⟩) hP hD hS hA (fun z70_ H locs hq hP hD hS => ?_)
      have f71_ := hq
      refine W.widen (k := 0) (n := 0) (Nat.le_of_ble_eq_true rfl) (Nat.le_of_ble_eq_true rfl) ?_
      refine lv_if_ne (tgt := 368) hx hb dX12_spread_337 rfl (fun c72_ => ?_) (fun c72_ => ?_)
      · have tc72_ := (show z70_.toInt ≠ 0 from ti_ne rfl rg_11 c72_)
        refine lv_iconst (v := 1) hx hb dX12_spread_368 rg_6 ?_
        refine lv_goto (tgt := 373) hx hb dX12_spread_369 rfl ?_
        have kk73_ : (1 : Int32).toInt = 1 := rg_18
        have o40 : 0 ≤ z4_.toInt := by omega
        have o41 : z4_.toInt ≤ 11 := by omega
        have o42 : 0 ≤ z5_.toInt := by omega
        have o43 : z5_.toInt ≤ 11 := by omega
        refine zy_v (va_runV (As := [.int z4_, .int z5_, .int 1]) (rest := []) ⟨hx, hb, hml, hown, hts⟩ (n_spreadPick l dC dI h ad cl H.size (sL (sL σ 45 0) 46 0) z4_ z5_ 1 (Inv.sL (Inv.sL hI)) ⟨o40, o41⟩ ⟨o42, o43⟩) (cwV 3 hts gd_n_spread_392_n_spreadPick rfl rfl rfl dd_n_spreadPick ⟨Nat.le_of_ble_eq_true rfl, Nat.le_of_ble_eq_true rfl⟩) (preV hP hK hD hE (ci := 12) (q0 := 0) rfl rfl) rfl rfl hl.1 rfl (lv_room (Nat.le_of_ble_eq_true rfl)) dX12_spread_373 ⟨Nat.le_of_ble_eq_true rfl, Nat.le_of_ble_eq_true rfl⟩) hD hS hA (fun τ74_ H locs hq hP hD hS => ?_)
        obtain ⟨hI76_, hx77_, f78_, f79_⟩ := hq
        have Xτ74_ : eqx [45, 46] τ74_ σ := eqx.tr hx77_ (eqx.sL (eqx.sL eqx.rf rg_498) rg_499) rg_503
        have qq80_ : (τ74_.1 29).toInt = ((σ.1 29) : Int32).toInt := congrArg Int32.toInt ((show τ74_.1 29 = (σ.1 29) from ((hx77_ 29 rg_504).1).trans rfl))
        refine W.widen (k := 0) (n := 0) (Nat.le_of_ble_eq_true rfl) (Nat.le_of_ble_eq_true rfl) ?_
        refine lv_iconst (v := 1) hx hb dX12_spread_376 rg_6 ?_
        rw [hQ]
        have o44 : (σ.2.1 17 (Int32.toNatClampNeg z2_)).toInt = 7 := by omega
        have K84_ : (σ.2.1 17 (12 * (σ.1 29).toNatClampNeg + st9.toNatClampNeg)).toInt = 7 := by rw [← Xz2_]; exact o44
        have a9 : z4_.toNatClampNeg = (σ.2.1 18 (12 * (σ.1 29).toNatClampNeg + st9.toNatClampNeg)).toNatClampNeg := by rw [← Xz2_, ← ez4_]
        have b9 : z5_.toNatClampNeg = (σ.2.1 19 (12 * (σ.1 29).toNatClampNeg + st9.toNatClampNeg)).toNatClampNeg := by rw [← Xz2_, ← ez5_]
        have o45 : ¬ z70_.toInt = 0 := by omega
        have U85_ : Ers (σ.2.2.1 43) (σ.2.2.1 44) (σ.2.1 20 (12 * (σ.1 29).toNatClampNeg + st9.toNatClampNeg)).toNatClampNeg ∨ Ers (σ.2.2.1 43) (σ.2.2.1 44) (σ.2.1 21 (12 * (σ.1 29).toNatClampNeg + st9.toNatClampNeg)).toNatClampNeg := (Or.inl (by have h8 : ¬ (y66_ = 0 ∧ y69_ = 0) := (by rcases f71_ with q | q; exact q.2; exact absurd q.1 o45); simp only [ez4_, ez5_, ez6_, ez65_, ey66_, ez67_, ey69_, Xz2_] at h8; exact h8))
        have R81_ : (τ74_.2.2.2 45) = spLo (σ.1 29).toNatClampNeg (cor σ) (coJ σ) (σ.2.2.1 43) (σ.2.2.1 44) st9.toNatClampNeg := by rw [(sp_7 (B := (σ.1 29).toNatClampNeg) (T := cor σ) (J := coJ σ) (L := σ.2.2.1 43) (H := σ.2.2.1 44) (j := st9.toNatClampNeg) K84_).1, f78_, a9, b9]; exact (pk_y (B := (σ.1 29).toNatClampNeg) (J := coJ σ) (L := σ.2.2.1 43) (H := σ.2.2.1 44) (u := ¬ (1 : Int32).toInt = 0) (rg_502 : ¬ (1 : Int32).toInt = 0)).1.trans (pk_y (B := (σ.1 29).toNatClampNeg) (J := coJ σ) (L := σ.2.2.1 43) (H := σ.2.2.1 44) U85_).1.symm
        have R82_ : (τ74_.2.2.2 46) = spHi (σ.1 29).toNatClampNeg (cor σ) (coJ σ) (σ.2.2.1 43) (σ.2.2.1 44) st9.toNatClampNeg := by rw [(sp_7 (B := (σ.1 29).toNatClampNeg) (T := cor σ) (J := coJ σ) (L := σ.2.2.1 43) (H := σ.2.2.1 44) (j := st9.toNatClampNeg) K84_).2, f79_, a9, b9]; exact (pk_y (B := (σ.1 29).toNatClampNeg) (J := coJ σ) (L := σ.2.2.1 43) (H := σ.2.2.1 44) (u := ¬ (1 : Int32).toInt = 0) (rg_502 : ¬ (1 : Int32).toInt = 0)).2.trans (pk_y (B := (σ.1 29).toNatClampNeg) (J := coJ σ) (L := σ.2.2.1 43) (H := σ.2.2.1 44) U85_).2.symm
        have o46 : ¬ (σ.2.1 17 (Int32.toNatClampNeg z2_)).toInt = 6 := by omega
        have K86_ : ¬ (σ.2.1 17 (12 * (σ.1 29).toNatClampNeg + st9.toNatClampNeg)).toInt = 6 := by rw [← Xz2_]; exact o46
        have R83_ : (1 : Int32).toInt = 1 ∧ spOk (σ.1 29).toNatClampNeg (cor σ) (σ.2.2.1 43) (σ.2.2.1 44) st9.toNatClampNeg ∨ (1 : Int32).toInt = 0 ∧ ¬ spOk (σ.1 29).toNatClampNeg (cor σ) (σ.2.2.1 43) (σ.2.2.1 44) st9.toNatClampNeg := Or.inl ⟨rg_18, fun h7 => absurd h7 K86_⟩
        exact W.zret (v := 1) hx hb hr rfl (fun t ht hW => ⟨⟨1, τ74_, rfl, ⟨hI76_, Xτ74_, R81_, R82_, R83_⟩, wEn_of hP (hK.sub [] rfl) hD ht hW⟩, hS.F ht⟩) hS.2.2 dX12_spread_377
      · have tc72_ := (show z70_.toInt = 0 from ti_eq rfl rg_11 c72_)
        refine lv_aload_n hx hb dX12_spread_340 rfl (lv_at hl 3 rfl) ?_
        refine va_get (D := (dC, dI)) (ci := 12) (v := .ref (ad 43)) (C := RX12) (T := TX12) (N := 59) hx hb hts hin12 hown hK hP 0 rfl rfl 43 (Nat.le_of_ble_eq_true rfl) (ho (.fieldLink RX12 107 "NearEnoughModel" "low" "[J") (List.mem_of_getElem? (i := 5) rfl)) (fun _ h9 => h9) rfl dX12_spread_341 ?_
        refine lv_aload_n hx hb dX12_spread_344 rfl (lv_at hl 3 rfl) ?_
        refine va_get (D := (dC, dI)) (ci := 12) (v := .ref (ad 21)) (C := RX12) (T := TX12) (N := 59) hx hb hts hin12 hown hK hP 0 rfl rfl 21 (Nat.le_of_ble_eq_true rfl) (ho (.fieldLink RX12 51 "NearEnoughModel" "sD" "[I") (List.mem_of_getElem? (i := 8) rfl)) (fun _ h9 => h9) rfl dX12_spread_345 ?_
        refine lv_iload_n hx hb dX12_spread_348 rfl (lv_at hl 2 rfl) ?_
        refine va_iald hx hb hK hP 13 12 rfl rfl (ti_inx o4 o5) dX12_spread_349 ?_
        refine lv_topi (fun z87_ ez87_ => ?_)
        have gz87_ : z87_.toInt = ((σ.2.1 21) (Int32.toNatClampNeg z2_)).toInt := congrArg Int32.toInt (ez87_.trans (congrFun (tL.trans tL) (Int32.toNatClampNeg z2_)))
        have bz87_ : (-1) ≤ z87_.toInt ∧ z87_.toInt ≤ 11 := by rw [ez87_]; exact (hI.2 21) _ (cl_lt (n := 24) o4 o5)
        have o47 : 0 ≤ z87_.toInt := by omega
        have o48 : z87_.toInt < ((12 : Nat) : Int) := by omega
        refine va_lald hx hb hK hP 31 30 rfl rfl (ti_inx o47 o48) dX12_spread_350 ?_
        refine lv_topl (fun y88_ ey88_ => ?_)
        refine lv_aload_n hx hb dX12_spread_351 rfl (lv_at hl 3 rfl) ?_
        refine va_get (D := (dC, dI)) (ci := 12) (v := .ref (ad 44)) (C := RX12) (T := TX12) (N := 59) hx hb hts hin12 hown hK hP 0 rfl rfl 44 (Nat.le_of_ble_eq_true rfl) (ho (.fieldLink RX12 110 "NearEnoughModel" "high0" "[J") (List.mem_of_getElem? (i := 7) rfl)) (fun _ h9 => h9) rfl dX12_spread_352 ?_
        refine lv_aload_n hx hb dX12_spread_355 rfl (lv_at hl 3 rfl) ?_
        refine va_get (D := (dC, dI)) (ci := 12) (v := .ref (ad 21)) (C := RX12) (T := TX12) (N := 59) hx hb hts hin12 hown hK hP 0 rfl rfl 21 (Nat.le_of_ble_eq_true rfl) (ho (.fieldLink RX12 51 "NearEnoughModel" "sD" "[I") (List.mem_of_getElem? (i := 8) rfl)) (fun _ h9 => h9) rfl dX12_spread_356 ?_
        refine lv_iload_n hx hb dX12_spread_359 rfl (lv_at hl 2 rfl) ?_
        refine va_iald hx hb hK hP 13 12 rfl rfl (ti_inx o4 o5) dX12_spread_360 ?_
        refine lv_topi (fun z89_ ez89_ => ?_)
        have qq90_ : z89_.toInt = z87_.toInt := congrArg Int32.toInt ((ez89_.trans (congrFun (tL.trans tL) (Int32.toNatClampNeg z2_))).trans ((ez87_.trans (congrFun (tL.trans tL) (Int32.toNatClampNeg z2_)))).symm)
        have gz89_ : z89_.toInt = ((σ.2.1 21) (Int32.toNatClampNeg z2_)).toInt := congrArg Int32.toInt (ez89_.trans (congrFun (tL.trans tL) (Int32.toNatClampNeg z2_)))
        have bz89_ : (-1) ≤ z89_.toInt ∧ z89_.toInt ≤ 11 := by rw [ez89_]; exact (hI.2 21) _ (cl_lt (n := 24) o4 o5)
        have o49 : 0 ≤ z89_.toInt := by omega
        have o50 : z89_.toInt < ((12 : Nat) : Int) := by omega
        refine va_lald hx hb hK hP 32 31 rfl rfl (ti_inx o49 o50) dX12_spread_361 ?_
        refine lv_topl (fun y91_ ey91_ => ?_)
        refine zs_i (va_runS (As := [.long y88_, .long y91_]) (rest := [.int z5_, .int z4_, .ref h]) ⟨hx, hb, hml, hown, hts⟩ (n_errsV l dC dI y88_ y91_  H.size) (va_cwS 2 hts gd_n_spread_385_n_errsV rfl rfl rfl dd_n_errsV ⟨Nat.le_of_ble_eq_true rfl, Nat.le_of_ble_eq_true rfl⟩) (preS (A := A) empP (hK.sub (tys' := []) [] rfl) empD hE) rfl rfl hl.1 rfl (lv_room (Nat.le_of_ble_eq_true rfl)) dX12_spread_362 ⟨Nat.le_of_ble_eq_true rfl, Nat.le_of_ble_eq_true rfl⟩) hP hD hS hA (fun z92_ H locs hq hP hD hS => ?_)
        have f93_ := hq
        refine W.widen (k := 0) (n := 0) (Nat.le_of_ble_eq_true rfl) (Nat.le_of_ble_eq_true rfl) ?_
        refine lv_if_eq (tgt := 372) hx hb dX12_spread_365 rfl (fun c94_ => ?_) (fun c94_ => ?_)
        · have tc94_ := (show z92_.toInt = 0 from ti_eq rfl rg_11 c94_)
          refine lv_iconst (v := 0) hx hb dX12_spread_372 rg_0 ?_
          have kk95_ : (0 : Int32).toInt = 0 := rg_11
          have o51 : 0 ≤ z4_.toInt := by omega
          have o52 : z4_.toInt ≤ 11 := by omega
          have o53 : 0 ≤ z5_.toInt := by omega
          have o54 : z5_.toInt ≤ 11 := by omega
          refine zy_v (va_runV (As := [.int z4_, .int z5_, .int 0]) (rest := []) ⟨hx, hb, hml, hown, hts⟩ (n_spreadPick l dC dI h ad cl H.size (sL (sL σ 45 0) 46 0) z4_ z5_ 0 (Inv.sL (Inv.sL hI)) ⟨o51, o52⟩ ⟨o53, o54⟩) (cwV 3 hts gd_n_spread_392_n_spreadPick rfl rfl rfl dd_n_spreadPick ⟨Nat.le_of_ble_eq_true rfl, Nat.le_of_ble_eq_true rfl⟩) (preV hP hK hD hE (ci := 12) (q0 := 0) rfl rfl) rfl rfl hl.1 rfl (lv_room (Nat.le_of_ble_eq_true rfl)) dX12_spread_373 ⟨Nat.le_of_ble_eq_true rfl, Nat.le_of_ble_eq_true rfl⟩) hD hS hA (fun τ96_ H locs hq hP hD hS => ?_)
          obtain ⟨hI98_, hx99_, f100_, f101_⟩ := hq
          have Xτ96_ : eqx [45, 46] τ96_ σ := eqx.tr hx99_ (eqx.sL (eqx.sL eqx.rf rg_498) rg_499) rg_503
          have qq102_ : (τ96_.1 29).toInt = ((σ.1 29) : Int32).toInt := congrArg Int32.toInt ((show τ96_.1 29 = (σ.1 29) from ((hx99_ 29 rg_504).1).trans rfl))
          refine W.widen (k := 0) (n := 0) (Nat.le_of_ble_eq_true rfl) (Nat.le_of_ble_eq_true rfl) ?_
          refine lv_iconst (v := 1) hx hb dX12_spread_376 rg_6 ?_
          rw [hQ]
          have o55 : (σ.2.1 17 (Int32.toNatClampNeg z2_)).toInt = 7 := by omega
          have K106_ : (σ.2.1 17 (12 * (σ.1 29).toNatClampNeg + st9.toNatClampNeg)).toInt = 7 := by rw [← Xz2_]; exact o55
          have a9 : z4_.toNatClampNeg = (σ.2.1 18 (12 * (σ.1 29).toNatClampNeg + st9.toNatClampNeg)).toNatClampNeg := by rw [← Xz2_, ← ez4_]
          have b9 : z5_.toNatClampNeg = (σ.2.1 19 (12 * (σ.1 29).toNatClampNeg + st9.toNatClampNeg)).toNatClampNeg := by rw [← Xz2_, ← ez5_]
          have o56 : ¬ z70_.toInt = 1 := by omega
          have o57 : ¬ z92_.toInt = 1 := by omega
          have U107_ : ¬ (Ers (σ.2.2.1 43) (σ.2.2.1 44) (σ.2.1 20 (12 * (σ.1 29).toNatClampNeg + st9.toNatClampNeg)).toNatClampNeg ∨ Ers (σ.2.2.1 43) (σ.2.2.1 44) (σ.2.1 21 (12 * (σ.1 29).toNatClampNeg + st9.toNatClampNeg)).toNatClampNeg) := (fun h7 => h7.elim (fun h6 => h6 (by have h8 : y66_ = 0 ∧ y69_ = 0 := (by rcases f71_ with q | q; exact absurd q.1 o56; exact q.2); simp only [ez4_, ez5_, ez6_, ez65_, ey66_, ez67_, ey69_, ez87_, ey88_, ez89_, ey91_, Xz2_] at h8; exact h8)) (fun h6 => h6 (by have h8 : y88_ = 0 ∧ y91_ = 0 := (by rcases f93_ with q | q; exact absurd q.1 o57; exact q.2); simp only [ez4_, ez5_, ez6_, ez65_, ey66_, ez67_, ey69_, ez87_, ey88_, ez89_, ey91_, Xz2_] at h8; exact h8)))
          have R103_ : (τ96_.2.2.2 45) = spLo (σ.1 29).toNatClampNeg (cor σ) (coJ σ) (σ.2.2.1 43) (σ.2.2.1 44) st9.toNatClampNeg := by rw [(sp_7 (B := (σ.1 29).toNatClampNeg) (T := cor σ) (J := coJ σ) (L := σ.2.2.1 43) (H := σ.2.2.1 44) (j := st9.toNatClampNeg) K106_).1, f100_, a9, b9]; exact (pk_n (B := (σ.1 29).toNatClampNeg) (J := coJ σ) (L := σ.2.2.1 43) (H := σ.2.2.1 44) (u := ¬ (0 : Int32).toInt = 0) (fun h9 => h9 rg_11)).1.trans (pk_n (B := (σ.1 29).toNatClampNeg) (J := coJ σ) (L := σ.2.2.1 43) (H := σ.2.2.1 44) U107_).1.symm
          have R104_ : (τ96_.2.2.2 46) = spHi (σ.1 29).toNatClampNeg (cor σ) (coJ σ) (σ.2.2.1 43) (σ.2.2.1 44) st9.toNatClampNeg := by rw [(sp_7 (B := (σ.1 29).toNatClampNeg) (T := cor σ) (J := coJ σ) (L := σ.2.2.1 43) (H := σ.2.2.1 44) (j := st9.toNatClampNeg) K106_).2, f101_, a9, b9]; exact (pk_n (B := (σ.1 29).toNatClampNeg) (J := coJ σ) (L := σ.2.2.1 43) (H := σ.2.2.1 44) (u := ¬ (0 : Int32).toInt = 0) (fun h9 => h9 rg_11)).2.trans (pk_n (B := (σ.1 29).toNatClampNeg) (J := coJ σ) (L := σ.2.2.1 43) (H := σ.2.2.1 44) U107_).2.symm
          have o58 : ¬ (σ.2.1 17 (Int32.toNatClampNeg z2_)).toInt = 6 := by omega
          have K108_ : ¬ (σ.2.1 17 (12 * (σ.1 29).toNatClampNeg + st9.toNatClampNeg)).toInt = 6 := by rw [← Xz2_]; exact o58
          have R105_ : (1 : Int32).toInt = 1 ∧ spOk (σ.1 29).toNatClampNeg (cor σ) (σ.2.2.1 43) (σ.2.2.1 44) st9.toNatClampNeg ∨ (1 : Int32).toInt = 0 ∧ ¬ spOk (σ.1 29).toNatClampNeg (cor σ) (σ.2.2.1 43) (σ.2.2.1 44) st9.toNatClampNeg := Or.inl ⟨rg_18, fun h7 => absurd h7 K108_⟩
          exact W.zret (v := 1) hx hb hr rfl (fun t ht hW => ⟨⟨1, τ96_, rfl, ⟨hI98_, Xτ96_, R103_, R104_, R105_⟩, wEn_of hP (hK.sub [] rfl) hD ht hW⟩, hS.F ht⟩) hS.2.2 dX12_spread_377
        · have tc94_ := (show z92_.toInt ≠ 0 from ti_ne rfl rg_11 c94_)
          refine lv_iconst (v := 1) hx hb dX12_spread_368 rg_6 ?_
          refine lv_goto (tgt := 373) hx hb dX12_spread_369 rfl ?_
          have kk109_ : (1 : Int32).toInt = 1 := rg_18
          have o59 : 0 ≤ z4_.toInt := by omega
          have o60 : z4_.toInt ≤ 11 := by omega
          have o61 : 0 ≤ z5_.toInt := by omega
          have o62 : z5_.toInt ≤ 11 := by omega
          refine zy_v (va_runV (As := [.int z4_, .int z5_, .int 1]) (rest := []) ⟨hx, hb, hml, hown, hts⟩ (n_spreadPick l dC dI h ad cl H.size (sL (sL σ 45 0) 46 0) z4_ z5_ 1 (Inv.sL (Inv.sL hI)) ⟨o59, o60⟩ ⟨o61, o62⟩) (cwV 3 hts gd_n_spread_392_n_spreadPick rfl rfl rfl dd_n_spreadPick ⟨Nat.le_of_ble_eq_true rfl, Nat.le_of_ble_eq_true rfl⟩) (preV hP hK hD hE (ci := 12) (q0 := 0) rfl rfl) rfl rfl hl.1 rfl (lv_room (Nat.le_of_ble_eq_true rfl)) dX12_spread_373 ⟨Nat.le_of_ble_eq_true rfl, Nat.le_of_ble_eq_true rfl⟩) hD hS hA (fun τ110_ H locs hq hP hD hS => ?_)
          obtain ⟨hI112_, hx113_, f114_, f115_⟩ := hq
          have Xτ110_ : eqx [45, 46] τ110_ σ := eqx.tr hx113_ (eqx.sL (eqx.sL eqx.rf rg_498) rg_499) rg_503
          have qq116_ : (τ110_.1 29).toInt = ((σ.1 29) : Int32).toInt := congrArg Int32.toInt ((show τ110_.1 29 = (σ.1 29) from ((hx113_ 29 rg_504).1).trans rfl))
          refine W.widen (k := 0) (n := 0) (Nat.le_of_ble_eq_true rfl) (Nat.le_of_ble_eq_true rfl) ?_
          refine lv_iconst (v := 1) hx hb dX12_spread_376 rg_6 ?_
          rw [hQ]
          have o63 : (σ.2.1 17 (Int32.toNatClampNeg z2_)).toInt = 7 := by omega
          have K120_ : (σ.2.1 17 (12 * (σ.1 29).toNatClampNeg + st9.toNatClampNeg)).toInt = 7 := by rw [← Xz2_]; exact o63
          have a9 : z4_.toNatClampNeg = (σ.2.1 18 (12 * (σ.1 29).toNatClampNeg + st9.toNatClampNeg)).toNatClampNeg := by rw [← Xz2_, ← ez4_]
          have b9 : z5_.toNatClampNeg = (σ.2.1 19 (12 * (σ.1 29).toNatClampNeg + st9.toNatClampNeg)).toNatClampNeg := by rw [← Xz2_, ← ez5_]
          have o64 : ¬ z92_.toInt = 0 := by omega
          have U121_ : Ers (σ.2.2.1 43) (σ.2.2.1 44) (σ.2.1 20 (12 * (σ.1 29).toNatClampNeg + st9.toNatClampNeg)).toNatClampNeg ∨ Ers (σ.2.2.1 43) (σ.2.2.1 44) (σ.2.1 21 (12 * (σ.1 29).toNatClampNeg + st9.toNatClampNeg)).toNatClampNeg := (Or.inr (by have h8 : ¬ (y88_ = 0 ∧ y91_ = 0) := (by rcases f93_ with q | q; exact q.2; exact absurd q.1 o64); simp only [ez4_, ez5_, ez6_, ez65_, ey66_, ez67_, ey69_, ez87_, ey88_, ez89_, ey91_, Xz2_] at h8; exact h8))
          have R117_ : (τ110_.2.2.2 45) = spLo (σ.1 29).toNatClampNeg (cor σ) (coJ σ) (σ.2.2.1 43) (σ.2.2.1 44) st9.toNatClampNeg := by rw [(sp_7 (B := (σ.1 29).toNatClampNeg) (T := cor σ) (J := coJ σ) (L := σ.2.2.1 43) (H := σ.2.2.1 44) (j := st9.toNatClampNeg) K120_).1, f114_, a9, b9]; exact (pk_y (B := (σ.1 29).toNatClampNeg) (J := coJ σ) (L := σ.2.2.1 43) (H := σ.2.2.1 44) (u := ¬ (1 : Int32).toInt = 0) (rg_502 : ¬ (1 : Int32).toInt = 0)).1.trans (pk_y (B := (σ.1 29).toNatClampNeg) (J := coJ σ) (L := σ.2.2.1 43) (H := σ.2.2.1 44) U121_).1.symm
          have R118_ : (τ110_.2.2.2 46) = spHi (σ.1 29).toNatClampNeg (cor σ) (coJ σ) (σ.2.2.1 43) (σ.2.2.1 44) st9.toNatClampNeg := by rw [(sp_7 (B := (σ.1 29).toNatClampNeg) (T := cor σ) (J := coJ σ) (L := σ.2.2.1 43) (H := σ.2.2.1 44) (j := st9.toNatClampNeg) K120_).2, f115_, a9, b9]; exact (pk_y (B := (σ.1 29).toNatClampNeg) (J := coJ σ) (L := σ.2.2.1 43) (H := σ.2.2.1 44) (u := ¬ (1 : Int32).toInt = 0) (rg_502 : ¬ (1 : Int32).toInt = 0)).2.trans (pk_y (B := (σ.1 29).toNatClampNeg) (J := coJ σ) (L := σ.2.2.1 43) (H := σ.2.2.1 44) U121_).2.symm
          have o65 : ¬ (σ.2.1 17 (Int32.toNatClampNeg z2_)).toInt = 6 := by omega
          have K122_ : ¬ (σ.2.1 17 (12 * (σ.1 29).toNatClampNeg + st9.toNatClampNeg)).toInt = 6 := by rw [← Xz2_]; exact o65
          have R119_ : (1 : Int32).toInt = 1 ∧ spOk (σ.1 29).toNatClampNeg (cor σ) (σ.2.2.1 43) (σ.2.2.1 44) st9.toNatClampNeg ∨ (1 : Int32).toInt = 0 ∧ ¬ spOk (σ.1 29).toNatClampNeg (cor σ) (σ.2.2.1 43) (σ.2.2.1 44) st9.toNatClampNeg := Or.inl ⟨rg_18, fun h7 => absurd h7 K122_⟩
          exact W.zret (v := 1) hx hb hr rfl (fun t ht hW => ⟨⟨1, τ110_, rfl, ⟨hI112_, Xτ110_, R117_, R118_, R119_⟩, wEn_of hP (hK.sub [] rfl) hD ht hW⟩, hS.F ht⟩) hS.2.2 dX12_spread_377
    · rcases (show z6_.toInt = 0 ∨ z6_.toInt = 1 ∨ z6_.toInt = 2 ∨ z6_.toInt = 3 ∨ z6_.toInt = 4 ∨ z6_.toInt = 5 ∨ z6_.toInt = 6 by omega) with t_sw | t_sw | t_sw | t_sw | t_sw | t_sw | t_sw
      · refine lv_tableIn (tgt := 80) (off := 43) hx hb dX12_spread_37 (by rw [t_sw]; decide) (by rw [t_sw]; decide) (by rw [t_sw]; decide) (by decide) ?_
        refine lv_iconst (v := 1) hx hb dX12_spread_80 rg_6 ?_
        rw [hQ]
        have o66 : (σ.2.1 17 (Int32.toNatClampNeg z2_)).toInt = 0 ∨ (σ.2.1 17 (Int32.toNatClampNeg z2_)).toInt = 1 ∨ (σ.2.1 17 (Int32.toNatClampNeg z2_)).toInt = 6 := by omega
        have K126_ : (σ.2.1 17 (12 * (σ.1 29).toNatClampNeg + st9.toNatClampNeg)).toInt = 0 ∨ (σ.2.1 17 (12 * (σ.1 29).toNatClampNeg + st9.toNatClampNeg)).toInt = 1 ∨ (σ.2.1 17 (12 * (σ.1 29).toNatClampNeg + st9.toNatClampNeg)).toInt = 6 := by rw [← Xz2_]; exact o66
        have R123_ : 0 = spLo (σ.1 29).toNatClampNeg (cor σ) (coJ σ) (σ.2.2.1 43) (σ.2.2.1 44) st9.toNatClampNeg := by rw [(sp_0 (B := (σ.1 29).toNatClampNeg) (T := cor σ) (J := coJ σ) (L := σ.2.2.1 43) (H := σ.2.2.1 44) (j := st9.toNatClampNeg) K126_).1] <;> (simp only [ez4_, ez5_, ez6_, Xz2_] <;> rfl)
        have R124_ : 0 = spHi (σ.1 29).toNatClampNeg (cor σ) (coJ σ) (σ.2.2.1 43) (σ.2.2.1 44) st9.toNatClampNeg := by rw [(sp_0 (B := (σ.1 29).toNatClampNeg) (T := cor σ) (J := coJ σ) (L := σ.2.2.1 43) (H := σ.2.2.1 44) (j := st9.toNatClampNeg) K126_).2] <;> (simp only [ez4_, ez5_, ez6_, Xz2_] <;> rfl)
        have o67 : ¬ (σ.2.1 17 (Int32.toNatClampNeg z2_)).toInt = 6 := by omega
        have K127_ : ¬ (σ.2.1 17 (12 * (σ.1 29).toNatClampNeg + st9.toNatClampNeg)).toInt = 6 := by rw [← Xz2_]; exact o67
        have R125_ : (1 : Int32).toInt = 1 ∧ spOk (σ.1 29).toNatClampNeg (cor σ) (σ.2.2.1 43) (σ.2.2.1 44) st9.toNatClampNeg ∨ (1 : Int32).toInt = 0 ∧ ¬ spOk (σ.1 29).toNatClampNeg (cor σ) (σ.2.2.1 43) (σ.2.2.1 44) st9.toNatClampNeg := Or.inl ⟨rg_18, fun h7 => absurd h7 K127_⟩
        exact W.zret (v := 1) hx hb hr rfl (fun t ht hW => ⟨⟨1, (sL (sL σ 45 0) 46 0), rfl, ⟨(Inv.sL (Inv.sL hI)), (eqx.sL (eqx.sL eqx.rf rg_498) rg_499), R123_, R124_, R125_⟩, wEn_of hP (hK.sub [] rfl) hD ht hW⟩, hS.F ht⟩) hS.2.2 dX12_spread_81
      · refine lv_tableIn (tgt := 80) (off := 43) hx hb dX12_spread_37 (by rw [t_sw]; decide) (by rw [t_sw]; decide) (by rw [t_sw]; decide) (by decide) ?_
        refine lv_iconst (v := 1) hx hb dX12_spread_80 rg_6 ?_
        rw [hQ]
        have o68 : (σ.2.1 17 (Int32.toNatClampNeg z2_)).toInt = 0 ∨ (σ.2.1 17 (Int32.toNatClampNeg z2_)).toInt = 1 ∨ (σ.2.1 17 (Int32.toNatClampNeg z2_)).toInt = 6 := by omega
        have K131_ : (σ.2.1 17 (12 * (σ.1 29).toNatClampNeg + st9.toNatClampNeg)).toInt = 0 ∨ (σ.2.1 17 (12 * (σ.1 29).toNatClampNeg + st9.toNatClampNeg)).toInt = 1 ∨ (σ.2.1 17 (12 * (σ.1 29).toNatClampNeg + st9.toNatClampNeg)).toInt = 6 := by rw [← Xz2_]; exact o68
        have R128_ : 0 = spLo (σ.1 29).toNatClampNeg (cor σ) (coJ σ) (σ.2.2.1 43) (σ.2.2.1 44) st9.toNatClampNeg := by rw [(sp_0 (B := (σ.1 29).toNatClampNeg) (T := cor σ) (J := coJ σ) (L := σ.2.2.1 43) (H := σ.2.2.1 44) (j := st9.toNatClampNeg) K131_).1] <;> (simp only [ez4_, ez5_, ez6_, Xz2_] <;> rfl)
        have R129_ : 0 = spHi (σ.1 29).toNatClampNeg (cor σ) (coJ σ) (σ.2.2.1 43) (σ.2.2.1 44) st9.toNatClampNeg := by rw [(sp_0 (B := (σ.1 29).toNatClampNeg) (T := cor σ) (J := coJ σ) (L := σ.2.2.1 43) (H := σ.2.2.1 44) (j := st9.toNatClampNeg) K131_).2] <;> (simp only [ez4_, ez5_, ez6_, Xz2_] <;> rfl)
        have o69 : ¬ (σ.2.1 17 (Int32.toNatClampNeg z2_)).toInt = 6 := by omega
        have K132_ : ¬ (σ.2.1 17 (12 * (σ.1 29).toNatClampNeg + st9.toNatClampNeg)).toInt = 6 := by rw [← Xz2_]; exact o69
        have R130_ : (1 : Int32).toInt = 1 ∧ spOk (σ.1 29).toNatClampNeg (cor σ) (σ.2.2.1 43) (σ.2.2.1 44) st9.toNatClampNeg ∨ (1 : Int32).toInt = 0 ∧ ¬ spOk (σ.1 29).toNatClampNeg (cor σ) (σ.2.2.1 43) (σ.2.2.1 44) st9.toNatClampNeg := Or.inl ⟨rg_18, fun h7 => absurd h7 K132_⟩
        exact W.zret (v := 1) hx hb hr rfl (fun t ht hW => ⟨⟨1, (sL (sL σ 45 0) 46 0), rfl, ⟨(Inv.sL (Inv.sL hI)), (eqx.sL (eqx.sL eqx.rf rg_498) rg_499), R128_, R129_, R130_⟩, wEn_of hP (hK.sub [] rfl) hD ht hW⟩, hS.F ht⟩) hS.2.2 dX12_spread_81
      · refine lv_tableIn (tgt := 108) (off := 71) hx hb dX12_spread_37 (by rw [t_sw]; decide) (by rw [t_sw]; decide) (by rw [t_sw]; decide) (by decide) ?_
        refine lv_aload_n hx hb dX12_spread_108 rfl (lv_at hl 3 rfl) ?_
        refine lv_aload_n hx hb dX12_spread_109 rfl (lv_at hl 3 rfl) ?_
        refine va_get (D := (dC, dI)) (ci := 12) (v := .ref (ad 43)) (C := RX12) (T := TX12) (N := 59) hx hb hts hin12 hown hK hP 0 rfl rfl 43 (Nat.le_of_ble_eq_true rfl) (ho (.fieldLink RX12 107 "NearEnoughModel" "low" "[J") (List.mem_of_getElem? (i := 5) rfl)) (fun _ h9 => h9) rfl dX12_spread_110 ?_
        refine lv_iload_n hx hb dX12_spread_113 rfl (lv_at hl 1 rfl) ?_
        have o70 : 0 ≤ z4_.toInt := by omega
        have o71 : z4_.toInt < ((12 : Nat) : Int) := by omega
        refine va_lald hx hb hK hP 31 30 rfl rfl (ti_inx o70 o71) dX12_spread_114 ?_
        refine lv_topl (fun y133_ ey133_ => ?_)
        refine lv_aload_n hx hb dX12_spread_115 rfl (lv_at hl 3 rfl) ?_
        refine va_get (D := (dC, dI)) (ci := 12) (v := .ref (ad 43)) (C := RX12) (T := TX12) (N := 59) hx hb hts hin12 hown hK hP 0 rfl rfl 43 (Nat.le_of_ble_eq_true rfl) (ho (.fieldLink RX12 107 "NearEnoughModel" "low" "[J") (List.mem_of_getElem? (i := 5) rfl)) (fun _ h9 => h9) rfl dX12_spread_116 ?_
        refine lv_iload hx hb dX12_spread_119 (lv_at hl 0 rfl) ?_
        have o72 : 0 ≤ z5_.toInt := by omega
        have o73 : z5_.toInt < ((12 : Nat) : Int) := by omega
        refine va_lald hx hb hK hP 31 30 rfl rfl (ti_inx o72 o73) dX12_spread_121 ?_
        refine lv_topl (fun y134_ ey134_ => ?_)
        refine lv_ladd hx hb dX12_spread_122 ?_
        refine lv_topl (fun y135_ ey135_ => ?_)
        refine va_put (D := (dC, dI)) (ci := 12) (v := .long y135_) (ty := tyX12 45) (C := RX12) (T := TX12) (N := 59) hx hb hts hin12 tyX12 tyX12_ok nmX12 hown hK hP hD hS 0 rfl rfl 45 (Nat.le_of_ble_eq_true rfl) (ho (.fieldLink RX12 379 "NearEnoughModel" "spanLow" "J") (List.mem_of_getElem? (i := 2) rfl)) (fun _ h9 => h9) rfl (tyX12_ok 45 (Nat.le_of_ble_eq_true rfl)) rfl rfl (Nat.le_of_ble_eq_true rfl) dX12_spread_123 (fun H locs hP hD hS => ?_)
        have hP : va_P (dC, dI) vwCl (mW h ad cl (sL (sL σ 45 y135_) 46 0)) H := hP
        have hD : va_D A (mW h ad cl (sL (sL σ 45 y135_) 46 0)) := hD
        refine lv_aload_n hx hb dX12_spread_126 rfl (lv_at hl 3 rfl) ?_
        refine lv_aload_n hx hb dX12_spread_127 rfl (lv_at hl 3 rfl) ?_
        refine va_get (D := (dC, dI)) (ci := 12) (v := .ref (ad 44)) (C := RX12) (T := TX12) (N := 59) hx hb hts hin12 hown hK hP 0 rfl rfl 44 (Nat.le_of_ble_eq_true rfl) (ho (.fieldLink RX12 110 "NearEnoughModel" "high0" "[J") (List.mem_of_getElem? (i := 7) rfl)) (fun _ h9 => h9) rfl dX12_spread_128 ?_
        refine lv_iload_n hx hb dX12_spread_131 rfl (lv_at hl 1 rfl) ?_
        refine va_lald hx hb hK hP 32 31 rfl rfl (ti_inx o70 o71) dX12_spread_132 ?_
        refine lv_topl (fun y136_ ey136_ => ?_)
        refine lv_aload_n hx hb dX12_spread_133 rfl (lv_at hl 3 rfl) ?_
        refine va_get (D := (dC, dI)) (ci := 12) (v := .ref (ad 44)) (C := RX12) (T := TX12) (N := 59) hx hb hts hin12 hown hK hP 0 rfl rfl 44 (Nat.le_of_ble_eq_true rfl) (ho (.fieldLink RX12 110 "NearEnoughModel" "high0" "[J") (List.mem_of_getElem? (i := 7) rfl)) (fun _ h9 => h9) rfl dX12_spread_134 ?_
        refine lv_iload hx hb dX12_spread_137 (lv_at hl 0 rfl) ?_
        refine va_lald hx hb hK hP 32 31 rfl rfl (ti_inx o72 o73) dX12_spread_139 ?_
        refine lv_topl (fun y137_ ey137_ => ?_)
        refine lv_ladd hx hb dX12_spread_140 ?_
        refine lv_topl (fun y138_ ey138_ => ?_)
        refine va_put (D := (dC, dI)) (ci := 12) (v := .long y138_) (ty := tyX12 46) (C := RX12) (T := TX12) (N := 59) hx hb hts hin12 tyX12 tyX12_ok nmX12 hown hK hP hD hS 0 rfl rfl 46 (Nat.le_of_ble_eq_true rfl) (ho (.fieldLink RX12 382 "NearEnoughModel" "spanHigh" "J") (List.mem_of_getElem? (i := 3) rfl)) (fun _ h9 => h9) rfl (tyX12_ok 46 (Nat.le_of_ble_eq_true rfl)) rfl rfl (Nat.le_of_ble_eq_true rfl) dX12_spread_141 (fun H locs hP hD hS => ?_)
        have hP : va_P (dC, dI) vwCl (mW h ad cl (sL (sL σ 45 y135_) 46 y138_)) H := hP
        have hD : va_D A (mW h ad cl (sL (sL σ 45 y135_) 46 y138_)) := hD
        refine lv_iconst (v := 1) hx hb dX12_spread_144 rg_6 ?_
        rw [hQ]
        have o74 : (σ.2.1 17 (Int32.toNatClampNeg z2_)).toInt = 2 := by omega
        have K142_ : (σ.2.1 17 (12 * (σ.1 29).toNatClampNeg + st9.toNatClampNeg)).toInt = 2 := by rw [← Xz2_]; exact o74
        have R139_ : y135_ = spLo (σ.1 29).toNatClampNeg (cor σ) (coJ σ) (σ.2.2.1 43) (σ.2.2.1 44) st9.toNatClampNeg := by rw [(sp_2 (B := (σ.1 29).toNatClampNeg) (T := cor σ) (J := coJ σ) (L := σ.2.2.1 43) (H := σ.2.2.1 44) (j := st9.toNatClampNeg) K142_).1] <;> (simp only [ez4_, ez5_, ez6_, ey133_, ey134_, ey135_, ey136_, ey137_, ey138_, Xz2_] <;> rfl)
        have R140_ : y138_ = spHi (σ.1 29).toNatClampNeg (cor σ) (coJ σ) (σ.2.2.1 43) (σ.2.2.1 44) st9.toNatClampNeg := by rw [(sp_2 (B := (σ.1 29).toNatClampNeg) (T := cor σ) (J := coJ σ) (L := σ.2.2.1 43) (H := σ.2.2.1 44) (j := st9.toNatClampNeg) K142_).2] <;> (simp only [ez4_, ez5_, ez6_, ey133_, ey134_, ey135_, ey136_, ey137_, ey138_, Xz2_] <;> rfl)
        have o75 : ¬ (σ.2.1 17 (Int32.toNatClampNeg z2_)).toInt = 6 := by omega
        have K143_ : ¬ (σ.2.1 17 (12 * (σ.1 29).toNatClampNeg + st9.toNatClampNeg)).toInt = 6 := by rw [← Xz2_]; exact o75
        have R141_ : (1 : Int32).toInt = 1 ∧ spOk (σ.1 29).toNatClampNeg (cor σ) (σ.2.2.1 43) (σ.2.2.1 44) st9.toNatClampNeg ∨ (1 : Int32).toInt = 0 ∧ ¬ spOk (σ.1 29).toNatClampNeg (cor σ) (σ.2.2.1 43) (σ.2.2.1 44) st9.toNatClampNeg := Or.inl ⟨rg_18, fun h7 => absurd h7 K143_⟩
        exact W.zret (v := 1) hx hb hr rfl (fun t ht hW => ⟨⟨1, (sL (sL σ 45 y135_) 46 y138_), rfl, ⟨(Inv.sL (Inv.sL hI)), (eqx.sL (eqx.sL eqx.rf rg_498) rg_499), R139_, R140_, R141_⟩, wEn_of hP (hK.sub [] rfl) hD ht hW⟩, hS.F ht⟩) hS.2.2 dX12_spread_145
      · refine lv_tableIn (tgt := 146) (off := 109) hx hb dX12_spread_37 (by rw [t_sw]; decide) (by rw [t_sw]; decide) (by rw [t_sw]; decide) (by decide) ?_
        refine lv_aload_n hx hb dX12_spread_146 rfl (lv_at hl 3 rfl) ?_
        refine lv_aload_n hx hb dX12_spread_147 rfl (lv_at hl 3 rfl) ?_
        refine va_get (D := (dC, dI)) (ci := 12) (v := .ref (ad 43)) (C := RX12) (T := TX12) (N := 59) hx hb hts hin12 hown hK hP 0 rfl rfl 43 (Nat.le_of_ble_eq_true rfl) (ho (.fieldLink RX12 107 "NearEnoughModel" "low" "[J") (List.mem_of_getElem? (i := 5) rfl)) (fun _ h9 => h9) rfl dX12_spread_148 ?_
        refine lv_iload_n hx hb dX12_spread_151 rfl (lv_at hl 1 rfl) ?_
        have o76 : 0 ≤ z4_.toInt := by omega
        have o77 : z4_.toInt < ((12 : Nat) : Int) := by omega
        refine va_lald hx hb hK hP 31 30 rfl rfl (ti_inx o76 o77) dX12_spread_152 ?_
        refine lv_topl (fun y144_ ey144_ => ?_)
        refine lv_aload_n hx hb dX12_spread_153 rfl (lv_at hl 3 rfl) ?_
        refine va_get (D := (dC, dI)) (ci := 12) (v := .ref (ad 44)) (C := RX12) (T := TX12) (N := 59) hx hb hts hin12 hown hK hP 0 rfl rfl 44 (Nat.le_of_ble_eq_true rfl) (ho (.fieldLink RX12 110 "NearEnoughModel" "high0" "[J") (List.mem_of_getElem? (i := 7) rfl)) (fun _ h9 => h9) rfl dX12_spread_154 ?_
        refine lv_iload hx hb dX12_spread_157 (lv_at hl 0 rfl) ?_
        have o78 : 0 ≤ z5_.toInt := by omega
        have o79 : z5_.toInt < ((12 : Nat) : Int) := by omega
        refine va_lald hx hb hK hP 32 31 rfl rfl (ti_inx o78 o79) dX12_spread_159 ?_
        refine lv_topl (fun y145_ ey145_ => ?_)
        refine lv_lsub hx hb dX12_spread_160 ?_
        refine lv_topl (fun y146_ ey146_ => ?_)
        refine va_put (D := (dC, dI)) (ci := 12) (v := .long y146_) (ty := tyX12 45) (C := RX12) (T := TX12) (N := 59) hx hb hts hin12 tyX12 tyX12_ok nmX12 hown hK hP hD hS 0 rfl rfl 45 (Nat.le_of_ble_eq_true rfl) (ho (.fieldLink RX12 379 "NearEnoughModel" "spanLow" "J") (List.mem_of_getElem? (i := 2) rfl)) (fun _ h9 => h9) rfl (tyX12_ok 45 (Nat.le_of_ble_eq_true rfl)) rfl rfl (Nat.le_of_ble_eq_true rfl) dX12_spread_161 (fun H locs hP hD hS => ?_)
        have hP : va_P (dC, dI) vwCl (mW h ad cl (sL (sL σ 45 y146_) 46 0)) H := hP
        have hD : va_D A (mW h ad cl (sL (sL σ 45 y146_) 46 0)) := hD
        refine lv_aload_n hx hb dX12_spread_164 rfl (lv_at hl 3 rfl) ?_
        refine lv_aload_n hx hb dX12_spread_165 rfl (lv_at hl 3 rfl) ?_
        refine va_get (D := (dC, dI)) (ci := 12) (v := .ref (ad 44)) (C := RX12) (T := TX12) (N := 59) hx hb hts hin12 hown hK hP 0 rfl rfl 44 (Nat.le_of_ble_eq_true rfl) (ho (.fieldLink RX12 110 "NearEnoughModel" "high0" "[J") (List.mem_of_getElem? (i := 7) rfl)) (fun _ h9 => h9) rfl dX12_spread_166 ?_
        refine lv_iload_n hx hb dX12_spread_169 rfl (lv_at hl 1 rfl) ?_
        refine va_lald hx hb hK hP 32 31 rfl rfl (ti_inx o76 o77) dX12_spread_170 ?_
        refine lv_topl (fun y147_ ey147_ => ?_)
        refine lv_aload_n hx hb dX12_spread_171 rfl (lv_at hl 3 rfl) ?_
        refine va_get (D := (dC, dI)) (ci := 12) (v := .ref (ad 43)) (C := RX12) (T := TX12) (N := 59) hx hb hts hin12 hown hK hP 0 rfl rfl 43 (Nat.le_of_ble_eq_true rfl) (ho (.fieldLink RX12 107 "NearEnoughModel" "low" "[J") (List.mem_of_getElem? (i := 5) rfl)) (fun _ h9 => h9) rfl dX12_spread_172 ?_
        refine lv_iload hx hb dX12_spread_175 (lv_at hl 0 rfl) ?_
        refine va_lald hx hb hK hP 31 30 rfl rfl (ti_inx o78 o79) dX12_spread_177 ?_
        refine lv_topl (fun y148_ ey148_ => ?_)
        refine lv_lsub hx hb dX12_spread_178 ?_
        refine lv_topl (fun y149_ ey149_ => ?_)
        refine va_put (D := (dC, dI)) (ci := 12) (v := .long y149_) (ty := tyX12 46) (C := RX12) (T := TX12) (N := 59) hx hb hts hin12 tyX12 tyX12_ok nmX12 hown hK hP hD hS 0 rfl rfl 46 (Nat.le_of_ble_eq_true rfl) (ho (.fieldLink RX12 382 "NearEnoughModel" "spanHigh" "J") (List.mem_of_getElem? (i := 3) rfl)) (fun _ h9 => h9) rfl (tyX12_ok 46 (Nat.le_of_ble_eq_true rfl)) rfl rfl (Nat.le_of_ble_eq_true rfl) dX12_spread_179 (fun H locs hP hD hS => ?_)
        have hP : va_P (dC, dI) vwCl (mW h ad cl (sL (sL σ 45 y146_) 46 y149_)) H := hP
        have hD : va_D A (mW h ad cl (sL (sL σ 45 y146_) 46 y149_)) := hD
        refine lv_iconst (v := 1) hx hb dX12_spread_182 rg_6 ?_
        rw [hQ]
        have o80 : (σ.2.1 17 (Int32.toNatClampNeg z2_)).toInt = 3 := by omega
        have K153_ : (σ.2.1 17 (12 * (σ.1 29).toNatClampNeg + st9.toNatClampNeg)).toInt = 3 := by rw [← Xz2_]; exact o80
        have R150_ : y146_ = spLo (σ.1 29).toNatClampNeg (cor σ) (coJ σ) (σ.2.2.1 43) (σ.2.2.1 44) st9.toNatClampNeg := by rw [(sp_3 (B := (σ.1 29).toNatClampNeg) (T := cor σ) (J := coJ σ) (L := σ.2.2.1 43) (H := σ.2.2.1 44) (j := st9.toNatClampNeg) K153_).1] <;> (simp only [ez4_, ez5_, ez6_, ey144_, ey145_, ey146_, ey147_, ey148_, ey149_, Xz2_] <;> rfl)
        have R151_ : y149_ = spHi (σ.1 29).toNatClampNeg (cor σ) (coJ σ) (σ.2.2.1 43) (σ.2.2.1 44) st9.toNatClampNeg := by rw [(sp_3 (B := (σ.1 29).toNatClampNeg) (T := cor σ) (J := coJ σ) (L := σ.2.2.1 43) (H := σ.2.2.1 44) (j := st9.toNatClampNeg) K153_).2] <;> (simp only [ez4_, ez5_, ez6_, ey144_, ey145_, ey146_, ey147_, ey148_, ey149_, Xz2_] <;> rfl)
        have o81 : ¬ (σ.2.1 17 (Int32.toNatClampNeg z2_)).toInt = 6 := by omega
        have K154_ : ¬ (σ.2.1 17 (12 * (σ.1 29).toNatClampNeg + st9.toNatClampNeg)).toInt = 6 := by rw [← Xz2_]; exact o81
        have R152_ : (1 : Int32).toInt = 1 ∧ spOk (σ.1 29).toNatClampNeg (cor σ) (σ.2.2.1 43) (σ.2.2.1 44) st9.toNatClampNeg ∨ (1 : Int32).toInt = 0 ∧ ¬ spOk (σ.1 29).toNatClampNeg (cor σ) (σ.2.2.1 43) (σ.2.2.1 44) st9.toNatClampNeg := Or.inl ⟨rg_18, fun h7 => absurd h7 K154_⟩
        exact W.zret (v := 1) hx hb hr rfl (fun t ht hW => ⟨⟨1, (sL (sL σ 45 y146_) 46 y149_), rfl, ⟨(Inv.sL (Inv.sL hI)), (eqx.sL (eqx.sL eqx.rf rg_498) rg_499), R150_, R151_, R152_⟩, wEn_of hP (hK.sub [] rfl) hD ht hW⟩, hS.F ht⟩) hS.2.2 dX12_spread_183
      · refine lv_tableIn (tgt := 184) (off := 147) hx hb dX12_spread_37 (by rw [t_sw]; decide) (by rw [t_sw]; decide) (by rw [t_sw]; decide) (by decide) ?_
        refine lv_aload_n hx hb dX12_spread_184 rfl (lv_at hl 3 rfl) ?_
        refine lv_iload_n hx hb dX12_spread_185 rfl (lv_at hl 1 rfl) ?_
        refine lv_iload hx hb dX12_spread_186 (lv_at hl 0 rfl) ?_
        have o82 : 0 ≤ z4_.toInt := by omega
        have o83 : z4_.toInt ≤ 11 := by omega
        have o84 : 0 ≤ z5_.toInt := by omega
        have o85 : z5_.toInt ≤ 11 := by omega
        refine zy_v (va_runV (As := [.int z4_, .int z5_]) (rest := []) ⟨hx, hb, hml, hown, hts⟩ (n_spreadTimes l dC dI h ad cl H.size (sL (sL σ 45 0) 46 0) z4_ z5_ (Inv.sL (Inv.sL hI)) ⟨o82, o83⟩ ⟨o84, o85⟩) (cwV 2 hts gd_n_spread_389_n_spreadTimes rfl rfl rfl dd_n_spreadTimes ⟨Nat.le_of_ble_eq_true rfl, Nat.le_of_ble_eq_true rfl⟩) (preV hP hK hD hE (ci := 12) (q0 := 0) rfl rfl) rfl rfl hl.1 rfl (lv_room (Nat.le_of_ble_eq_true rfl)) dX12_spread_188 ⟨Nat.le_of_ble_eq_true rfl, Nat.le_of_ble_eq_true rfl⟩) hD hS hA (fun τ155_ H locs hq hP hD hS => ?_)
        obtain ⟨hI157_, hx158_, f159_, f160_⟩ := hq
        have Xτ155_ : eqx [45, 46] τ155_ σ := eqx.tr hx158_ (eqx.sL (eqx.sL eqx.rf rg_498) rg_499) rg_503
        have qq161_ : (τ155_.1 29).toInt = ((σ.1 29) : Int32).toInt := congrArg Int32.toInt ((show τ155_.1 29 = (σ.1 29) from ((hx158_ 29 rg_504).1).trans rfl))
        refine W.widen (k := 0) (n := 0) (Nat.le_of_ble_eq_true rfl) (Nat.le_of_ble_eq_true rfl) ?_
        refine lv_iconst (v := 1) hx hb dX12_spread_191 rg_6 ?_
        rw [hQ]
        have o86 : (σ.2.1 17 (Int32.toNatClampNeg z2_)).toInt = 4 := by omega
        have K165_ : (σ.2.1 17 (12 * (σ.1 29).toNatClampNeg + st9.toNatClampNeg)).toInt = 4 := by rw [← Xz2_]; exact o86
        have a9 : z4_.toNatClampNeg = (σ.2.1 18 (12 * (σ.1 29).toNatClampNeg + st9.toNatClampNeg)).toNatClampNeg := by rw [← Xz2_, ← ez4_]
        have b9 : z5_.toNatClampNeg = (σ.2.1 19 (12 * (σ.1 29).toNatClampNeg + st9.toNatClampNeg)).toNatClampNeg := by rw [← Xz2_, ← ez5_]
        have R162_ : (τ155_.2.2.2 45) = spLo (σ.1 29).toNatClampNeg (cor σ) (coJ σ) (σ.2.2.1 43) (σ.2.2.1 44) st9.toNatClampNeg := by rw [(sp_4 (B := (σ.1 29).toNatClampNeg) (T := cor σ) (J := coJ σ) (L := σ.2.2.1 43) (H := σ.2.2.1 44) (j := st9.toNatClampNeg) K165_).1, f159_, a9, b9]; rfl
        have R163_ : (τ155_.2.2.2 46) = spHi (σ.1 29).toNatClampNeg (cor σ) (coJ σ) (σ.2.2.1 43) (σ.2.2.1 44) st9.toNatClampNeg := by rw [(sp_4 (B := (σ.1 29).toNatClampNeg) (T := cor σ) (J := coJ σ) (L := σ.2.2.1 43) (H := σ.2.2.1 44) (j := st9.toNatClampNeg) K165_).2, f160_, a9, b9]; rfl
        have o87 : ¬ (σ.2.1 17 (Int32.toNatClampNeg z2_)).toInt = 6 := by omega
        have K166_ : ¬ (σ.2.1 17 (12 * (σ.1 29).toNatClampNeg + st9.toNatClampNeg)).toInt = 6 := by rw [← Xz2_]; exact o87
        have R164_ : (1 : Int32).toInt = 1 ∧ spOk (σ.1 29).toNatClampNeg (cor σ) (σ.2.2.1 43) (σ.2.2.1 44) st9.toNatClampNeg ∨ (1 : Int32).toInt = 0 ∧ ¬ spOk (σ.1 29).toNatClampNeg (cor σ) (σ.2.2.1 43) (σ.2.2.1 44) st9.toNatClampNeg := Or.inl ⟨rg_18, fun h7 => absurd h7 K166_⟩
        exact W.zret (v := 1) hx hb hr rfl (fun t ht hW => ⟨⟨1, τ155_, rfl, ⟨hI157_, Xτ155_, R162_, R163_, R164_⟩, wEn_of hP (hK.sub [] rfl) hD ht hW⟩, hS.F ht⟩) hS.2.2 dX12_spread_192
      · refine lv_tableIn (tgt := 193) (off := 156) hx hb dX12_spread_37 (by rw [t_sw]; decide) (by rw [t_sw]; decide) (by rw [t_sw]; decide) (by decide) ?_
        refine lv_aload_n hx hb dX12_spread_193 rfl (lv_at hl 3 rfl) ?_
        refine va_get (D := (dC, dI)) (ci := 12) (v := .ref (ad 43)) (C := RX12) (T := TX12) (N := 59) hx hb hts hin12 hown hK hP 0 rfl rfl 43 (Nat.le_of_ble_eq_true rfl) (ho (.fieldLink RX12 107 "NearEnoughModel" "low" "[J") (List.mem_of_getElem? (i := 5) rfl)) (fun _ h9 => h9) rfl dX12_spread_194 ?_
        refine lv_iload_n hx hb dX12_spread_197 rfl (lv_at hl 1 rfl) ?_
        have o88 : 0 ≤ z4_.toInt := by omega
        have o89 : z4_.toInt < ((12 : Nat) : Int) := by omega
        refine va_lald hx hb hK hP 31 30 rfl rfl (ti_inx o88 o89) dX12_spread_198 ?_
        refine lv_topl (fun y167_ ey167_ => ?_)
        refine lv_aload_n hx hb dX12_spread_199 rfl (lv_at hl 3 rfl) ?_
        refine va_get (D := (dC, dI)) (ci := 12) (v := .ref (ad 44)) (C := RX12) (T := TX12) (N := 59) hx hb hts hin12 hown hK hP 0 rfl rfl 44 (Nat.le_of_ble_eq_true rfl) (ho (.fieldLink RX12 110 "NearEnoughModel" "high0" "[J") (List.mem_of_getElem? (i := 7) rfl)) (fun _ h9 => h9) rfl dX12_spread_200 ?_
        refine lv_iload_n hx hb dX12_spread_203 rfl (lv_at hl 1 rfl) ?_
        refine va_lald hx hb hK hP 32 31 rfl rfl (ti_inx o88 o89) dX12_spread_204 ?_
        refine lv_topl (fun y168_ ey168_ => ?_)
        refine zs_i (va_runS (As := [.long y167_, .long y168_]) (rest := []) ⟨hx, hb, hml, hown, hts⟩ (n_errsV l dC dI y167_ y168_  H.size) (va_cwS 2 hts gd_n_spread_385_n_errsV rfl rfl rfl dd_n_errsV ⟨Nat.le_of_ble_eq_true rfl, Nat.le_of_ble_eq_true rfl⟩) (preS (A := A) empP (hK.sub (tys' := []) [] rfl) empD hE) rfl rfl hl.1 rfl (lv_room (Nat.le_of_ble_eq_true rfl)) dX12_spread_205 ⟨Nat.le_of_ble_eq_true rfl, Nat.le_of_ble_eq_true rfl⟩) hP hD hS hA (fun z169_ H locs hq hP hD hS => ?_)
        have f170_ := hq
        refine W.widen (k := 0) (n := 0) (Nat.le_of_ble_eq_true rfl) (Nat.le_of_ble_eq_true rfl) ?_
        refine lv_if_eq (tgt := 306) hx hb dX12_spread_208 rfl (fun c171_ => ?_) (fun c171_ => ?_)
        · have tc171_ := (show z169_.toInt = 0 from ti_eq rfl rg_11 c171_)
          refine lv_iconst (v := 1) hx hb dX12_spread_306 rg_6 ?_
          rw [hQ]
          have o90 : (σ.2.1 17 (Int32.toNatClampNeg z2_)).toInt = 5 := by omega
          have K175_ : (σ.2.1 17 (12 * (σ.1 29).toNatClampNeg + st9.toNatClampNeg)).toInt = 5 := by rw [← Xz2_]; exact o90
          have o91 : ¬ z169_.toInt = 1 := by omega
          have E176_ : ¬ Ers (σ.2.2.1 43) (σ.2.2.1 44) (σ.2.1 18 (12 * (σ.1 29).toNatClampNeg + st9.toNatClampNeg)).toNatClampNeg := by have h8 := (show y167_ = 0 ∧ y168_ = 0 from (by rcases f170_ with q | q; exact absurd q.1 o91; exact q.2)); simp only [ez4_, ez5_, ez6_, ey167_, ey168_, Xz2_] at h8; exact (fun h7 => h7 h8)
          have R172_ : 0 = spLo (σ.1 29).toNatClampNeg (cor σ) (coJ σ) (σ.2.2.1 43) (σ.2.2.1 44) st9.toNatClampNeg := by rw [(sp_5n (B := (σ.1 29).toNatClampNeg) (T := cor σ) (J := coJ σ) (L := σ.2.2.1 43) (H := σ.2.2.1 44) (j := st9.toNatClampNeg) K175_ E176_).1] <;> (simp only [ez4_, ez5_, ez6_, ey167_, ey168_, Xz2_] <;> rfl)
          have R173_ : 0 = spHi (σ.1 29).toNatClampNeg (cor σ) (coJ σ) (σ.2.2.1 43) (σ.2.2.1 44) st9.toNatClampNeg := by rw [(sp_5n (B := (σ.1 29).toNatClampNeg) (T := cor σ) (J := coJ σ) (L := σ.2.2.1 43) (H := σ.2.2.1 44) (j := st9.toNatClampNeg) K175_ E176_).2] <;> (simp only [ez4_, ez5_, ez6_, ey167_, ey168_, Xz2_] <;> rfl)
          have o92 : ¬ (σ.2.1 17 (Int32.toNatClampNeg z2_)).toInt = 6 := by omega
          have K177_ : ¬ (σ.2.1 17 (12 * (σ.1 29).toNatClampNeg + st9.toNatClampNeg)).toInt = 6 := by rw [← Xz2_]; exact o92
          have R174_ : (1 : Int32).toInt = 1 ∧ spOk (σ.1 29).toNatClampNeg (cor σ) (σ.2.2.1 43) (σ.2.2.1 44) st9.toNatClampNeg ∨ (1 : Int32).toInt = 0 ∧ ¬ spOk (σ.1 29).toNatClampNeg (cor σ) (σ.2.2.1 43) (σ.2.2.1 44) st9.toNatClampNeg := Or.inl ⟨rg_18, fun h7 => absurd h7 K177_⟩
          exact W.zret (v := 1) hx hb hr rfl (fun t ht hW => ⟨⟨1, (sL (sL σ 45 0) 46 0), rfl, ⟨(Inv.sL (Inv.sL hI)), (eqx.sL (eqx.sL eqx.rf rg_498) rg_499), R172_, R173_, R174_⟩, wEn_of hP (hK.sub [] rfl) hD ht hW⟩, hS.F ht⟩) hS.2.2 dX12_spread_307
        · have tc171_ := (show z169_.toInt ≠ 0 from ti_ne rfl rg_11 c171_)
          refine lv_aload_n hx hb dX12_spread_211 rfl (lv_at hl 3 rfl) ?_
          refine lv_aload_n hx hb dX12_spread_212 rfl (lv_at hl 3 rfl) ?_
          refine va_get (D := (dC, dI)) (ci := 12) (v := .ref (ad 43)) (C := RX12) (T := TX12) (N := 59) hx hb hts hin12 hown hK hP 0 rfl rfl 43 (Nat.le_of_ble_eq_true rfl) (ho (.fieldLink RX12 107 "NearEnoughModel" "low" "[J") (List.mem_of_getElem? (i := 5) rfl)) (fun _ h9 => h9) rfl dX12_spread_213 ?_
          refine lv_iload_n hx hb dX12_spread_216 rfl (lv_at hl 1 rfl) ?_
          refine va_lald hx hb hK hP 31 30 rfl rfl (ti_inx o88 o89) dX12_spread_217 ?_
          refine lv_topl (fun y178_ ey178_ => ?_)
          refine lv_aload_n hx hb dX12_spread_218 rfl (lv_at hl 3 rfl) ?_
          refine va_get (D := (dC, dI)) (ci := 12) (v := .ref (ad 19)) (C := RX12) (T := TX12) (N := 59) hx hb hts hin12 hown hK hP 0 rfl rfl 19 (Nat.le_of_ble_eq_true rfl) (ho (.fieldLink RX12 45 "NearEnoughModel" "sB" "[I") (List.mem_of_getElem? (i := 1) rfl)) (fun _ h9 => h9) rfl dX12_spread_219 ?_
          refine lv_iload_n hx hb dX12_spread_222 rfl (lv_at hl 2 rfl) ?_
          refine va_iald hx hb hK hP 11 10 rfl rfl (ti_inx o4 o5) dX12_spread_223 ?_
          refine lv_topi (fun z179_ ez179_ => ?_)
          have qq180_ : z179_.toInt = z5_.toInt := congrArg Int32.toInt ((ez179_.trans (congrFun (tL.trans tL) (Int32.toNatClampNeg z2_))).trans ((ez5_.trans (congrFun rfl (Int32.toNatClampNeg z2_)))).symm)
          have gz179_ : z179_.toInt = ((σ.2.1 19) (Int32.toNatClampNeg z2_)).toInt := congrArg Int32.toInt (ez179_.trans (congrFun (tL.trans tL) (Int32.toNatClampNeg z2_)))
          have bz179_ : (-99) ≤ z179_.toInt ∧ z179_.toInt ≤ 99 := by rw [ez179_]; exact (hI.2 19) _ (cl_lt (n := 24) o4 o5)
          refine lv_i2l hx hb dX12_spread_224 rfl ?_
          refine lv_topl (fun y181_ ey181_ => ?_)
          refine lv_lmul hx hb dX12_spread_225 ?_
          refine lv_topl (fun y182_ ey182_ => ?_)
          refine lv_aload_n hx hb dX12_spread_226 rfl (lv_at hl 3 rfl) ?_
          refine va_get (D := (dC, dI)) (ci := 12) (v := .ref (ad 44)) (C := RX12) (T := TX12) (N := 59) hx hb hts hin12 hown hK hP 0 rfl rfl 44 (Nat.le_of_ble_eq_true rfl) (ho (.fieldLink RX12 110 "NearEnoughModel" "high0" "[J") (List.mem_of_getElem? (i := 7) rfl)) (fun _ h9 => h9) rfl dX12_spread_227 ?_
          refine lv_iload_n hx hb dX12_spread_230 rfl (lv_at hl 1 rfl) ?_
          refine va_lald hx hb hK hP 32 31 rfl rfl (ti_inx o88 o89) dX12_spread_231 ?_
          refine lv_topl (fun y183_ ey183_ => ?_)
          refine lv_aload_n hx hb dX12_spread_232 rfl (lv_at hl 3 rfl) ?_
          refine va_get (D := (dC, dI)) (ci := 12) (v := .ref (ad 19)) (C := RX12) (T := TX12) (N := 59) hx hb hts hin12 hown hK hP 0 rfl rfl 19 (Nat.le_of_ble_eq_true rfl) (ho (.fieldLink RX12 45 "NearEnoughModel" "sB" "[I") (List.mem_of_getElem? (i := 1) rfl)) (fun _ h9 => h9) rfl dX12_spread_233 ?_
          refine lv_iload_n hx hb dX12_spread_236 rfl (lv_at hl 2 rfl) ?_
          refine va_iald hx hb hK hP 11 10 rfl rfl (ti_inx o4 o5) dX12_spread_237 ?_
          refine lv_topi (fun z184_ ez184_ => ?_)
          have qq185_ : z184_.toInt = z5_.toInt := congrArg Int32.toInt ((ez184_.trans (congrFun (tL.trans tL) (Int32.toNatClampNeg z2_))).trans ((ez5_.trans (congrFun rfl (Int32.toNatClampNeg z2_)))).symm)
          have gz184_ : z184_.toInt = ((σ.2.1 19) (Int32.toNatClampNeg z2_)).toInt := congrArg Int32.toInt (ez184_.trans (congrFun (tL.trans tL) (Int32.toNatClampNeg z2_)))
          have bz184_ : (-99) ≤ z184_.toInt ∧ z184_.toInt ≤ 99 := by rw [ez184_]; exact (hI.2 19) _ (cl_lt (n := 24) o4 o5)
          refine lv_i2l hx hb dX12_spread_238 rfl ?_
          refine lv_topl (fun y186_ ey186_ => ?_)
          refine lv_lmul hx hb dX12_spread_239 ?_
          refine lv_topl (fun y187_ ey187_ => ?_)
          refine zs_l (va_runS (As := [.long y182_, .long y187_]) (rest := [.ref h]) ⟨hx, hb, hml, hown, hts⟩ (n_lesserV l dC dI y182_ y187_  H.size) (va_cwS 2 hts gd_n_spread_314_n_lesserV rfl rfl rfl dd_n_lesserV ⟨Nat.le_of_ble_eq_true rfl, Nat.le_of_ble_eq_true rfl⟩) (preS (A := A) empP (hK.sub (tys' := []) [] rfl) empD hE) rfl rfl hl.1 rfl (lv_room (Nat.le_of_ble_eq_true rfl)) dX12_spread_240 ⟨Nat.le_of_ble_eq_true rfl, Nat.le_of_ble_eq_true rfl⟩) hP hD hS hA (fun y188_ H locs hq hP hD hS => ?_)
          have f189_ := hq
          refine W.widen (k := 0) (n := 0) (Nat.le_of_ble_eq_true rfl) (Nat.le_of_ble_eq_true rfl) ?_
          refine lv_aload_n hx hb dX12_spread_243 rfl (lv_at hl 3 rfl) ?_
          refine va_get (D := (dC, dI)) (ci := 12) (v := .ref (ad 20)) (C := RX12) (T := TX12) (N := 59) hx hb hts hin12 hown hK hP 0 rfl rfl 20 (Nat.le_of_ble_eq_true rfl) (ho (.fieldLink RX12 48 "NearEnoughModel" "sC" "[I") (List.mem_of_getElem? (i := 6) rfl)) (fun _ h9 => h9) rfl dX12_spread_244 ?_
          refine lv_iload_n hx hb dX12_spread_247 rfl (lv_at hl 2 rfl) ?_
          refine va_iald hx hb hK hP 12 11 rfl rfl (ti_inx o4 o5) dX12_spread_248 ?_
          refine lv_topi (fun z190_ ez190_ => ?_)
          have gz190_ : z190_.toInt = ((σ.2.1 20) (Int32.toNatClampNeg z2_)).toInt := congrArg Int32.toInt (ez190_.trans (congrFun (tL.trans tL) (Int32.toNatClampNeg z2_)))
          have bz190_ : (-1) ≤ z190_.toInt ∧ z190_.toInt ≤ 99 := by rw [ez190_]; exact (hI.2 20) _ (cl_lt (n := 24) o4 o5)
          refine lv_i2l hx hb dX12_spread_249 rfl ?_
          refine lv_topl (fun y191_ ey191_ => ?_)
          have o93 : z190_.toInt ≠ 0 := by omega
          refine zs_l (va_runS (As := [.long y188_, .long y191_]) (rest := [.ref h]) ⟨hx, hb, hml, hown, hts⟩ (n_floorOver l dC dI y188_ y191_ (i2l_ne ey191_ o93) H.size) (va_cwS 2 hts gd_n_spread_337_n_floorOver rfl rfl rfl dd_n_floorOver ⟨Nat.le_of_ble_eq_true rfl, Nat.le_of_ble_eq_true rfl⟩) (preS (A := A) empP (hK.sub (tys' := []) [] rfl) empD hE) rfl rfl hl.1 rfl (lv_room (Nat.le_of_ble_eq_true rfl)) dX12_spread_250 ⟨Nat.le_of_ble_eq_true rfl, Nat.le_of_ble_eq_true rfl⟩) hP hD hS hA (fun y192_ H locs hq hP hD hS => ?_)
          have f193_ := hq
          refine W.widen (k := 0) (n := 0) (Nat.le_of_ble_eq_true rfl) (Nat.le_of_ble_eq_true rfl) ?_
          refine lv_lconst (v := 1) hx hb dX12_spread_253 (by decide) ?_
          refine lv_lsub hx hb dX12_spread_254 ?_
          refine lv_topl (fun y194_ ey194_ => ?_)
          refine va_put (D := (dC, dI)) (ci := 12) (v := .long y194_) (ty := tyX12 45) (C := RX12) (T := TX12) (N := 59) hx hb hts hin12 tyX12 tyX12_ok nmX12 hown hK hP hD hS 0 rfl rfl 45 (Nat.le_of_ble_eq_true rfl) (ho (.fieldLink RX12 379 "NearEnoughModel" "spanLow" "J") (List.mem_of_getElem? (i := 2) rfl)) (fun _ h9 => h9) rfl (tyX12_ok 45 (Nat.le_of_ble_eq_true rfl)) rfl rfl (Nat.le_of_ble_eq_true rfl) dX12_spread_255 (fun H locs hP hD hS => ?_)
          have hP : va_P (dC, dI) vwCl (mW h ad cl (sL (sL σ 45 y194_) 46 0)) H := hP
          have hD : va_D A (mW h ad cl (sL (sL σ 45 y194_) 46 0)) := hD
          refine lv_aload_n hx hb dX12_spread_258 rfl (lv_at hl 3 rfl) ?_
          refine lv_lconst (v := 1) hx hb dX12_spread_259 (by decide) ?_
          refine lv_aload_n hx hb dX12_spread_260 rfl (lv_at hl 3 rfl) ?_
          refine va_get (D := (dC, dI)) (ci := 12) (v := .ref (ad 43)) (C := RX12) (T := TX12) (N := 59) hx hb hts hin12 hown hK hP 0 rfl rfl 43 (Nat.le_of_ble_eq_true rfl) (ho (.fieldLink RX12 107 "NearEnoughModel" "low" "[J") (List.mem_of_getElem? (i := 5) rfl)) (fun _ h9 => h9) rfl dX12_spread_261 ?_
          refine lv_iload_n hx hb dX12_spread_264 rfl (lv_at hl 1 rfl) ?_
          refine va_lald hx hb hK hP 31 30 rfl rfl (ti_inx o88 o89) dX12_spread_265 ?_
          refine lv_topl (fun y195_ ey195_ => ?_)
          refine lv_aload_n hx hb dX12_spread_266 rfl (lv_at hl 3 rfl) ?_
          refine va_get (D := (dC, dI)) (ci := 12) (v := .ref (ad 19)) (C := RX12) (T := TX12) (N := 59) hx hb hts hin12 hown hK hP 0 rfl rfl 19 (Nat.le_of_ble_eq_true rfl) (ho (.fieldLink RX12 45 "NearEnoughModel" "sB" "[I") (List.mem_of_getElem? (i := 1) rfl)) (fun _ h9 => h9) rfl dX12_spread_267 ?_
          refine lv_iload_n hx hb dX12_spread_270 rfl (lv_at hl 2 rfl) ?_
          refine va_iald hx hb hK hP 11 10 rfl rfl (ti_inx o4 o5) dX12_spread_271 ?_
          refine lv_topi (fun z196_ ez196_ => ?_)
          have qq197_ : z196_.toInt = z5_.toInt := congrArg Int32.toInt ((ez196_.trans (congrFun (tL.trans tL) (Int32.toNatClampNeg z2_))).trans ((ez5_.trans (congrFun rfl (Int32.toNatClampNeg z2_)))).symm)
          have gz196_ : z196_.toInt = ((σ.2.1 19) (Int32.toNatClampNeg z2_)).toInt := congrArg Int32.toInt (ez196_.trans (congrFun (tL.trans tL) (Int32.toNatClampNeg z2_)))
          have bz196_ : (-99) ≤ z196_.toInt ∧ z196_.toInt ≤ 99 := by rw [ez196_]; exact (hI.2 19) _ (cl_lt (n := 24) o4 o5)
          refine lv_i2l hx hb dX12_spread_272 rfl ?_
          refine lv_topl (fun y198_ ey198_ => ?_)
          refine lv_lmul hx hb dX12_spread_273 ?_
          refine lv_topl (fun y199_ ey199_ => ?_)
          refine lv_aload_n hx hb dX12_spread_274 rfl (lv_at hl 3 rfl) ?_
          refine va_get (D := (dC, dI)) (ci := 12) (v := .ref (ad 44)) (C := RX12) (T := TX12) (N := 59) hx hb hts hin12 hown hK hP 0 rfl rfl 44 (Nat.le_of_ble_eq_true rfl) (ho (.fieldLink RX12 110 "NearEnoughModel" "high0" "[J") (List.mem_of_getElem? (i := 7) rfl)) (fun _ h9 => h9) rfl dX12_spread_275 ?_
          refine lv_iload_n hx hb dX12_spread_278 rfl (lv_at hl 1 rfl) ?_
          refine va_lald hx hb hK hP 32 31 rfl rfl (ti_inx o88 o89) dX12_spread_279 ?_
          refine lv_topl (fun y200_ ey200_ => ?_)
          refine lv_aload_n hx hb dX12_spread_280 rfl (lv_at hl 3 rfl) ?_
          refine va_get (D := (dC, dI)) (ci := 12) (v := .ref (ad 19)) (C := RX12) (T := TX12) (N := 59) hx hb hts hin12 hown hK hP 0 rfl rfl 19 (Nat.le_of_ble_eq_true rfl) (ho (.fieldLink RX12 45 "NearEnoughModel" "sB" "[I") (List.mem_of_getElem? (i := 1) rfl)) (fun _ h9 => h9) rfl dX12_spread_281 ?_
          refine lv_iload_n hx hb dX12_spread_284 rfl (lv_at hl 2 rfl) ?_
          refine va_iald hx hb hK hP 11 10 rfl rfl (ti_inx o4 o5) dX12_spread_285 ?_
          refine lv_topi (fun z201_ ez201_ => ?_)
          have qq202_ : z201_.toInt = z5_.toInt := congrArg Int32.toInt ((ez201_.trans (congrFun (tL.trans tL) (Int32.toNatClampNeg z2_))).trans ((ez5_.trans (congrFun rfl (Int32.toNatClampNeg z2_)))).symm)
          have gz201_ : z201_.toInt = ((σ.2.1 19) (Int32.toNatClampNeg z2_)).toInt := congrArg Int32.toInt (ez201_.trans (congrFun (tL.trans tL) (Int32.toNatClampNeg z2_)))
          have bz201_ : (-99) ≤ z201_.toInt ∧ z201_.toInt ≤ 99 := by rw [ez201_]; exact (hI.2 19) _ (cl_lt (n := 24) o4 o5)
          refine lv_i2l hx hb dX12_spread_286 rfl ?_
          refine lv_topl (fun y203_ ey203_ => ?_)
          refine lv_lmul hx hb dX12_spread_287 ?_
          refine lv_topl (fun y204_ ey204_ => ?_)
          refine zs_l (va_runS (As := [.long y199_, .long y204_]) (rest := [.long 1, .ref h]) ⟨hx, hb, hml, hown, hts⟩ (n_greaterV l dC dI y199_ y204_  H.size) (va_cwS 2 hts gd_n_spread_318_n_greaterV rfl rfl rfl dd_n_greaterV ⟨Nat.le_of_ble_eq_true rfl, Nat.le_of_ble_eq_true rfl⟩) (preS (A := A) empP (hK.sub (tys' := []) [] rfl) empD hE) rfl rfl hl.1 rfl (lv_room (Nat.le_of_ble_eq_true rfl)) dX12_spread_288 ⟨Nat.le_of_ble_eq_true rfl, Nat.le_of_ble_eq_true rfl⟩) hP hD hS hA (fun y205_ H locs hq hP hD hS => ?_)
          have f206_ := hq
          refine W.widen (k := 0) (n := 0) (Nat.le_of_ble_eq_true rfl) (Nat.le_of_ble_eq_true rfl) ?_
          refine lv_lneg hx hb dX12_spread_291 ?_
          refine lv_topl (fun y207_ ey207_ => ?_)
          refine lv_aload_n hx hb dX12_spread_292 rfl (lv_at hl 3 rfl) ?_
          refine va_get (D := (dC, dI)) (ci := 12) (v := .ref (ad 20)) (C := RX12) (T := TX12) (N := 59) hx hb hts hin12 hown hK hP 0 rfl rfl 20 (Nat.le_of_ble_eq_true rfl) (ho (.fieldLink RX12 48 "NearEnoughModel" "sC" "[I") (List.mem_of_getElem? (i := 6) rfl)) (fun _ h9 => h9) rfl dX12_spread_293 ?_
          refine lv_iload_n hx hb dX12_spread_296 rfl (lv_at hl 2 rfl) ?_
          refine va_iald hx hb hK hP 12 11 rfl rfl (ti_inx o4 o5) dX12_spread_297 ?_
          refine lv_topi (fun z208_ ez208_ => ?_)
          have qq209_ : z208_.toInt = z190_.toInt := congrArg Int32.toInt ((ez208_.trans (congrFun (tL.trans tL) (Int32.toNatClampNeg z2_))).trans ((ez190_.trans (congrFun (tL.trans tL) (Int32.toNatClampNeg z2_)))).symm)
          have gz208_ : z208_.toInt = ((σ.2.1 20) (Int32.toNatClampNeg z2_)).toInt := congrArg Int32.toInt (ez208_.trans (congrFun (tL.trans tL) (Int32.toNatClampNeg z2_)))
          have bz208_ : (-1) ≤ z208_.toInt ∧ z208_.toInt ≤ 99 := by rw [ez208_]; exact (hI.2 20) _ (cl_lt (n := 24) o4 o5)
          refine lv_i2l hx hb dX12_spread_298 rfl ?_
          refine lv_topl (fun y210_ ey210_ => ?_)
          have o94 : z208_.toInt ≠ 0 := by omega
          refine zs_l (va_runS (As := [.long y207_, .long y210_]) (rest := [.long 1, .ref h]) ⟨hx, hb, hml, hown, hts⟩ (n_floorOver l dC dI y207_ y210_ (i2l_ne ey210_ o94) H.size) (va_cwS 2 hts gd_n_spread_337_n_floorOver rfl rfl rfl dd_n_floorOver ⟨Nat.le_of_ble_eq_true rfl, Nat.le_of_ble_eq_true rfl⟩) (preS (A := A) empP (hK.sub (tys' := []) [] rfl) empD hE) rfl rfl hl.1 rfl (lv_room (Nat.le_of_ble_eq_true rfl)) dX12_spread_299 ⟨Nat.le_of_ble_eq_true rfl, Nat.le_of_ble_eq_true rfl⟩) hP hD hS hA (fun y211_ H locs hq hP hD hS => ?_)
          have f212_ := hq
          refine W.widen (k := 0) (n := 0) (Nat.le_of_ble_eq_true rfl) (Nat.le_of_ble_eq_true rfl) ?_
          refine lv_lsub hx hb dX12_spread_302 ?_
          refine lv_topl (fun y213_ ey213_ => ?_)
          refine va_put (D := (dC, dI)) (ci := 12) (v := .long y213_) (ty := tyX12 46) (C := RX12) (T := TX12) (N := 59) hx hb hts hin12 tyX12 tyX12_ok nmX12 hown hK hP hD hS 0 rfl rfl 46 (Nat.le_of_ble_eq_true rfl) (ho (.fieldLink RX12 382 "NearEnoughModel" "spanHigh" "J") (List.mem_of_getElem? (i := 3) rfl)) (fun _ h9 => h9) rfl (tyX12_ok 46 (Nat.le_of_ble_eq_true rfl)) rfl rfl (Nat.le_of_ble_eq_true rfl) dX12_spread_303 (fun H locs hP hD hS => ?_)
          have hP : va_P (dC, dI) vwCl (mW h ad cl (sL (sL σ 45 y194_) 46 y213_)) H := hP
          have hD : va_D A (mW h ad cl (sL (sL σ 45 y194_) 46 y213_)) := hD
          refine lv_iconst (v := 1) hx hb dX12_spread_306 rg_6 ?_
          rw [hQ]
          have o95 : (σ.2.1 17 (Int32.toNatClampNeg z2_)).toInt = 5 := by omega
          have K217_ : (σ.2.1 17 (12 * (σ.1 29).toNatClampNeg + st9.toNatClampNeg)).toInt = 5 := by rw [← Xz2_]; exact o95
          have o96 : ¬ z169_.toInt = 0 := by omega
          have E218_ : Ers (σ.2.2.1 43) (σ.2.2.1 44) (σ.2.1 18 (12 * (σ.1 29).toNatClampNeg + st9.toNatClampNeg)).toNatClampNeg := by have h8 := (show ¬ (y167_ = 0 ∧ y168_ = 0) from (by rcases f170_ with q | q; exact q.2; exact absurd q.1 o96)); simp only [ez4_, ez5_, ez6_, ey167_, ey168_, ey178_, ez179_, ey181_, ey182_, ey183_, ez184_, ey186_, ey187_, f189_, ez190_, ey191_, f193_, ey194_, ey195_, ez196_, ey198_, ey199_, ey200_, ez201_, ey203_, ey204_, f206_, ey207_, ez208_, ey210_, f212_, ey213_, Xz2_] at h8; exact h8
          have R214_ : y194_ = spLo (σ.1 29).toNatClampNeg (cor σ) (coJ σ) (σ.2.2.1 43) (σ.2.2.1 44) st9.toNatClampNeg := by rw [(sp_5y (B := (σ.1 29).toNatClampNeg) (T := cor σ) (J := coJ σ) (L := σ.2.2.1 43) (H := σ.2.2.1 44) (j := st9.toNatClampNeg) K217_ E218_).1] <;> (simp only [ez4_, ez5_, ez6_, ey167_, ey168_, ey178_, ez179_, ey181_, ey182_, ey183_, ez184_, ey186_, ey187_, f189_, ez190_, ey191_, f193_, ey194_, ey195_, ez196_, ey198_, ey199_, ey200_, ez201_, ey203_, ey204_, f206_, ey207_, ez208_, ey210_, f212_, ey213_, Xz2_] <;> rfl)
          have R215_ : y213_ = spHi (σ.1 29).toNatClampNeg (cor σ) (coJ σ) (σ.2.2.1 43) (σ.2.2.1 44) st9.toNatClampNeg := by rw [(sp_5y (B := (σ.1 29).toNatClampNeg) (T := cor σ) (J := coJ σ) (L := σ.2.2.1 43) (H := σ.2.2.1 44) (j := st9.toNatClampNeg) K217_ E218_).2] <;> (simp only [ez4_, ez5_, ez6_, ey167_, ey168_, ey178_, ez179_, ey181_, ey182_, ey183_, ez184_, ey186_, ey187_, f189_, ez190_, ey191_, f193_, ey194_, ey195_, ez196_, ey198_, ey199_, ey200_, ez201_, ey203_, ey204_, f206_, ey207_, ez208_, ey210_, f212_, ey213_, Xz2_] <;> rfl)
          have o97 : ¬ (σ.2.1 17 (Int32.toNatClampNeg z2_)).toInt = 6 := by omega
          have K219_ : ¬ (σ.2.1 17 (12 * (σ.1 29).toNatClampNeg + st9.toNatClampNeg)).toInt = 6 := by rw [← Xz2_]; exact o97
          have R216_ : (1 : Int32).toInt = 1 ∧ spOk (σ.1 29).toNatClampNeg (cor σ) (σ.2.2.1 43) (σ.2.2.1 44) st9.toNatClampNeg ∨ (1 : Int32).toInt = 0 ∧ ¬ spOk (σ.1 29).toNatClampNeg (cor σ) (σ.2.2.1 43) (σ.2.2.1 44) st9.toNatClampNeg := Or.inl ⟨rg_18, fun h7 => absurd h7 K219_⟩
          exact W.zret (v := 1) hx hb hr rfl (fun t ht hW => ⟨⟨1, (sL (sL σ 45 y194_) 46 y213_), rfl, ⟨(Inv.sL (Inv.sL hI)), (eqx.sL (eqx.sL eqx.rf rg_498) rg_499), R214_, R215_, R216_⟩, wEn_of hP (hK.sub [] rfl) hD ht hW⟩, hS.F ht⟩) hS.2.2 dX12_spread_307
      · refine lv_tableIn (tgt := 82) (off := 45) hx hb dX12_spread_37 (by rw [t_sw]; decide) (by rw [t_sw]; decide) (by rw [t_sw]; decide) (by decide) ?_
        refine lv_aload_n hx hb dX12_spread_82 rfl (lv_at hl 3 rfl) ?_
        refine va_get (D := (dC, dI)) (ci := 12) (v := .ref (ad 43)) (C := RX12) (T := TX12) (N := 59) hx hb hts hin12 hown hK hP 0 rfl rfl 43 (Nat.le_of_ble_eq_true rfl) (ho (.fieldLink RX12 107 "NearEnoughModel" "low" "[J") (List.mem_of_getElem? (i := 5) rfl)) (fun _ h9 => h9) rfl dX12_spread_83 ?_
        refine lv_iload hx hb dX12_spread_86 (lv_at hl 0 rfl) ?_
        have o98 : 0 ≤ z5_.toInt := by omega
        have o99 : z5_.toInt < ((12 : Nat) : Int) := by omega
        refine va_lald hx hb hK hP 31 30 rfl rfl (ti_inx o98 o99) dX12_spread_88 ?_
        refine lv_topl (fun y220_ ey220_ => ?_)
        refine lv_aload_n hx hb dX12_spread_89 rfl (lv_at hl 3 rfl) ?_
        refine va_get (D := (dC, dI)) (ci := 12) (v := .ref (ad 44)) (C := RX12) (T := TX12) (N := 59) hx hb hts hin12 hown hK hP 0 rfl rfl 44 (Nat.le_of_ble_eq_true rfl) (ho (.fieldLink RX12 110 "NearEnoughModel" "high0" "[J") (List.mem_of_getElem? (i := 7) rfl)) (fun _ h9 => h9) rfl dX12_spread_90 ?_
        refine lv_iload hx hb dX12_spread_93 (lv_at hl 0 rfl) ?_
        refine va_lald hx hb hK hP 32 31 rfl rfl (ti_inx o98 o99) dX12_spread_95 ?_
        refine lv_topl (fun y221_ ey221_ => ?_)
        refine zs_i (va_runS (As := [.long y220_, .long y221_]) (rest := []) ⟨hx, hb, hml, hown, hts⟩ (n_errsV l dC dI y220_ y221_  H.size) (va_cwS 2 hts gd_n_spread_385_n_errsV rfl rfl rfl dd_n_errsV ⟨Nat.le_of_ble_eq_true rfl, Nat.le_of_ble_eq_true rfl⟩) (preS (A := A) empP (hK.sub (tys' := []) [] rfl) empD hE) rfl rfl hl.1 rfl (lv_room (Nat.le_of_ble_eq_true rfl)) dX12_spread_96 ⟨Nat.le_of_ble_eq_true rfl, Nat.le_of_ble_eq_true rfl⟩) hP hD hS hA (fun z222_ H locs hq hP hD hS => ?_)
        have f223_ := hq
        refine W.widen (k := 0) (n := 0) (Nat.le_of_ble_eq_true rfl) (Nat.le_of_ble_eq_true rfl) ?_
        refine lv_if_ne (tgt := 106) hx hb dX12_spread_99 rfl (fun c224_ => ?_) (fun c224_ => ?_)
        · have tc224_ := (show z222_.toInt ≠ 0 from ti_ne rfl rg_11 c224_)
          refine lv_iconst (v := 0) hx hb dX12_spread_106 rg_0 ?_
          rw [hQ]
          have o100 : (σ.2.1 17 (Int32.toNatClampNeg z2_)).toInt = 0 ∨ (σ.2.1 17 (Int32.toNatClampNeg z2_)).toInt = 1 ∨ (σ.2.1 17 (Int32.toNatClampNeg z2_)).toInt = 6 := by omega
          have K228_ : (σ.2.1 17 (12 * (σ.1 29).toNatClampNeg + st9.toNatClampNeg)).toInt = 0 ∨ (σ.2.1 17 (12 * (σ.1 29).toNatClampNeg + st9.toNatClampNeg)).toInt = 1 ∨ (σ.2.1 17 (12 * (σ.1 29).toNatClampNeg + st9.toNatClampNeg)).toInt = 6 := by rw [← Xz2_]; exact o100
          have R225_ : 0 = spLo (σ.1 29).toNatClampNeg (cor σ) (coJ σ) (σ.2.2.1 43) (σ.2.2.1 44) st9.toNatClampNeg := by rw [(sp_0 (B := (σ.1 29).toNatClampNeg) (T := cor σ) (J := coJ σ) (L := σ.2.2.1 43) (H := σ.2.2.1 44) (j := st9.toNatClampNeg) K228_).1] <;> (simp only [ez4_, ez5_, ez6_, ey220_, ey221_, Xz2_] <;> rfl)
          have R226_ : 0 = spHi (σ.1 29).toNatClampNeg (cor σ) (coJ σ) (σ.2.2.1 43) (σ.2.2.1 44) st9.toNatClampNeg := by rw [(sp_0 (B := (σ.1 29).toNatClampNeg) (T := cor σ) (J := coJ σ) (L := σ.2.2.1 43) (H := σ.2.2.1 44) (j := st9.toNatClampNeg) K228_).2] <;> (simp only [ez4_, ez5_, ez6_, ey220_, ey221_, Xz2_] <;> rfl)
          have o101 : (σ.2.1 17 (Int32.toNatClampNeg z2_)).toInt = 6 := by omega
          have K229_ : (σ.2.1 17 (12 * (σ.1 29).toNatClampNeg + st9.toNatClampNeg)).toInt = 6 := by rw [← Xz2_]; exact o101
          have o102 : ¬ z222_.toInt = 0 := by omega
          have R227_ : (0 : Int32).toInt = 1 ∧ spOk (σ.1 29).toNatClampNeg (cor σ) (σ.2.2.1 43) (σ.2.2.1 44) st9.toNatClampNeg ∨ (0 : Int32).toInt = 0 ∧ ¬ spOk (σ.1 29).toNatClampNeg (cor σ) (σ.2.2.1 43) (σ.2.2.1 44) st9.toNatClampNeg := Or.inr ⟨rg_11, fun h7 => h7 K229_ (by have h8 : ¬ (y220_ = 0 ∧ y221_ = 0) := (by rcases f223_ with q | q; exact q.2; exact absurd q.1 o102); simp only [ez4_, ez5_, ez6_, ey220_, ey221_, Xz2_] at h8; exact h8)⟩
          exact W.zret (v := 0) hx hb hr rfl (fun t ht hW => ⟨⟨0, (sL (sL σ 45 0) 46 0), rfl, ⟨(Inv.sL (Inv.sL hI)), (eqx.sL (eqx.sL eqx.rf rg_498) rg_499), R225_, R226_, R227_⟩, wEn_of hP (hK.sub [] rfl) hD ht hW⟩, hS.F ht⟩) hS.2.2 dX12_spread_107
        · have tc224_ := (show z222_.toInt = 0 from ti_eq rfl rg_11 c224_)
          refine lv_iconst (v := 1) hx hb dX12_spread_102 rg_6 ?_
          refine lv_goto (tgt := 107) hx hb dX12_spread_103 rfl ?_
          rw [hQ]
          have o103 : (σ.2.1 17 (Int32.toNatClampNeg z2_)).toInt = 0 ∨ (σ.2.1 17 (Int32.toNatClampNeg z2_)).toInt = 1 ∨ (σ.2.1 17 (Int32.toNatClampNeg z2_)).toInt = 6 := by omega
          have K233_ : (σ.2.1 17 (12 * (σ.1 29).toNatClampNeg + st9.toNatClampNeg)).toInt = 0 ∨ (σ.2.1 17 (12 * (σ.1 29).toNatClampNeg + st9.toNatClampNeg)).toInt = 1 ∨ (σ.2.1 17 (12 * (σ.1 29).toNatClampNeg + st9.toNatClampNeg)).toInt = 6 := by rw [← Xz2_]; exact o103
          have R230_ : 0 = spLo (σ.1 29).toNatClampNeg (cor σ) (coJ σ) (σ.2.2.1 43) (σ.2.2.1 44) st9.toNatClampNeg := by rw [(sp_0 (B := (σ.1 29).toNatClampNeg) (T := cor σ) (J := coJ σ) (L := σ.2.2.1 43) (H := σ.2.2.1 44) (j := st9.toNatClampNeg) K233_).1] <;> (simp only [ez4_, ez5_, ez6_, ey220_, ey221_, Xz2_] <;> rfl)
          have R231_ : 0 = spHi (σ.1 29).toNatClampNeg (cor σ) (coJ σ) (σ.2.2.1 43) (σ.2.2.1 44) st9.toNatClampNeg := by rw [(sp_0 (B := (σ.1 29).toNatClampNeg) (T := cor σ) (J := coJ σ) (L := σ.2.2.1 43) (H := σ.2.2.1 44) (j := st9.toNatClampNeg) K233_).2] <;> (simp only [ez4_, ez5_, ez6_, ey220_, ey221_, Xz2_] <;> rfl)
          have o104 : (σ.2.1 17 (Int32.toNatClampNeg z2_)).toInt = 6 := by omega
          have K234_ : (σ.2.1 17 (12 * (σ.1 29).toNatClampNeg + st9.toNatClampNeg)).toInt = 6 := by rw [← Xz2_]; exact o104
          have o105 : ¬ z222_.toInt = 1 := by omega
          have R232_ : (1 : Int32).toInt = 1 ∧ spOk (σ.1 29).toNatClampNeg (cor σ) (σ.2.2.1 43) (σ.2.2.1 44) st9.toNatClampNeg ∨ (1 : Int32).toInt = 0 ∧ ¬ spOk (σ.1 29).toNatClampNeg (cor σ) (σ.2.2.1 43) (σ.2.2.1 44) st9.toNatClampNeg := Or.inl ⟨rg_18, fun _ h7 => h7 (by have h8 : y220_ = 0 ∧ y221_ = 0 := (by rcases f223_ with q | q; exact absurd q.1 o105; exact q.2); simp only [ez4_, ez5_, ez6_, ey220_, ey221_, Xz2_] at h8; exact h8)⟩
          exact W.zret (v := 1) hx hb hr rfl (fun t ht hW => ⟨⟨1, (sL (sL σ 45 0) 46 0), rfl, ⟨(Inv.sL (Inv.sL hI)), (eqx.sL (eqx.sL eqx.rf rg_498) rg_499), R230_, R231_, R232_⟩, wEn_of hP (hK.sub [] rfl) hD ht hW⟩, hS.F ht⟩) hS.2.2 dX12_spread_107

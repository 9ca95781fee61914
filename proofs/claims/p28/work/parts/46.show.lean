theorem dX12_show_0 : decode cX12_show 0 = .ok (.aload_n 0, 1) := by decide +kernel
theorem dX12_show_1 : decode cX12_show 1 = .ok (.iload_n 1, 1) := by decide +kernel
theorem dX12_show_2 : decode cX12_show 2 = .ok (.invokevirtual 331, 3) := by decide +kernel
theorem dX12_show_5 : decode cX12_show 5 = .ok (.istore_n 2, 1) := by decide +kernel
theorem dX12_show_6 : decode cX12_show 6 = .ok (.aload_n 0, 1) := by decide +kernel
theorem dX12_show_7 : decode cX12_show 7 = .ok (.getfield 94, 3) := by decide +kernel
theorem dX12_show_10 : decode cX12_show 10 = .ok (.iload_n 1, 1) := by decide +kernel
theorem dX12_show_11 : decode cX12_show 11 = .ok (.iaload, 1) := by decide +kernel
theorem dX12_show_12 : decode cX12_show 12 = .ok (.istore_n 3, 1) := by decide +kernel
theorem dX12_show_13 : decode cX12_show 13 = .ok (.iload_n 3, 1) := by decide +kernel
theorem dX12_show_14 : decode cX12_show 14 = .ok (.ifCond .ge 7, 3) := by decide +kernel
theorem dX12_show_21 : decode cX12_show 21 = .ok (.aload_n 0, 1) := by decide +kernel
theorem dX12_show_22 : decode cX12_show 22 = .ok (.getfield 85, 3) := by decide +kernel
theorem dX12_show_25 : decode cX12_show 25 = .ok (.iload_n 3, 1) := by decide +kernel
theorem dX12_show_26 : decode cX12_show 26 = .ok (.iaload, 1) := by decide +kernel
theorem dX12_show_27 : decode cX12_show 27 = .ok (.istore 4, 2) := by decide +kernel
theorem dX12_show_29 : decode cX12_show 29 = .ok (.iload 4, 2) := by decide +kernel
theorem dX12_show_31 : decode cX12_show 31 = .ok (.iconst 4, 1) := by decide +kernel
theorem dX12_show_32 : decode cX12_show 32 = .ok (.if_icmp .ne 52, 3) := by decide +kernel
theorem dX12_show_84 : decode cX12_show 84 = .ok (.aload_n 0, 1) := by decide +kernel
theorem dX12_show_85 : decode cX12_show 85 = .ok (.iload_n 1, 1) := by decide +kernel
theorem dX12_show_86 : decode cX12_show 86 = .ok (.invokevirtual 410, 3) := by decide +kernel
theorem dX12_show_89 : decode cX12_show 89 = .ok (.ifCond .ne 5, 3) := by decide +kernel
theorem dX12_show_94 : decode cX12_show 94 = .ok (.iload 4, 2) := by decide +kernel
theorem dX12_show_96 : decode cX12_show 96 = .ok (.ifCond .ne 100, 3) := by decide +kernel
theorem dX12_show_99 : decode cX12_show 99 = .ok (.aload_n 0, 1) := by decide +kernel
theorem dX12_show_100 : decode cX12_show 100 = .ok (.getfield 30, 3) := by decide +kernel
theorem dX12_show_103 : decode cX12_show 103 = .ok (.iconst 2, 1) := by decide +kernel
theorem dX12_show_104 : decode cX12_show 104 = .ok (.aload_n 0, 1) := by decide +kernel
theorem dX12_show_105 : decode cX12_show 105 = .ok (.getfield 240, 3) := by decide +kernel
theorem dX12_show_108 : decode cX12_show 108 = .ok (.imul, 1) := by decide +kernel
theorem dX12_show_109 : decode cX12_show 109 = .ok (.aload_n 0, 1) := by decide +kernel
theorem dX12_show_110 : decode cX12_show 110 = .ok (.getfield 42, 3) := by decide +kernel
theorem dX12_show_113 : decode cX12_show 113 = .ok (.iload_n 2, 1) := by decide +kernel
theorem dX12_show_114 : decode cX12_show 114 = .ok (.iaload, 1) := by decide +kernel
theorem dX12_show_115 : decode cX12_show 115 = .ok (.iadd, 1) := by decide +kernel
theorem dX12_show_116 : decode cX12_show 116 = .ok (.iaload, 1) := by decide +kernel
theorem dX12_show_117 : decode cX12_show 117 = .ok (.istore 5, 2) := by decide +kernel
theorem dX12_show_119 : decode cX12_show 119 = .ok (.iload 5, 2) := by decide +kernel
theorem dX12_show_121 : decode cX12_show 121 = .ok (.iload 5, 2) := by decide +kernel
theorem dX12_show_123 : decode cX12_show 123 = .ok (.aload_n 0, 1) := by decide +kernel
theorem dX12_show_124 : decode cX12_show 124 = .ok (.getfield 88, 3) := by decide +kernel
theorem dX12_show_127 : decode cX12_show 127 = .ok (.iload_n 3, 1) := by decide +kernel
theorem dX12_show_128 : decode cX12_show 128 = .ok (.iaload, 1) := by decide +kernel
theorem dX12_show_129 : decode cX12_show 129 = .ok (.iadd, 1) := by decide +kernel
theorem dX12_show_130 : decode cX12_show 130 = .ok (.iconst 1, 1) := by decide +kernel
theorem dX12_show_131 : decode cX12_show 131 = .ok (.isub, 1) := by decide +kernel
theorem dX12_show_132 : decode cX12_show 132 = .ok (.aload_n 0, 1) := by decide +kernel
theorem dX12_show_133 : decode cX12_show 133 = .ok (.getfield 88, 3) := by decide +kernel
theorem dX12_show_136 : decode cX12_show 136 = .ok (.iload_n 3, 1) := by decide +kernel
theorem dX12_show_137 : decode cX12_show 137 = .ok (.iaload, 1) := by decide +kernel
theorem dX12_show_138 : decode cX12_show 138 = .ok (.idiv, 1) := by decide +kernel
theorem dX12_show_139 : decode cX12_show 139 = .ok (.isub, 1) := by decide +kernel
theorem dX12_show_140 : decode cX12_show 140 = .ok (.istore 6, 2) := by decide +kernel
theorem dX12_show_142 : decode cX12_show 142 = .ok (.aload_n 0, 1) := by decide +kernel
theorem dX12_show_143 : decode cX12_show 143 = .ok (.iload 6, 2) := by decide +kernel
theorem dX12_show_145 : decode cX12_show 145 = .ok (.i2l, 1) := by decide +kernel
theorem dX12_show_146 : decode cX12_show 146 = .ok (.aload_n 0, 1) := by decide +kernel
theorem dX12_show_147 : decode cX12_show 147 = .ok (.getfield 70, 3) := by decide +kernel
theorem dX12_show_150 : decode cX12_show 150 = .ok (.iload_n 2, 1) := by decide +kernel
theorem dX12_show_151 : decode cX12_show 151 = .ok (.laload, 1) := by decide +kernel
theorem dX12_show_152 : decode cX12_show 152 = .ok (.aload_n 0, 1) := by decide +kernel
theorem dX12_show_153 : decode cX12_show 153 = .ok (.getfield 73, 3) := by decide +kernel
theorem dX12_show_156 : decode cX12_show 156 = .ok (.iload_n 2, 1) := by decide +kernel
theorem dX12_show_157 : decode cX12_show 157 = .ok (.laload, 1) := by decide +kernel
theorem dX12_show_158 : decode cX12_show 158 = .ok (.lsub, 1) := by decide +kernel
theorem dX12_show_159 : decode cX12_show 159 = .ok (.lmul, 1) := by decide +kernel
theorem dX12_show_160 : decode cX12_show 160 = .ok (.iload 5, 2) := by decide +kernel
theorem dX12_show_162 : decode cX12_show 162 = .ok (.i2l, 1) := by decide +kernel
theorem dX12_show_163 : decode cX12_show 163 = .ok (.ldiv, 1) := by decide +kernel
theorem dX12_show_164 : decode cX12_show 164 = .ok (.lconst 1, 1) := by decide +kernel
theorem dX12_show_165 : decode cX12_show 165 = .ok (.lsub, 1) := by decide +kernel
theorem dX12_show_166 : decode cX12_show 166 = .ok (.putfield 379, 3) := by decide +kernel
theorem dX12_show_169 : decode cX12_show 169 = .ok (.aload_n 0, 1) := by decide +kernel
theorem dX12_show_170 : decode cX12_show 170 = .ok (.iload 6, 2) := by decide +kernel
theorem dX12_show_172 : decode cX12_show 172 = .ok (.i2l, 1) := by decide +kernel
theorem dX12_show_173 : decode cX12_show 173 = .ok (.aload_n 0, 1) := by decide +kernel
theorem dX12_show_174 : decode cX12_show 174 = .ok (.getfield 73, 3) := by decide +kernel
theorem dX12_show_177 : decode cX12_show 177 = .ok (.iload_n 2, 1) := by decide +kernel
theorem dX12_show_178 : decode cX12_show 178 = .ok (.laload, 1) := by decide +kernel
theorem dX12_show_179 : decode cX12_show 179 = .ok (.aload_n 0, 1) := by decide +kernel
theorem dX12_show_180 : decode cX12_show 180 = .ok (.getfield 70, 3) := by decide +kernel
theorem dX12_show_183 : decode cX12_show 183 = .ok (.iload_n 2, 1) := by decide +kernel
theorem dX12_show_184 : decode cX12_show 184 = .ok (.laload, 1) := by decide +kernel
theorem dX12_show_185 : decode cX12_show 185 = .ok (.lsub, 1) := by decide +kernel
theorem dX12_show_186 : decode cX12_show 186 = .ok (.lmul, 1) := by decide +kernel
theorem dX12_show_187 : decode cX12_show 187 = .ok (.iload 5, 2) := by decide +kernel
theorem dX12_show_189 : decode cX12_show 189 = .ok (.i2l, 1) := by decide +kernel
theorem dX12_show_190 : decode cX12_show 190 = .ok (.ldiv, 1) := by decide +kernel
theorem dX12_show_191 : decode cX12_show 191 = .ok (.lconst 1, 1) := by decide +kernel
theorem dX12_show_192 : decode cX12_show 192 = .ok (.ladd, 1) := by decide +kernel
theorem dX12_show_193 : decode cX12_show 193 = .ok (.putfield 382, 3) := by decide +kernel
theorem dX12_show_196 : decode cX12_show 196 = .ok (.iload 4, 2) := by decide +kernel
theorem dX12_show_198 : decode cX12_show 198 = .ok (.iconst 1, 1) := by decide +kernel
theorem dX12_show_199 : decode cX12_show 199 = .ok (.if_icmp .ne 22, 3) := by decide +kernel
theorem dX12_show_221 : decode cX12_show 221 = .ok (.iload 4, 2) := by decide +kernel
theorem dX12_show_223 : decode cX12_show 223 = .ok (.iconst 2, 1) := by decide +kernel
theorem dX12_show_224 : decode cX12_show 224 = .ok (.if_icmp .ne 14, 3) := by decide +kernel
theorem dX12_show_238 : decode cX12_show 238 = .ok (.iload 4, 2) := by decide +kernel
theorem dX12_show_240 : decode cX12_show 240 = .ok (.iconst 5, 1) := by decide +kernel
theorem dX12_show_241 : decode cX12_show 241 = .ok (.if_icmp .eq 10, 3) := by decide +kernel
theorem dX12_show_244 : decode cX12_show 244 = .ok (.iload 4, 2) := by decide +kernel
theorem dX12_show_246 : decode cX12_show 246 = .ok (.bipush 6, 2) := by decide +kernel
theorem dX12_show_248 : decode cX12_show 248 = .ok (.if_icmp .ne 26, 3) := by decide +kernel
theorem dX12_show_274 : decode cX12_show 274 = .ok (.iload 4, 2) := by decide +kernel
theorem dX12_show_276 : decode cX12_show 276 = .ok (.iconst 3, 1) := by decide +kernel
theorem dX12_show_277 : decode cX12_show 277 = .ok (.if_icmp .ne 54, 3) := by decide +kernel
theorem dX12_show_331 : decode cX12_show 331 = .ok (.iconst 1, 1) := by decide +kernel
theorem dX12_show_332 : decode cX12_show 332 = .ok (.ireturn, 1) := by decide +kernel
theorem dX12_show_92 : decode cX12_show 92 = .ok (.iconst 0, 1) := by decide +kernel
theorem dX12_show_93 : decode cX12_show 93 = .ok (.ireturn, 1) := by decide +kernel
theorem dX12_show_202 : decode cX12_show 202 = .ok (.aload_n 0, 1) := by decide +kernel
theorem dX12_show_203 : decode cX12_show 203 = .ok (.dup, 1) := by decide +kernel
theorem dX12_show_204 : decode cX12_show 204 = .ok (.getfield 379, 3) := by decide +kernel
theorem dX12_show_207 : decode cX12_show 207 = .ok (.lconst 1, 1) := by decide +kernel
theorem dX12_show_208 : decode cX12_show 208 = .ok (.aload_n 0, 1) := by decide +kernel
theorem dX12_show_209 : decode cX12_show 209 = .ok (.getfield 88, 3) := by decide +kernel
theorem dX12_show_212 : decode cX12_show 212 = .ok (.iload_n 3, 1) := by decide +kernel
theorem dX12_show_213 : decode cX12_show 213 = .ok (.iaload, 1) := by decide +kernel
theorem dX12_show_214 : decode cX12_show 214 = .ok (.lshl, 1) := by decide +kernel
theorem dX12_show_215 : decode cX12_show 215 = .ok (.lconst 1, 1) := by decide +kernel
theorem dX12_show_216 : decode cX12_show 216 = .ok (.lsub, 1) := by decide +kernel
theorem dX12_show_217 : decode cX12_show 217 = .ok (.lsub, 1) := by decide +kernel
theorem dX12_show_218 : decode cX12_show 218 = .ok (.putfield 379, 3) := by decide +kernel
theorem dX12_show_227 : decode cX12_show 227 = .ok (.aload_n 0, 1) := by decide +kernel
theorem dX12_show_228 : decode cX12_show 228 = .ok (.iload_n 2, 1) := by decide +kernel
theorem dX12_show_229 : decode cX12_show 229 = .ok (.aload_n 0, 1) := by decide +kernel
theorem dX12_show_230 : decode cX12_show 230 = .ok (.getfield 88, 3) := by decide +kernel
theorem dX12_show_233 : decode cX12_show 233 = .ok (.iload_n 3, 1) := by decide +kernel
theorem dX12_show_234 : decode cX12_show 234 = .ok (.iaload, 1) := by decide +kernel
theorem dX12_show_235 : decode cX12_show 235 = .ok (.invokevirtual 413, 3) := by decide +kernel
theorem dX12_show_280 : decode cX12_show 280 = .ok (.aload_n 0, 1) := by decide +kernel
theorem dX12_show_281 : decode cX12_show 281 = .ok (.dup, 1) := by decide +kernel
theorem dX12_show_282 : decode cX12_show 282 = .ok (.getfield 379, 3) := by decide +kernel
theorem dX12_show_285 : decode cX12_show 285 = .ok (.aload_n 0, 1) := by decide +kernel
theorem dX12_show_286 : decode cX12_show 286 = .ok (.getfield 39, 3) := by decide +kernel
theorem dX12_show_289 : decode cX12_show 289 = .ok (.iload_n 2, 1) := by decide +kernel
theorem dX12_show_290 : decode cX12_show 290 = .ok (.iaload, 1) := by decide +kernel
theorem dX12_show_291 : decode cX12_show 291 = .ok (.ifCond .ne 25, 3) := by decide +kernel
theorem dX12_show_316 : decode cX12_show 316 = .ok (.lconst 1, 1) := by decide +kernel
theorem dX12_show_317 : decode cX12_show 317 = .ok (.aload_n 0, 1) := by decide +kernel
theorem dX12_show_318 : decode cX12_show 318 = .ok (.getfield 88, 3) := by decide +kernel
theorem dX12_show_321 : decode cX12_show 321 = .ok (.iload_n 3, 1) := by decide +kernel
theorem dX12_show_322 : decode cX12_show 322 = .ok (.iaload, 1) := by decide +kernel
theorem dX12_show_323 : decode cX12_show 323 = .ok (.iconst 1, 1) := by decide +kernel
theorem dX12_show_324 : decode cX12_show 324 = .ok (.isub, 1) := by decide +kernel
theorem dX12_show_325 : decode cX12_show 325 = .ok (.i2l, 1) := by decide +kernel
theorem dX12_show_326 : decode cX12_show 326 = .ok (.lmul, 1) := by decide +kernel
theorem dX12_show_327 : decode cX12_show 327 = .ok (.lsub, 1) := by decide +kernel
theorem dX12_show_328 : decode cX12_show 328 = .ok (.putfield 379, 3) := by decide +kernel
theorem dX12_show_294 : decode cX12_show 294 = .ok (.aload_n 0, 1) := by decide +kernel
theorem dX12_show_295 : decode cX12_show 295 = .ok (.getfield 30, 3) := by decide +kernel
theorem dX12_show_298 : decode cX12_show 298 = .ok (.iconst 2, 1) := by decide +kernel
theorem dX12_show_299 : decode cX12_show 299 = .ok (.aload_n 0, 1) := by decide +kernel
theorem dX12_show_300 : decode cX12_show 300 = .ok (.getfield 240, 3) := by decide +kernel
theorem dX12_show_303 : decode cX12_show 303 = .ok (.imul, 1) := by decide +kernel
theorem dX12_show_304 : decode cX12_show 304 = .ok (.aload_n 0, 1) := by decide +kernel
theorem dX12_show_305 : decode cX12_show 305 = .ok (.getfield 42, 3) := by decide +kernel
theorem dX12_show_308 : decode cX12_show 308 = .ok (.iload_n 2, 1) := by decide +kernel
theorem dX12_show_309 : decode cX12_show 309 = .ok (.iaload, 1) := by decide +kernel
theorem dX12_show_310 : decode cX12_show 310 = .ok (.iadd, 1) := by decide +kernel
theorem dX12_show_311 : decode cX12_show 311 = .ok (.iaload, 1) := by decide +kernel
theorem dX12_show_312 : decode cX12_show 312 = .ok (.i2l, 1) := by decide +kernel
theorem dX12_show_313 : decode cX12_show 313 = .ok (.goto 4, 3) := by decide +kernel
theorem dX12_show_35 : decode cX12_show 35 = .ok (.aload_n 0, 1) := by decide +kernel
theorem dX12_show_36 : decode cX12_show 36 = .ok (.getfield 70, 3) := by decide +kernel
theorem dX12_show_39 : decode cX12_show 39 = .ok (.iload_n 2, 1) := by decide +kernel
theorem dX12_show_40 : decode cX12_show 40 = .ok (.laload, 1) := by decide +kernel
theorem dX12_show_41 : decode cX12_show 41 = .ok (.aload_n 0, 1) := by decide +kernel
theorem dX12_show_42 : decode cX12_show 42 = .ok (.getfield 73, 3) := by decide +kernel
theorem dX12_show_45 : decode cX12_show 45 = .ok (.iload_n 2, 1) := by decide +kernel
theorem dX12_show_46 : decode cX12_show 46 = .ok (.laload, 1) := by decide +kernel
theorem dX12_show_47 : decode cX12_show 47 = .ok (.ladd, 1) := by decide +kernel
theorem dX12_show_48 : decode cX12_show 48 = .ok (.ldc2_w 368, 3) := by decide +kernel
theorem dX12_show_51 : decode cX12_show 51 = .ok (.invokestatic 337, 3) := by decide +kernel
theorem dX12_show_54 : decode cX12_show 54 = .ok (.lstore 5, 2) := by decide +kernel
theorem dX12_show_56 : decode cX12_show 56 = .ok (.aload_n 0, 1) := by decide +kernel
theorem dX12_show_57 : decode cX12_show 57 = .ok (.lload 5, 2) := by decide +kernel
theorem dX12_show_59 : decode cX12_show 59 = .ok (.aload_n 0, 1) := by decide +kernel
theorem dX12_show_60 : decode cX12_show 60 = .ok (.getfield 73, 3) := by decide +kernel
theorem dX12_show_63 : decode cX12_show 63 = .ok (.iload_n 2, 1) := by decide +kernel
theorem dX12_show_64 : decode cX12_show 64 = .ok (.laload, 1) := by decide +kernel
theorem dX12_show_65 : decode cX12_show 65 = .ok (.lsub, 1) := by decide +kernel
theorem dX12_show_66 : decode cX12_show 66 = .ok (.putfield 379, 3) := by decide +kernel
theorem dX12_show_69 : decode cX12_show 69 = .ok (.aload_n 0, 1) := by decide +kernel
theorem dX12_show_70 : decode cX12_show 70 = .ok (.lload 5, 2) := by decide +kernel
theorem dX12_show_72 : decode cX12_show 72 = .ok (.aload_n 0, 1) := by decide +kernel
theorem dX12_show_73 : decode cX12_show 73 = .ok (.getfield 70, 3) := by decide +kernel
theorem dX12_show_76 : decode cX12_show 76 = .ok (.iload_n 2, 1) := by decide +kernel
theorem dX12_show_77 : decode cX12_show 77 = .ok (.laload, 1) := by decide +kernel
theorem dX12_show_78 : decode cX12_show 78 = .ok (.lsub, 1) := by decide +kernel
theorem dX12_show_79 : decode cX12_show 79 = .ok (.putfield 382, 3) := by decide +kernel
theorem dX12_show_82 : decode cX12_show 82 = .ok (.iconst 1, 1) := by decide +kernel
theorem dX12_show_83 : decode cX12_show 83 = .ok (.ireturn, 1) := by decide +kernel
theorem dX12_show_251 : decode cX12_show 251 = .ok (.aload_n 0, 1) := by decide +kernel
theorem dX12_show_252 : decode cX12_show 252 = .ok (.iload_n 2, 1) := by decide +kernel
theorem dX12_show_253 : decode cX12_show 253 = .ok (.iload 4, 2) := by decide +kernel
theorem dX12_show_255 : decode cX12_show 255 = .ok (.iload 4, 2) := by decide +kernel
theorem dX12_show_257 : decode cX12_show 257 = .ok (.iconst 5, 1) := by decide +kernel
theorem dX12_show_258 : decode cX12_show 258 = .ok (.if_icmp .ne 12, 3) := by decide +kernel
theorem dX12_show_261 : decode cX12_show 261 = .ok (.aload_n 0, 1) := by decide +kernel
theorem dX12_show_262 : decode cX12_show 262 = .ok (.getfield 88, 3) := by decide +kernel
theorem dX12_show_265 : decode cX12_show 265 = .ok (.iload_n 3, 1) := by decide +kernel
theorem dX12_show_266 : decode cX12_show 266 = .ok (.iaload, 1) := by decide +kernel
theorem dX12_show_267 : decode cX12_show 267 = .ok (.goto 4, 3) := by decide +kernel
theorem dX12_show_271 : decode cX12_show 271 = .ok (.invokevirtual 416, 3) := by decide +kernel
theorem dX12_show_270 : decode cX12_show 270 = .ok (.iconst 0, 1) := by decide +kernel
theorem dX12_show_17 : decode cX12_show 17 = .ok (.iconst (-1), 1) := by decide +kernel
theorem dX12_show_18 : decode cX12_show 18 = .ok (.goto 9, 3) := by decide +kernel
theorem rg_505 : 14 ∉ [45, 46] := by decide
theorem rg_506 : 15 ∉ [45, 46] := by decide
theorem rg_507 : 16 ∉ [45, 46] := by decide
theorem rg_508 : 17 ∉ [45, 46] := by decide
theorem rg_509 : 18 ∉ [45, 46] := by decide
theorem rg_510 : 19 ∉ [45, 46] := by decide
theorem rg_511 : 35 ∉ [45, 46] := by decide
theorem rg_512 : 27 ∉ [45, 46] := by decide
theorem rg_513 : 28 ∉ [45, 46] := by decide
theorem rg_514 : 43 ∉ [45, 46] := by decide
theorem rg_515 : 44 ∉ [45, 46] := by decide
theorem rg_516 : ∀ p ∈ [45, 46], ¬ ((11 ≤ p ∧ p ≤ 24) ∨ (33 ≤ p ∧ p ≤ 36)) := by intro p h; simp at h; omega
theorem rg_517 : ∀ p ∈ [45, 46], ¬ (p = 27 ∨ p = 28) := by intro p h; simp at h; omega
theorem rg_518 : 2 = (2 : Int32).toInt := by decide
theorem rg_519 : 3 = (3 : Int32).toInt := by decide
theorem rg_520 : 4 = (4 : Int32).toInt := by decide
theorem rg_521 : 5 = (5 : Int32).toInt := by decide
theorem rg_522 : 6 = (6 : Int32).toInt := by decide
def ow_n_show : List Cond := [.fieldLink RX12 94 "NearEnoughModel" "on" "[I", .fieldLink RX12 85 "NearEnoughModel" "cKind" "[I", .fieldLink RX12 30 "NearEnoughModel" "rHas" "[I", .fieldLink RX12 240 "NearEnoughModel" "bank" "I", .fieldLink RX12 42 "NearEnoughModel" "sA" "[I", .fieldLink RX12 88 "NearEnoughModel" "cN" "[I", .fieldLink RX12 70 "NearEnoughModel" "sLeast" "[J", .fieldLink RX12 73 "NearEnoughModel" "sMost" "[J", .fieldLink RX12 379 "NearEnoughModel" "spanLow" "J", .fieldLink RX12 382 "NearEnoughModel" "spanHigh" "J", .fieldLink RX12 39 "NearEnoughModel" "sKind" "[I", .constantLong RX12 368 (2)]
def vs_n_show : List Cond := .code yX12_show cX12_show 7 (some .boolean) :: (ow_n_show ++ (([.methodLink RX12 331 yX12_at0, .instanceMethod yX12_at0, .selects RX12 yX12_at0 yX12_at0, .initialized RX12] : List Cond) ++ (vs_n_at0 ++ (([.methodLink RX12 410 yX12_spread, .instanceMethod yX12_spread, .selects RX12 yX12_spread yX12_spread, .initialized RX12] : List Cond) ++ (vs_n_spread ++ (([.methodLink RX12 413 yX12_spreadUsual, .instanceMethod yX12_spreadUsual, .selects RX12 yX12_spreadUsual yX12_spreadUsual, .initialized RX12] : List Cond) ++ (vs_n_spreadUsual ++ (([.methodLink RX12 337 yX12_floorOver, .static yX12_floorOver, .initialized yX12_floorOver.cls] : List Cond) ++ (vs_n_floorOver ++ (([.methodLink RX12 416 yX12_showRow, .instanceMethod yX12_showRow, .selects RX12 yX12_showRow yX12_showRow, .initialized RX12] : List Cond) ++ (vs_n_showRow ++ (wsX120))))))))))))
theorem vg_n_show : vs_n_show.all goodWord = true := by decide +kernel
theorem dd_n_show : yX12_show.cls = RX12 ∧ yX12_show.cls ≠ "java/lang/invoke/MethodHandle" ∧ yX12_show.cls ≠ "java/lang/invoke/VarHandle" ∧ (parseMethodDescriptor yX12_show.desc).map (fun d => d.parameters.length) = some 1 := by decide +kernel
def rm_n_show : Room := { frames := 4, cells := 0, slots := 0, locals := 112 }
theorem gd_n_show_331_n_at0 : GoodIn vs_n_show (wsV RX12 331 RX12 yX12_at0 vs_n_at0) := goodIn_app (goodIn_sub (fun w h => (List.mem_cons_of_mem _ (List.mem_append_right _ (List.mem_append_left _ h)))) (by decide +kernel)) (goodIn_sub (fun w h => (List.mem_cons_of_mem _ (List.mem_append_right _ (List.mem_append_right _ (List.mem_append_left _ h))))) vg_n_at0)
theorem gd_n_show_410_n_spread : GoodIn vs_n_show (wsV RX12 410 RX12 yX12_spread vs_n_spread) := goodIn_app (goodIn_sub (fun w h => (List.mem_cons_of_mem _ (List.mem_append_right _ (List.mem_append_right _ (List.mem_append_right _ (List.mem_append_left _ h)))))) (by decide +kernel)) (goodIn_sub (fun w h => (List.mem_cons_of_mem _ (List.mem_append_right _ (List.mem_append_right _ (List.mem_append_right _ (List.mem_append_right _ (List.mem_append_left _ h))))))) vg_n_spread)
theorem gd_n_show_413_n_spreadUsual : GoodIn vs_n_show (wsV RX12 413 RX12 yX12_spreadUsual vs_n_spreadUsual) := goodIn_app (goodIn_sub (fun w h => (List.mem_cons_of_mem _ (List.mem_append_right _ (List.mem_append_right _ (List.mem_append_right _ (List.mem_append_right _ (List.mem_append_right _ (List.mem_append_left _ h)))))))) (by decide +kernel)) (goodIn_sub (fun w h => (List.mem_cons_of_mem _ (List.mem_append_right _ (List.mem_append_right _ (List.mem_append_right _ (List.mem_append_right _ (List.mem_append_right _ (List.mem_append_right _ (List.mem_append_left _ h))))))))) vg_n_spreadUsual)
theorem gd_n_show_337_n_floorOver : GoodIn vs_n_show (va_wsS RX12 337 yX12_floorOver vs_n_floorOver) := goodIn_app (goodIn_sub (fun w h => (List.mem_cons_of_mem _ (List.mem_append_right _ (List.mem_append_right _ (List.mem_append_right _ (List.mem_append_right _ (List.mem_append_right _ (List.mem_append_right _ (List.mem_append_right _ (List.mem_append_left _ h)))))))))) (by decide +kernel)) (goodIn_sub (fun w h => (List.mem_cons_of_mem _ (List.mem_append_right _ (List.mem_append_right _ (List.mem_append_right _ (List.mem_append_right _ (List.mem_append_right _ (List.mem_append_right _ (List.mem_append_right _ (List.mem_append_right _ (List.mem_append_left _ h))))))))))) vg_n_floorOver)
theorem gd_n_show_416_n_showRow : GoodIn vs_n_show (wsV RX12 416 RX12 yX12_showRow vs_n_showRow) := goodIn_app (goodIn_sub (fun w h => (List.mem_cons_of_mem _ (List.mem_append_right _ (List.mem_append_right _ (List.mem_append_right _ (List.mem_append_right _ (List.mem_append_right _ (List.mem_append_right _ (List.mem_append_right _ (List.mem_append_right _ (List.mem_append_right _ (List.mem_append_left _ h)))))))))))) (by decide +kernel)) (goodIn_sub (fun w h => (List.mem_cons_of_mem _ (List.mem_append_right _ (List.mem_append_right _ (List.mem_append_right _ (List.mem_append_right _ (List.mem_append_right _ (List.mem_append_right _ (List.mem_append_right _ (List.mem_append_right _ (List.mem_append_right _ (List.mem_append_right _ (List.mem_append_left _ h))))))))))))) vg_n_showRow)
set_option maxHeartbeats 4000000 in
set_option maxRecDepth 100000 in
theorem n_show (l : Launch) (dC : Nat → ClassId) (dI : Nat → Nat → Nat) (h : Nat) (ad : Nat → Nat) (cl : Nat → ClassId) (sz : Nat) (σ : MS) (st9 : Int32) (hI : Inv σ) (hs : 0 ≤ st9.toInt ∧ st9.toInt ≤ 11) (hwk : WkOk σ st9) (hft : FitC (σ.1 29).toNatClampNeg (cor σ) st9.toNatClampNeg (σ.2.1 37 st9.toNatClampNeg)) : Met l yX12_show vs_n_show rm_n_show (va_Pc [.ref h, .int st9] (wSt dC dI (mW h ad cl σ) (mT cl) sz)) (va_Qi (fun (r : Int32) (τ : MS) => Inv τ ∧ eqx [45, 46] τ σ ∧ ((r.toInt = 1 ∧ shOk (σ.1 29).toNatClampNeg (cor σ) (σ.2.2.1 43) (σ.2.2.1 44) (σ.2.1 37 st9.toNatClampNeg) st9.toNatClampNeg ∧ τ.2.2.2 45 = shLo (σ.1 29).toNatClampNeg (cor σ) (coJ σ) (σ.2.2.1 43) (σ.2.2.1 44) (σ.2.1 37 st9.toNatClampNeg) st9.toNatClampNeg ∧ τ.2.2.2 46 = shHi (σ.1 29).toNatClampNeg (cor σ) (coJ σ) (σ.2.2.1 43) (σ.2.2.1 44) (σ.2.1 37 st9.toNatClampNeg) st9.toNatClampNeg) ∨ (r.toInt = 0 ∧ ¬ shOk (σ.1 29).toNatClampNeg (cor σ) (σ.2.2.1 43) (σ.2.2.1 44) (σ.2.1 37 st9.toNatClampNeg) st9.toNatClampNeg))) (fun (τ : MS) => wEn dC dI (va_A (mW h ad cl σ) sz) (mW h ad cl τ) []) (va_A (mW h ad cl σ) sz)) 0 0 (va_A (mW h ad cl σ) sz) := by
  refine Met.ofW (cc := cX12_show) (maxL := 7) (ret := (some .boolean)) (by decide) rfl ?_
  intro p e s m args below meth c s₁ B hml hv
  obtain ⟨rfl, hsz, hP, hK, hD0, hE⟩ := hv
  have hx := B.exec
  have hb := B.bytes
  have hr := B.returns
  have hts := atoms_spec (ws := vs_n_show) B.pre
  have hown : s.vm.findClass RX12 = some m.cls := findClass_of_methodNamed B.named
  have hlocks := B.notSynchronized
  subst hsz
  have hD := hD0.self (sz := s.heap.size)
  generalize hAe : va_A (mW h ad cl σ) s.heap.size = A at hD ⊢
  have hA : ∀ q : Nat, s.heap.size ≤ q → A q := fun q h => by rw [← hAe]; exact Or.inr h
  have hl := lv_entry ([.ref h, .int st9]) (n := 7) (Nat.le_of_ble_eq_true rfl)
  rw [lg_entry_eq]
  generalize (lg_sl ([.ref h, .int st9]) ++ List.replicate (7 - (lg_sl ([.ref h, .int st9])).length) Slot.unset).toArray = ls at hl ⊢
  have hl : lv_has ls 7 [(0, .ref h), (1, .int st9)] := hl
  have ho := fun w (h : w ∈ ow_n_show) => hts w (List.mem_cons_of_mem _ (List.mem_append_left _ h))
  have hin12 : ∀ w ∈ u_ws RX12 TX12 59, w ∈ vs_n_show := fun w h => (List.mem_cons_of_mem _ (List.mem_append_right _ (List.mem_append_right _ (List.mem_append_right _ (List.mem_append_right _ (List.mem_append_right _ (List.mem_append_right _ (List.mem_append_right _ (List.mem_append_right _ (List.mem_append_right _ (List.mem_append_right _ (List.mem_append_right _ h))))))))))))
  refine zQ (fun Q hQ => ?_)
  have hrows : (σ.2.1 11 (σ.1 29).toNatClampNeg).toInt ≤ 2 := (hI.2 11 _ (cl_lt (n := 2) (hI.1 29).1 (Int.lt_of_le_of_lt (hI.1 29).2 (by decide)))).2
  refine zH (A := A) (ws := mW h ad cl σ) (fun H hP hS => ?_) hP
  have bσ_29 : 0 ≤ (σ.1 29).toInt ∧ (σ.1 29).toInt ≤ 1 := hI.1 29
  refine lv_aload_n hx hb dX12_show_0 rfl (lv_at hl 0 rfl) ?_
  refine lv_iload_n hx hb dX12_show_1 rfl (lv_at hl 1 rfl) ?_
  have o1 : 0 ≤ st9.toInt := by omega
  have o2 : st9.toInt ≤ 11 := by omega
  refine zy_i (va_runV (As := [.int st9]) (rest := []) ⟨hx, hb, hml, hown, hts⟩ (n_at0 l dC dI h ad cl H.size σ st9 hI ⟨o1, o2⟩) (cwV 1 hts gd_n_show_331_n_at0 rfl rfl rfl dd_n_at0 ⟨Nat.le_of_ble_eq_true rfl, Nat.le_of_ble_eq_true rfl⟩) (preV hP hK hD hE (ci := 12) (q0 := 0) rfl rfl) rfl rfl hl.1 rfl (lv_room (Nat.le_of_ble_eq_true rfl)) dX12_show_2 ⟨Nat.le_of_ble_eq_true rfl, Nat.le_of_ble_eq_true rfl⟩) hD hS hA (fun z2_ τ1_ H locs hq hP hD hS => ?_)
  obtain ⟨rfl, f3_⟩ := hq
  refine W.widen (k := 0) (n := 0) (Nat.le_of_ble_eq_true rfl) (Nat.le_of_ble_eq_true rfl) ?_
  have o3 : z2_.toInt = 12 * (σ.1 29).toInt + st9.toInt := by omega
  have Xz2_ : z2_.toNatClampNeg = 12 * (σ.1 29).toNatClampNeg + st9.toNatClampNeg := at0x (hI.1 29).1 o1 o3
  have hst := hwk.st2 Xz2_
  unfold StOk at hst
  refine lv_istore_n (lv' := [(2, .int z2_), (0, .ref h), (1, .int st9)]) hx hb dX12_show_5 rfl hl (Nat.le_of_ble_eq_true rfl) rfl (fun ls hl => ?_)
  refine lv_aload_n hx hb dX12_show_6 rfl (lv_at hl 1 rfl) ?_
  refine va_get (D := (dC, dI)) (ci := 12) (v := .ref (ad 37)) (C := RX12) (T := TX12) (N := 59) hx hb hts hin12 hown hK hP 0 rfl rfl 37 (Nat.le_of_ble_eq_true rfl) (ho (.fieldLink RX12 94 "NearEnoughModel" "on" "[I") (List.mem_of_getElem? (i := 0) rfl)) (fun _ h9 => h9) rfl dX12_show_7 ?_
  refine lv_iload_n hx hb dX12_show_10 rfl (lv_at hl 2 rfl) ?_
  have o4 : st9.toInt < ((12 : Nat) : Int) := by omega
  refine va_iald hx hb hK hP 27 26 rfl rfl (ti_inx o1 o4) dX12_show_11 ?_
  refine lv_topi (fun z4_ ez4_ => ?_)
  have gz4_ : z4_.toInt = ((σ.2.1 37) (Int32.toNatClampNeg st9)).toInt := congrArg Int32.toInt (ez4_.trans (congrFun rfl (Int32.toNatClampNeg st9)))
  have bz4_ : (-1) ≤ z4_.toInt ∧ z4_.toInt ≤ 11 := by rw [ez4_]; exact (hI.2 37) _ (cl_lt (n := 12) o1 o4)
  refine lv_istore_n (lv' := [(3, .int z4_), (2, .int z2_), (0, .ref h), (1, .int st9)]) hx hb dX12_show_12 rfl hl (Nat.le_of_ble_eq_true rfl) rfl (fun ls hl => ?_)
  refine lv_iload_n hx hb dX12_show_13 rfl (lv_at hl 0 rfl) ?_
  refine lv_if_ge (tgt := 21) hx hb dX12_show_14 rfl (fun c5_ => ?_) (fun c5_ => ?_)
  · have tc5_ := (show 0 ≤ z4_.toInt from ti_le rg_11 rfl c5_)
    refine lv_aload_n hx hb dX12_show_21 rfl (lv_at hl 2 rfl) ?_
    refine va_get (D := (dC, dI)) (ci := 12) (v := .ref (ad 34)) (C := RX12) (T := TX12) (N := 59) hx hb hts hin12 hown hK hP 0 rfl rfl 34 (Nat.le_of_ble_eq_true rfl) (ho (.fieldLink RX12 85 "NearEnoughModel" "cKind" "[I") (List.mem_of_getElem? (i := 1) rfl)) (fun _ h9 => h9) rfl dX12_show_22 ?_
    refine lv_iload_n hx hb dX12_show_25 rfl (lv_at hl 0 rfl) ?_
    have o5 : 0 ≤ z4_.toInt := by omega
    have o6 : z4_.toInt < ((12 : Nat) : Int) := by omega
    refine va_iald hx hb hK hP 24 23 rfl rfl (ti_inx o5 o6) dX12_show_26 ?_
    refine lv_topi (fun z6_ ez6_ => ?_)
    have gz6_ : z6_.toInt = ((σ.2.1 34) (Int32.toNatClampNeg z4_)).toInt := congrArg Int32.toInt (ez6_.trans (congrFun rfl (Int32.toNatClampNeg z4_)))
    have bz6_ : 0 ≤ z6_.toInt ∧ z6_.toInt ≤ 6 := by rw [ez6_]; exact (hI.2 34) _ (cl_lt (n := 12) o5 o6)
    have EC : (σ.2.1 37 st9.toNatClampNeg) = z4_ := by rw [ez4_]
    rw [EC] at hft
    have hfu : 0 ≤ z4_.toInt → FitK (σ.2.1 17 (Int32.toNatClampNeg z2_)).toInt (σ.2.1 34 (Int32.toNatClampNeg z4_)).toInt (σ.2.1 35 (Int32.toNatClampNeg z4_)).toInt := by rw [Xz2_]; exact hft.2.2
    unfold FitK at hfu
    rcases (show z6_.toInt = 0 ∨ z6_.toInt = 1 ∨ z6_.toInt = 2 ∨ z6_.toInt = 3 ∨ z6_.toInt = 4 ∨ z6_.toInt = 5 ∨ z6_.toInt = 6 by omega) with t_sp | t_sp | t_sp | t_sp | t_sp | t_sp | t_sp
    · obtain rfl : z6_ = 0 := Int32.toInt_inj.mp (t_sp.trans rg_500)
      have kk7_ : (0 : Int32).toInt = 0 := rg_11
      refine lv_istore (lv' := [(4, .int 0), (3, .int z4_), (2, .int z2_), (0, .ref h), (1, .int st9)]) hx hb dX12_show_27 hl (Nat.le_of_ble_eq_true rfl) rfl (fun ls hl => ?_)
      refine lv_iload hx hb dX12_show_29 (lv_at hl 0 rfl) ?_
      refine lv_iconst (v := 4) hx hb dX12_show_31 rg_31 ?_
      refine lv_icmp_ne (tgt := 84) hx hb dX12_show_32 rfl (fun _ => ?_) (fun cc => absurd cc (by decide))
      refine lv_aload_n hx hb dX12_show_84 rfl (lv_at hl 3 rfl) ?_
      refine lv_iload_n hx hb dX12_show_85 rfl (lv_at hl 4 rfl) ?_
      have o7 : 0 ≤ st9.toInt := by omega
      have o8 : st9.toInt ≤ 11 := by omega
      refine zy_i (va_runV (As := [.int st9]) (rest := []) ⟨hx, hb, hml, hown, hts⟩ (n_spread l dC dI h ad cl H.size σ st9 hI ⟨o7, o8⟩ hwk) (cwV 1 hts gd_n_show_410_n_spread rfl rfl rfl dd_n_spread ⟨Nat.le_of_ble_eq_true rfl, Nat.le_of_ble_eq_true rfl⟩) (preV hP hK hD hE (ci := 12) (q0 := 0) rfl rfl) rfl rfl hl.1 rfl (lv_room (Nat.le_of_ble_eq_true rfl)) dX12_show_86 ⟨Nat.le_of_ble_eq_true rfl, Nat.le_of_ble_eq_true rfl⟩) hD hS hA (fun z9_ τ8_ H locs hq hP hD hS => ?_)
      obtain ⟨hI10_, hx11_, f12_, f13_, f14_⟩ := hq
      have Xτ8_ : eqx [45, 46] τ8_ σ := eqx.tr hx11_ eqx.rf rg_503
      have qq15_ : (τ8_.1 29).toInt = ((σ.1 29) : Int32).toInt := congrArg Int32.toInt ((show τ8_.1 29 = (σ.1 29) from ((hx11_ 29 rg_504).1).trans rfl))
      refine W.widen (k := 0) (n := 0) (Nat.le_of_ble_eq_true rfl) (Nat.le_of_ble_eq_true rfl) ?_
      have E14 : τ8_.2.1 14 = σ.2.1 14 := (hx11_ 14 rg_505).2.1
      have E15 : τ8_.2.1 15 = σ.2.1 15 := (hx11_ 15 rg_506).2.1
      have E16 : τ8_.2.1 16 = σ.2.1 16 := (hx11_ 16 rg_507).2.1
      have E17 : τ8_.2.1 17 = σ.2.1 17 := (hx11_ 17 rg_508).2.1
      have E18 : τ8_.2.1 18 = σ.2.1 18 := (hx11_ 18 rg_509).2.1
      have E19 : τ8_.2.1 19 = σ.2.1 19 := (hx11_ 19 rg_510).2.1
      have E35 : τ8_.2.1 35 = σ.2.1 35 := (hx11_ 35 rg_511).2.1
      have E27 : τ8_.2.2.1 27 = σ.2.2.1 27 := (hx11_ 27 rg_512).2.2.1
      have E28 : τ8_.2.2.1 28 = σ.2.2.1 28 := (hx11_ 28 rg_513).2.2.1
      have E43 : τ8_.2.2.1 43 = σ.2.2.1 43 := (hx11_ 43 rg_514).2.2.1
      have E44 : τ8_.2.2.1 44 = σ.2.2.1 44 := (hx11_ 44 rg_515).2.2.1
      have E29 : τ8_.1 29 = σ.1 29 := (hx11_ 29 rg_504).1
      have Ecor : cor τ8_ = cor σ := cor_x hx11_ rg_516
      have EcoJ : coJ τ8_ = coJ σ := coJ_x hx11_ rg_517
      refine lv_if_ne (tgt := 94) hx hb dX12_show_89 rfl (fun c16_ => ?_) (fun c16_ => ?_)
      · have tc16_ := (show z9_.toInt ≠ 0 from ti_ne rfl rg_11 c16_)
        refine lv_iload hx hb dX12_show_94 (lv_at hl 0 rfl) ?_
        refine lv_if_ne (tgt := 196) hx hb dX12_show_96 rfl (fun cc => absurd cc (by decide)) (fun _ => ?_)
        refine lv_aload_n hx hb dX12_show_99 rfl (lv_at hl 3 rfl) ?_
        refine va_get (D := (dC, dI)) (ci := 12) (v := .ref (ad 14)) (C := RX12) (T := TX12) (N := 59) hx hb hts hin12 hown hK hP 0 rfl rfl 14 (Nat.le_of_ble_eq_true rfl) (ho (.fieldLink RX12 30 "NearEnoughModel" "rHas" "[I") (List.mem_of_getElem? (i := 2) rfl)) (fun _ h9 => h9) rfl dX12_show_100 ?_
        refine lv_iconst (v := 2) hx hb dX12_show_103 rg_19 ?_
        refine lv_aload_n hx hb dX12_show_104 rfl (lv_at hl 3 rfl) ?_
        refine va_get (D := (dC, dI)) (ci := 12) (v := .int (τ8_.1 29)) (C := RX12) (T := TX12) (N := 59) hx hb hts hin12 hown hK hP 0 rfl rfl 29 (Nat.le_of_ble_eq_true rfl) (ho (.fieldLink RX12 240 "NearEnoughModel" "bank" "I") (List.mem_of_getElem? (i := 3) rfl)) (fun _ h9 => h9) rfl dX12_show_105 ?_
        refine zi (v := (σ.1 29)) (show τ8_.1 29 = (σ.1 29) from ((hx11_ 29 rg_504).1).trans rfl) ?_
        have bb17_ : 0 ≤ (σ.1 29).toInt ∧ (σ.1 29).toInt ≤ 1 := by have h9 := hI10_.1 29; rw [show (τ8_.1 29) = (σ.1 29) from (show τ8_.1 29 = (σ.1 29) from ((hx11_ 29 rg_504).1).trans rfl)] at h9; exact h9
        refine lv_imul hx hb dX12_show_108 ?_
        refine lv_topi (fun z18_ ez18_ => ?_)
        have o9 : -2147483648 ≤ 2 * (σ.1 29).toInt := by omega
        have o10 : 2 * (σ.1 29).toInt ≤ 2147483647 := by omega
        have tz18_ : z18_.toInt = 2 * (σ.1 29).toInt := ti_mul ez18_ rg_20 rfl o9 o10
        refine lv_aload_n hx hb dX12_show_109 rfl (lv_at hl 3 rfl) ?_
        refine va_get (D := (dC, dI)) (ci := 12) (v := .ref (ad 18)) (C := RX12) (T := TX12) (N := 59) hx hb hts hin12 hown hK hP 0 rfl rfl 18 (Nat.le_of_ble_eq_true rfl) (ho (.fieldLink RX12 42 "NearEnoughModel" "sA" "[I") (List.mem_of_getElem? (i := 4) rfl)) (fun _ h9 => h9) rfl dX12_show_110 ?_
        refine lv_iload_n hx hb dX12_show_113 rfl (lv_at hl 2 rfl) ?_
        have o11 : 0 ≤ z2_.toInt := by omega
        have o12 : z2_.toInt < ((24 : Nat) : Int) := by omega
        refine va_iald hx hb hK hP 10 9 rfl rfl (ti_inx o11 o12) dX12_show_114 ?_
        refine lv_topi (fun z19_ ez19_ => ?_)
        have gz19_ : z19_.toInt = ((σ.2.1 18) (Int32.toNatClampNeg z2_)).toInt := congrArg Int32.toInt (ez19_.trans (congrFun (((hx11_ 18 rg_509).2.1).trans rfl) (Int32.toNatClampNeg z2_)))
        have bz19_ : (-1) ≤ z19_.toInt ∧ z19_.toInt ≤ 11 := by rw [ez19_]; exact (hI10_.2 18) _ (cl_lt (n := 24) o11 o12)
        refine lv_iadd hx hb dX12_show_115 ?_
        refine lv_topi (fun z20_ ez20_ => ?_)
        have o13 : -2147483648 ≤ z18_.toInt + z19_.toInt := by omega
        have o14 : z18_.toInt + z19_.toInt ≤ 2147483647 := by omega
        have tz20_ : z20_.toInt = z18_.toInt + z19_.toInt := ti_add ez20_ rfl rfl o13 o14
        have o15 : 0 ≤ z20_.toInt := by omega
        have o16 : z20_.toInt < ((4 : Nat) : Int) := by omega
        refine va_iald hx hb hK hP 6 5 rfl rfl (ti_inx o15 o16) dX12_show_116 ?_
        refine lv_topi (fun z21_ ez21_ => ?_)
        have gz21_ : z21_.toInt = ((σ.2.1 14) (Int32.toNatClampNeg z20_)).toInt := congrArg Int32.toInt (ez21_.trans (congrFun (((hx11_ 14 rg_505).2.1).trans rfl) (Int32.toNatClampNeg z20_)))
        have bz21_ : 0 ≤ z21_.toInt ∧ z21_.toInt ≤ 6 := by rw [ez21_]; exact (hI10_.2 14) _ (cl_lt (n := 4) o15 o16)
        refine lv_istore (lv' := [(5, .int z21_), (4, .int 0), (3, .int z4_), (2, .int z2_), (0, .ref h), (1, .int st9)]) hx hb dX12_show_117 hl (Nat.le_of_ble_eq_true rfl) rfl (fun ls hl => ?_)
        have o17 : (σ.2.1 17 (Int32.toNatClampNeg z2_)).toInt = 0 ∨ (σ.2.1 17 (Int32.toNatClampNeg z2_)).toInt = 1 ∨ (σ.2.1 17 (Int32.toNatClampNeg z2_)).toInt = 6 := by omega
        have K23_ : (σ.2.1 17 (12 * (σ.1 29).toNatClampNeg + st9.toNatClampNeg)).toInt = 0 ∨ (σ.2.1 17 (12 * (σ.1 29).toNatClampNeg + st9.toNatClampNeg)).toInt = 1 ∨ (σ.2.1 17 (12 * (σ.1 29).toNatClampNeg + st9.toNatClampNeg)).toInt = 6 := by rw [← Xz2_]; exact o17
        have hrw : RwOk σ st9 := (WkOk.row hI hwk K23_)
        have Az19_ : z19_ = σ.2.1 18 (12 * (σ.1 29).toNatClampNeg + st9.toNatClampNeg) := by rw [ez19_, E18, Xz2_]
        have o18 : 0 ≤ z19_.toInt := by omega
        have o19 : z20_.toInt = 2 * (σ.1 29).toInt + z19_.toInt := by omega
        have Xz20_ : z20_.toNatClampNeg = rw9 (σ.1 29).toNatClampNeg (cor σ) st9.toNatClampNeg := by show _ = 2 * (σ.1 29).toNatClampNeg + (σ.2.1 18 (12 * (σ.1 29).toNatClampNeg + st9.toNatClampNeg)).toNatClampNeg; rw [← Az19_]; exact row_x (hI.1 29).1 o18 o19
        have N22_ : z21_ = ofA (σ.1 29).toNatClampNeg (cor σ) st9.toNatClampNeg := by rw [ez21_, E14, Xz20_]; rfl
        have BN22_ : 1 ≤ z21_.toInt := by rw [N22_]; exact hrw.2.2
        refine lv_iload hx hb dX12_show_119 (lv_at hl 0 rfl) ?_
        refine lv_iload hx hb dX12_show_121 (lv_at hl 0 rfl) ?_
        refine lv_aload_n hx hb dX12_show_123 rfl (lv_at hl 4 rfl) ?_
        refine va_get (D := (dC, dI)) (ci := 12) (v := .ref (ad 35)) (C := RX12) (T := TX12) (N := 59) hx hb hts hin12 hown hK hP 0 rfl rfl 35 (Nat.le_of_ble_eq_true rfl) (ho (.fieldLink RX12 88 "NearEnoughModel" "cN" "[I") (List.mem_of_getElem? (i := 5) rfl)) (fun _ h9 => h9) rfl dX12_show_124 ?_
        refine lv_iload_n hx hb dX12_show_127 rfl (lv_at hl 2 rfl) ?_
        have o20 : 0 ≤ z4_.toInt := by omega
        have o21 : z4_.toInt < ((12 : Nat) : Int) := by omega
        refine va_iald hx hb hK hP 25 24 rfl rfl (ti_inx o20 o21) dX12_show_128 ?_
        refine lv_topi (fun z24_ ez24_ => ?_)
        have gz24_ : z24_.toInt = ((σ.2.1 35) (Int32.toNatClampNeg z4_)).toInt := congrArg Int32.toInt (ez24_.trans (congrFun (((hx11_ 35 rg_511).2.1).trans rfl) (Int32.toNatClampNeg z4_)))
        have bz24_ : 0 ≤ z24_.toInt ∧ z24_.toInt ≤ 99 := by rw [ez24_]; exact (hI10_.2 35) _ (cl_lt (n := 12) o20 o21)
        refine lv_iadd hx hb dX12_show_129 ?_
        refine lv_topi (fun z25_ ez25_ => ?_)
        have o22 : -2147483648 ≤ z21_.toInt + z24_.toInt := by omega
        have o23 : z21_.toInt + z24_.toInt ≤ 2147483647 := by omega
        have tz25_ : z25_.toInt = z21_.toInt + z24_.toInt := ti_add ez25_ rfl rfl o22 o23
        refine lv_iconst (v := 1) hx hb dX12_show_130 rg_6 ?_
        refine lv_isub hx hb dX12_show_131 ?_
        refine lv_topi (fun z26_ ez26_ => ?_)
        have o24 : -2147483648 ≤ z25_.toInt - 1 := by omega
        have o25 : z25_.toInt - 1 ≤ 2147483647 := by omega
        have tz26_ : z26_.toInt = z25_.toInt - 1 := ti_sub ez26_ rfl rg_18 o24 o25
        refine lv_aload_n hx hb dX12_show_132 rfl (lv_at hl 4 rfl) ?_
        refine va_get (D := (dC, dI)) (ci := 12) (v := .ref (ad 35)) (C := RX12) (T := TX12) (N := 59) hx hb hts hin12 hown hK hP 0 rfl rfl 35 (Nat.le_of_ble_eq_true rfl) (ho (.fieldLink RX12 88 "NearEnoughModel" "cN" "[I") (List.mem_of_getElem? (i := 5) rfl)) (fun _ h9 => h9) rfl dX12_show_133 ?_
        refine lv_iload_n hx hb dX12_show_136 rfl (lv_at hl 2 rfl) ?_
        refine va_iald hx hb hK hP 25 24 rfl rfl (ti_inx o20 o21) dX12_show_137 ?_
        refine lv_topi (fun z27_ ez27_ => ?_)
        have qq28_ : z27_.toInt = z24_.toInt := congrArg Int32.toInt ((ez27_.trans (congrFun (((hx11_ 35 rg_511).2.1).trans rfl) (Int32.toNatClampNeg z4_))).trans ((ez24_.trans (congrFun (((hx11_ 35 rg_511).2.1).trans rfl) (Int32.toNatClampNeg z4_)))).symm)
        have gz27_ : z27_.toInt = ((σ.2.1 35) (Int32.toNatClampNeg z4_)).toInt := congrArg Int32.toInt (ez27_.trans (congrFun (((hx11_ 35 rg_511).2.1).trans rfl) (Int32.toNatClampNeg z4_)))
        have bz27_ : 0 ≤ z27_.toInt ∧ z27_.toInt ≤ 99 := by rw [ez27_]; exact (hI10_.2 35) _ (cl_lt (n := 12) o20 o21)
        have o26 : z27_.toInt ≠ 0 := by omega
        refine lv_idiv hx hb dX12_show_138 (i_ne o26) ?_
        refine lv_topi (fun z29_ ez29_ => ?_)
        refine lv_isub hx hb dX12_show_139 ?_
        refine lv_topi (fun z30_ ez30_ => ?_)
        refine lv_istore (lv' := [(6, .int z30_), (5, .int z21_), (4, .int 0), (3, .int z4_), (2, .int z2_), (0, .ref h), (1, .int st9)]) hx hb dX12_show_140 hl (Nat.le_of_ble_eq_true rfl) rfl (fun ls hl => ?_)
        refine lv_aload_n hx hb dX12_show_142 rfl (lv_at hl 5 rfl) ?_
        refine lv_iload hx hb dX12_show_143 (lv_at hl 0 rfl) ?_
        refine lv_i2l hx hb dX12_show_145 rfl ?_
        refine lv_topl (fun y31_ ey31_ => ?_)
        refine lv_aload_n hx hb dX12_show_146 rfl (lv_at hl 5 rfl) ?_
        refine va_get (D := (dC, dI)) (ci := 12) (v := .ref (ad 27)) (C := RX12) (T := TX12) (N := 59) hx hb hts hin12 hown hK hP 0 rfl rfl 27 (Nat.le_of_ble_eq_true rfl) (ho (.fieldLink RX12 70 "NearEnoughModel" "sLeast" "[J") (List.mem_of_getElem? (i := 6) rfl)) (fun _ h9 => h9) rfl dX12_show_147 ?_
        refine lv_iload_n hx hb dX12_show_150 rfl (lv_at hl 4 rfl) ?_
        refine va_lald hx hb hK hP 19 18 rfl rfl (ti_inx o11 o12) dX12_show_151 ?_
        refine lv_topl (fun y32_ ey32_ => ?_)
        refine lv_aload_n hx hb dX12_show_152 rfl (lv_at hl 5 rfl) ?_
        refine va_get (D := (dC, dI)) (ci := 12) (v := .ref (ad 28)) (C := RX12) (T := TX12) (N := 59) hx hb hts hin12 hown hK hP 0 rfl rfl 28 (Nat.le_of_ble_eq_true rfl) (ho (.fieldLink RX12 73 "NearEnoughModel" "sMost" "[J") (List.mem_of_getElem? (i := 7) rfl)) (fun _ h9 => h9) rfl dX12_show_153 ?_
        refine lv_iload_n hx hb dX12_show_156 rfl (lv_at hl 4 rfl) ?_
        refine va_lald hx hb hK hP 20 19 rfl rfl (ti_inx o11 o12) dX12_show_157 ?_
        refine lv_topl (fun y33_ ey33_ => ?_)
        refine lv_lsub hx hb dX12_show_158 ?_
        refine lv_topl (fun y34_ ey34_ => ?_)
        refine lv_lmul hx hb dX12_show_159 ?_
        refine lv_topl (fun y35_ ey35_ => ?_)
        refine lv_iload hx hb dX12_show_160 (lv_at hl 1 rfl) ?_
        refine lv_i2l hx hb dX12_show_162 rfl ?_
        refine lv_topl (fun y36_ ey36_ => ?_)
        have o27 : z21_.toInt ≠ 0 := by omega
        refine lv_ldiv hx hb dX12_show_163 (i2l_ne ey36_ o27) ?_
        refine lv_topl (fun y37_ ey37_ => ?_)
        refine lv_lconst (v := 1) hx hb dX12_show_164 (by decide) ?_
        refine lv_lsub hx hb dX12_show_165 ?_
        refine lv_topl (fun y38_ ey38_ => ?_)
        refine va_put (D := (dC, dI)) (ci := 12) (v := .long y38_) (ty := tyX12 45) (C := RX12) (T := TX12) (N := 59) hx hb hts hin12 tyX12 tyX12_ok nmX12 hown hK hP hD hS 0 rfl rfl 45 (Nat.le_of_ble_eq_true rfl) (ho (.fieldLink RX12 379 "NearEnoughModel" "spanLow" "J") (List.mem_of_getElem? (i := 8) rfl)) (fun _ h9 => h9) rfl (tyX12_ok 45 (Nat.le_of_ble_eq_true rfl)) rfl rfl (Nat.le_of_ble_eq_true rfl) dX12_show_166 (fun H locs hP hD hS => ?_)
        have hP : va_P (dC, dI) vwCl (mW h ad cl (sL τ8_ 45 y38_)) H := hP
        have hD : va_D A (mW h ad cl (sL τ8_ 45 y38_)) := hD
        refine lv_aload_n hx hb dX12_show_169 rfl (lv_at hl 5 rfl) ?_
        refine lv_iload hx hb dX12_show_170 (lv_at hl 0 rfl) ?_
        refine lv_i2l hx hb dX12_show_172 rfl ?_
        refine lv_topl (fun y39_ ey39_ => ?_)
        refine lv_aload_n hx hb dX12_show_173 rfl (lv_at hl 5 rfl) ?_
        refine va_get (D := (dC, dI)) (ci := 12) (v := .ref (ad 28)) (C := RX12) (T := TX12) (N := 59) hx hb hts hin12 hown hK hP 0 rfl rfl 28 (Nat.le_of_ble_eq_true rfl) (ho (.fieldLink RX12 73 "NearEnoughModel" "sMost" "[J") (List.mem_of_getElem? (i := 7) rfl)) (fun _ h9 => h9) rfl dX12_show_174 ?_
        refine lv_iload_n hx hb dX12_show_177 rfl (lv_at hl 4 rfl) ?_
        refine va_lald hx hb hK hP 20 19 rfl rfl (ti_inx o11 o12) dX12_show_178 ?_
        refine lv_topl (fun y40_ ey40_ => ?_)
        refine lv_aload_n hx hb dX12_show_179 rfl (lv_at hl 5 rfl) ?_
        refine va_get (D := (dC, dI)) (ci := 12) (v := .ref (ad 27)) (C := RX12) (T := TX12) (N := 59) hx hb hts hin12 hown hK hP 0 rfl rfl 27 (Nat.le_of_ble_eq_true rfl) (ho (.fieldLink RX12 70 "NearEnoughModel" "sLeast" "[J") (List.mem_of_getElem? (i := 6) rfl)) (fun _ h9 => h9) rfl dX12_show_180 ?_
        refine lv_iload_n hx hb dX12_show_183 rfl (lv_at hl 4 rfl) ?_
        refine va_lald hx hb hK hP 19 18 rfl rfl (ti_inx o11 o12) dX12_show_184 ?_
        refine lv_topl (fun y41_ ey41_ => ?_)
        refine lv_lsub hx hb dX12_show_185 ?_
        refine lv_topl (fun y42_ ey42_ => ?_)
        refine lv_lmul hx hb dX12_show_186 ?_
        refine lv_topl (fun y43_ ey43_ => ?_)
        refine lv_iload hx hb dX12_show_187 (lv_at hl 1 rfl) ?_
        refine lv_i2l hx hb dX12_show_189 rfl ?_
        refine lv_topl (fun y44_ ey44_ => ?_)
        refine lv_ldiv hx hb dX12_show_190 (i2l_ne ey44_ o27) ?_
        refine lv_topl (fun y45_ ey45_ => ?_)
        refine lv_lconst (v := 1) hx hb dX12_show_191 (by decide) ?_
        refine lv_ladd hx hb dX12_show_192 ?_
        refine lv_topl (fun y46_ ey46_ => ?_)
        refine va_put (D := (dC, dI)) (ci := 12) (v := .long y46_) (ty := tyX12 46) (C := RX12) (T := TX12) (N := 59) hx hb hts hin12 tyX12 tyX12_ok nmX12 hown hK hP hD hS 0 rfl rfl 46 (Nat.le_of_ble_eq_true rfl) (ho (.fieldLink RX12 382 "NearEnoughModel" "spanHigh" "J") (List.mem_of_getElem? (i := 9) rfl)) (fun _ h9 => h9) rfl (tyX12_ok 46 (Nat.le_of_ble_eq_true rfl)) rfl rfl (Nat.le_of_ble_eq_true rfl) dX12_show_193 (fun H locs hP hD hS => ?_)
        have hP : va_P (dC, dI) vwCl (mW h ad cl (sL (sL τ8_ 45 y38_) 46 y46_)) H := hP
        have hD : va_D A (mW h ad cl (sL (sL τ8_ 45 y38_) 46 y46_)) := hD
        refine lv_iload hx hb dX12_show_196 (lv_at hl 2 rfl) ?_
        refine lv_iconst (v := 1) hx hb dX12_show_198 rg_6 ?_
        refine lv_icmp_ne (tgt := 221) hx hb dX12_show_199 rfl (fun _ => ?_) (fun cc => absurd cc (by decide))
        refine lv_iload hx hb dX12_show_221 (lv_at hl 2 rfl) ?_
        refine lv_iconst (v := 2) hx hb dX12_show_223 rg_19 ?_
        refine lv_icmp_ne (tgt := 238) hx hb dX12_show_224 rfl (fun _ => ?_) (fun cc => absurd cc (by decide))
        refine lv_iload hx hb dX12_show_238 (lv_at hl 2 rfl) ?_
        refine lv_iconst (v := 5) hx hb dX12_show_240 rg_14 ?_
        refine lv_icmp_eq (tgt := 251) hx hb dX12_show_241 rfl (fun cc => absurd cc (by decide)) (fun _ => ?_)
        refine lv_iload hx hb dX12_show_244 (lv_at hl 2 rfl) ?_
        refine lv_bipush (v := 6) hx hb dX12_show_246 rg_55 ?_
        refine lv_icmp_ne (tgt := 274) hx hb dX12_show_248 rfl (fun _ => ?_) (fun cc => absurd cc (by decide))
        refine lv_iload hx hb dX12_show_274 (lv_at hl 2 rfl) ?_
        refine lv_iconst (v := 3) hx hb dX12_show_276 rg_16 ?_
        refine lv_icmp_ne (tgt := 331) hx hb dX12_show_277 rfl (fun _ => ?_) (fun cc => absurd cc (by decide))
        refine lv_iconst (v := 1) hx hb dX12_show_331 rg_6 ?_
        rw [hQ]
        have o28 : ¬ z9_.toInt = 0 := by omega
        have R49_ : shOk (σ.1 29).toNatClampNeg (cor σ) (σ.2.2.1 43) (σ.2.2.1 44) (σ.2.1 37 st9.toNatClampNeg) st9.toNatClampNeg := Or.inr (by rcases f14_ with q | q; exact q.2; exact absurd q.1 o28)
        have o29 : 0 ≤ z4_.toInt ∧ (σ.2.1 34 (Int32.toNatClampNeg z4_)).toInt = 0 := by omega
        have R47_ : y38_ = shLo (σ.1 29).toNatClampNeg (cor σ) (coJ σ) (σ.2.2.1 43) (σ.2.2.1 44) (σ.2.1 37 st9.toNatClampNeg) st9.toNatClampNeg := by rw [(sh_0 (B := (σ.1 29).toNatClampNeg) (T := cor σ) (J := coJ σ) (L := σ.2.2.1 43) (H := σ.2.2.1 44) (j := st9.toNatClampNeg) (show OnK (cor σ) (σ.2.1 37 st9.toNatClampNeg) 0 from (by rw [EC]; exact o29))).1]; simp only [skL, sL_21, sL_J, sL_1, E14, E15, E16, E17, E18, E19, E35, E27, E28, E43, E44, E29, Ecor, EcoJ, f12_, ez4_, ez18_, ez19_, ez21_, ez24_, ez25_, ez26_, ez27_, ez29_, ez30_, ey31_, ey32_, ey33_, ey34_, ey35_, ey36_, ey37_, ey38_, ey39_, ey40_, ey41_, ey42_, ey43_, ey44_, ey45_, ey46_, Xz2_, Xz20_] <;> rfl
        have R48_ : y46_ = shHi (σ.1 29).toNatClampNeg (cor σ) (coJ σ) (σ.2.2.1 43) (σ.2.2.1 44) (σ.2.1 37 st9.toNatClampNeg) st9.toNatClampNeg := by rw [(sh_0 (B := (σ.1 29).toNatClampNeg) (T := cor σ) (J := coJ σ) (L := σ.2.2.1 43) (H := σ.2.2.1 44) (j := st9.toNatClampNeg) (show OnK (cor σ) (σ.2.1 37 st9.toNatClampNeg) 0 from (by rw [EC]; exact o29))).2]; simp only [skL, sL_21, sL_J, sL_1, E14, E15, E16, E17, E18, E19, E35, E27, E28, E43, E44, E29, Ecor, EcoJ, f13_, ez4_, ez18_, ez19_, ez21_, ez24_, ez25_, ez26_, ez27_, ez29_, ez30_, ey31_, ey32_, ey33_, ey34_, ey35_, ey36_, ey37_, ey38_, ey39_, ey40_, ey41_, ey42_, ey43_, ey44_, ey45_, ey46_, Xz2_, Xz20_] <;> rfl
        exact W.zret (v := 1) hx hb hr rfl (fun t ht hW => ⟨⟨1, (sL (sL τ8_ 45 y38_) 46 y46_), rfl, ⟨(Inv.sL (Inv.sL hI10_)), (eqx.sL (eqx.sL Xτ8_ rg_498) rg_499), Or.inl ⟨rg_18, R49_, R47_, R48_⟩⟩, wEn_of hP (hK.sub [] rfl) hD ht hW⟩, hS.F ht⟩) hS.2.2 dX12_show_332
      · have tc16_ := (show z9_.toInt = 0 from ti_eq rfl rg_11 c16_)
        refine lv_iconst (v := 0) hx hb dX12_show_92 rg_0 ?_
        rw [hQ]
        have o30 : ¬ z9_.toInt = 1 := by omega
        have o31 : 0 ≤ z4_.toInt ∧ (σ.2.1 34 (Int32.toNatClampNeg z4_)).toInt = 0 := by omega
        have R50_ : ¬ shOk (σ.1 29).toNatClampNeg (cor σ) (σ.2.2.1 43) (σ.2.2.1 44) (σ.2.1 37 st9.toNatClampNeg) st9.toNatClampNeg := fun h7 => by rcases f14_ with q | q; exact absurd q.1 o30; exact h7.elim (fun h6 => absurd h6 (on_ne (show OnK (cor σ) (σ.2.1 37 st9.toNatClampNeg) 0 from (by rw [EC]; exact o31)) (by decide))) q.2
        exact W.zret (v := 0) hx hb hr rfl (fun t ht hW => ⟨⟨0, τ8_, rfl, ⟨hI10_, Xτ8_, Or.inr ⟨rg_11, R50_⟩⟩, wEn_of hP (hK.sub [] rfl) hD ht hW⟩, hS.F ht⟩) hS.2.2 dX12_show_93
    · obtain rfl : z6_ = 1 := Int32.toInt_inj.mp (t_sp.trans rg_501)
      have kk51_ : (1 : Int32).toInt = 1 := rg_18
      refine lv_istore (lv' := [(4, .int 1), (3, .int z4_), (2, .int z2_), (0, .ref h), (1, .int st9)]) hx hb dX12_show_27 hl (Nat.le_of_ble_eq_true rfl) rfl (fun ls hl => ?_)
      refine lv_iload hx hb dX12_show_29 (lv_at hl 0 rfl) ?_
      refine lv_iconst (v := 4) hx hb dX12_show_31 rg_31 ?_
      refine lv_icmp_ne (tgt := 84) hx hb dX12_show_32 rfl (fun _ => ?_) (fun cc => absurd cc (by decide))
      refine lv_aload_n hx hb dX12_show_84 rfl (lv_at hl 3 rfl) ?_
      refine lv_iload_n hx hb dX12_show_85 rfl (lv_at hl 4 rfl) ?_
      have o32 : 0 ≤ st9.toInt := by omega
      have o33 : st9.toInt ≤ 11 := by omega
      refine zy_i (va_runV (As := [.int st9]) (rest := []) ⟨hx, hb, hml, hown, hts⟩ (n_spread l dC dI h ad cl H.size σ st9 hI ⟨o32, o33⟩ hwk) (cwV 1 hts gd_n_show_410_n_spread rfl rfl rfl dd_n_spread ⟨Nat.le_of_ble_eq_true rfl, Nat.le_of_ble_eq_true rfl⟩) (preV hP hK hD hE (ci := 12) (q0 := 0) rfl rfl) rfl rfl hl.1 rfl (lv_room (Nat.le_of_ble_eq_true rfl)) dX12_show_86 ⟨Nat.le_of_ble_eq_true rfl, Nat.le_of_ble_eq_true rfl⟩) hD hS hA (fun z53_ τ52_ H locs hq hP hD hS => ?_)
      obtain ⟨hI54_, hx55_, f56_, f57_, f58_⟩ := hq
      have Xτ52_ : eqx [45, 46] τ52_ σ := eqx.tr hx55_ eqx.rf rg_503
      have qq59_ : (τ52_.1 29).toInt = ((σ.1 29) : Int32).toInt := congrArg Int32.toInt ((show τ52_.1 29 = (σ.1 29) from ((hx55_ 29 rg_504).1).trans rfl))
      refine W.widen (k := 0) (n := 0) (Nat.le_of_ble_eq_true rfl) (Nat.le_of_ble_eq_true rfl) ?_
      have E14 : τ52_.2.1 14 = σ.2.1 14 := (hx55_ 14 rg_505).2.1
      have E15 : τ52_.2.1 15 = σ.2.1 15 := (hx55_ 15 rg_506).2.1
      have E16 : τ52_.2.1 16 = σ.2.1 16 := (hx55_ 16 rg_507).2.1
      have E17 : τ52_.2.1 17 = σ.2.1 17 := (hx55_ 17 rg_508).2.1
      have E18 : τ52_.2.1 18 = σ.2.1 18 := (hx55_ 18 rg_509).2.1
      have E19 : τ52_.2.1 19 = σ.2.1 19 := (hx55_ 19 rg_510).2.1
      have E35 : τ52_.2.1 35 = σ.2.1 35 := (hx55_ 35 rg_511).2.1
      have E27 : τ52_.2.2.1 27 = σ.2.2.1 27 := (hx55_ 27 rg_512).2.2.1
      have E28 : τ52_.2.2.1 28 = σ.2.2.1 28 := (hx55_ 28 rg_513).2.2.1
      have E43 : τ52_.2.2.1 43 = σ.2.2.1 43 := (hx55_ 43 rg_514).2.2.1
      have E44 : τ52_.2.2.1 44 = σ.2.2.1 44 := (hx55_ 44 rg_515).2.2.1
      have E29 : τ52_.1 29 = σ.1 29 := (hx55_ 29 rg_504).1
      have Ecor : cor τ52_ = cor σ := cor_x hx55_ rg_516
      have EcoJ : coJ τ52_ = coJ σ := coJ_x hx55_ rg_517
      refine lv_if_ne (tgt := 94) hx hb dX12_show_89 rfl (fun c60_ => ?_) (fun c60_ => ?_)
      · have tc60_ := (show z53_.toInt ≠ 0 from ti_ne rfl rg_11 c60_)
        refine lv_iload hx hb dX12_show_94 (lv_at hl 0 rfl) ?_
        refine lv_if_ne (tgt := 196) hx hb dX12_show_96 rfl (fun _ => ?_) (fun cc => absurd cc (by decide))
        refine lv_iload hx hb dX12_show_196 (lv_at hl 0 rfl) ?_
        refine lv_iconst (v := 1) hx hb dX12_show_198 rg_6 ?_
        refine lv_icmp_ne (tgt := 221) hx hb dX12_show_199 rfl (fun cc => absurd cc (by decide)) (fun _ => ?_)
        refine lv_aload_n hx hb dX12_show_202 rfl (lv_at hl 3 rfl) ?_
        refine lv_dup hx hb dX12_show_203 rfl ?_
        refine va_get (D := (dC, dI)) (ci := 12) (v := .long (τ52_.2.2.2 45)) (C := RX12) (T := TX12) (N := 59) hx hb hts hin12 hown hK hP 0 rfl rfl 45 (Nat.le_of_ble_eq_true rfl) (ho (.fieldLink RX12 379 "NearEnoughModel" "spanLow" "J") (List.mem_of_getElem? (i := 8) rfl)) (fun _ h9 => h9) rfl dX12_show_204 ?_
        refine lv_lconst (v := 1) hx hb dX12_show_207 (by decide) ?_
        refine lv_aload_n hx hb dX12_show_208 rfl (lv_at hl 3 rfl) ?_
        refine va_get (D := (dC, dI)) (ci := 12) (v := .ref (ad 35)) (C := RX12) (T := TX12) (N := 59) hx hb hts hin12 hown hK hP 0 rfl rfl 35 (Nat.le_of_ble_eq_true rfl) (ho (.fieldLink RX12 88 "NearEnoughModel" "cN" "[I") (List.mem_of_getElem? (i := 5) rfl)) (fun _ h9 => h9) rfl dX12_show_209 ?_
        refine lv_iload_n hx hb dX12_show_212 rfl (lv_at hl 1 rfl) ?_
        have o34 : 0 ≤ z4_.toInt := by omega
        have o35 : z4_.toInt < ((12 : Nat) : Int) := by omega
        refine va_iald hx hb hK hP 25 24 rfl rfl (ti_inx o34 o35) dX12_show_213 ?_
        refine lv_topi (fun z61_ ez61_ => ?_)
        have gz61_ : z61_.toInt = ((σ.2.1 35) (Int32.toNatClampNeg z4_)).toInt := congrArg Int32.toInt (ez61_.trans (congrFun (((hx55_ 35 rg_511).2.1).trans rfl) (Int32.toNatClampNeg z4_)))
        have bz61_ : 0 ≤ z61_.toInt ∧ z61_.toInt ≤ 99 := by rw [ez61_]; exact (hI54_.2 35) _ (cl_lt (n := 12) o34 o35)
        refine lv_lshl hx hb dX12_show_214 rfl ?_
        refine lv_topl (fun y62_ ey62_ => ?_)
        refine lv_lconst (v := 1) hx hb dX12_show_215 (by decide) ?_
        refine lv_lsub hx hb dX12_show_216 ?_
        refine lv_topl (fun y63_ ey63_ => ?_)
        refine lv_lsub hx hb dX12_show_217 ?_
        refine lv_topl (fun y64_ ey64_ => ?_)
        refine va_put (D := (dC, dI)) (ci := 12) (v := .long y64_) (ty := tyX12 45) (C := RX12) (T := TX12) (N := 59) hx hb hts hin12 tyX12 tyX12_ok nmX12 hown hK hP hD hS 0 rfl rfl 45 (Nat.le_of_ble_eq_true rfl) (ho (.fieldLink RX12 379 "NearEnoughModel" "spanLow" "J") (List.mem_of_getElem? (i := 8) rfl)) (fun _ h9 => h9) rfl (tyX12_ok 45 (Nat.le_of_ble_eq_true rfl)) rfl rfl (Nat.le_of_ble_eq_true rfl) dX12_show_218 (fun H locs hP hD hS => ?_)
        have hP : va_P (dC, dI) vwCl (mW h ad cl (sL τ52_ 45 y64_)) H := hP
        have hD : va_D A (mW h ad cl (sL τ52_ 45 y64_)) := hD
        refine lv_iload hx hb dX12_show_221 (lv_at hl 0 rfl) ?_
        refine lv_iconst (v := 2) hx hb dX12_show_223 rg_19 ?_
        refine lv_icmp_ne (tgt := 238) hx hb dX12_show_224 rfl (fun _ => ?_) (fun cc => absurd cc (by decide))
        refine lv_iload hx hb dX12_show_238 (lv_at hl 0 rfl) ?_
        refine lv_iconst (v := 5) hx hb dX12_show_240 rg_14 ?_
        refine lv_icmp_eq (tgt := 251) hx hb dX12_show_241 rfl (fun cc => absurd cc (by decide)) (fun _ => ?_)
        refine lv_iload hx hb dX12_show_244 (lv_at hl 0 rfl) ?_
        refine lv_bipush (v := 6) hx hb dX12_show_246 rg_55 ?_
        refine lv_icmp_ne (tgt := 274) hx hb dX12_show_248 rfl (fun _ => ?_) (fun cc => absurd cc (by decide))
        refine lv_iload hx hb dX12_show_274 (lv_at hl 0 rfl) ?_
        refine lv_iconst (v := 3) hx hb dX12_show_276 rg_16 ?_
        refine lv_icmp_ne (tgt := 331) hx hb dX12_show_277 rfl (fun _ => ?_) (fun cc => absurd cc (by decide))
        refine lv_iconst (v := 1) hx hb dX12_show_331 rg_6 ?_
        rw [hQ]
        have o36 : ¬ z53_.toInt = 0 := by omega
        have R67_ : shOk (σ.1 29).toNatClampNeg (cor σ) (σ.2.2.1 43) (σ.2.2.1 44) (σ.2.1 37 st9.toNatClampNeg) st9.toNatClampNeg := Or.inr (by rcases f58_ with q | q; exact q.2; exact absurd q.1 o36)
        have o37 : 0 ≤ z4_.toInt ∧ (σ.2.1 34 (Int32.toNatClampNeg z4_)).toInt = 1 := by omega
        have R65_ : y64_ = shLo (σ.1 29).toNatClampNeg (cor σ) (coJ σ) (σ.2.2.1 43) (σ.2.2.1 44) (σ.2.1 37 st9.toNatClampNeg) st9.toNatClampNeg := by rw [(sh_1 (B := (σ.1 29).toNatClampNeg) (T := cor σ) (J := coJ σ) (L := σ.2.2.1 43) (H := σ.2.2.1 44) (j := st9.toNatClampNeg) (show OnK (cor σ) (σ.2.1 37 st9.toNatClampNeg) 1 from (by rw [EC]; exact o37))).1]; simp only [skL, sL_21, sL_J, sL_1, E14, E15, E16, E17, E18, E19, E35, E27, E28, E43, E44, E29, Ecor, EcoJ, f56_, ez4_, ez61_, ey62_, ey63_, ey64_, Xz2_] <;> rfl
        have R66_ : (τ52_.2.2.2 46) = shHi (σ.1 29).toNatClampNeg (cor σ) (coJ σ) (σ.2.2.1 43) (σ.2.2.1 44) (σ.2.1 37 st9.toNatClampNeg) st9.toNatClampNeg := by rw [(sh_1 (B := (σ.1 29).toNatClampNeg) (T := cor σ) (J := coJ σ) (L := σ.2.2.1 43) (H := σ.2.2.1 44) (j := st9.toNatClampNeg) (show OnK (cor σ) (σ.2.1 37 st9.toNatClampNeg) 1 from (by rw [EC]; exact o37))).2]; exact f57_
        exact W.zret (v := 1) hx hb hr rfl (fun t ht hW => ⟨⟨1, (sL τ52_ 45 y64_), rfl, ⟨(Inv.sL hI54_), (eqx.sL Xτ52_ rg_498), Or.inl ⟨rg_18, R67_, R65_, R66_⟩⟩, wEn_of hP (hK.sub [] rfl) hD ht hW⟩, hS.F ht⟩) hS.2.2 dX12_show_332
      · have tc60_ := (show z53_.toInt = 0 from ti_eq rfl rg_11 c60_)
        refine lv_iconst (v := 0) hx hb dX12_show_92 rg_0 ?_
        rw [hQ]
        have o38 : ¬ z53_.toInt = 1 := by omega
        have o39 : 0 ≤ z4_.toInt ∧ (σ.2.1 34 (Int32.toNatClampNeg z4_)).toInt = 1 := by omega
        have R68_ : ¬ shOk (σ.1 29).toNatClampNeg (cor σ) (σ.2.2.1 43) (σ.2.2.1 44) (σ.2.1 37 st9.toNatClampNeg) st9.toNatClampNeg := fun h7 => by rcases f58_ with q | q; exact absurd q.1 o38; exact h7.elim (fun h6 => absurd h6 (on_ne (show OnK (cor σ) (σ.2.1 37 st9.toNatClampNeg) 1 from (by rw [EC]; exact o39)) (by decide))) q.2
        exact W.zret (v := 0) hx hb hr rfl (fun t ht hW => ⟨⟨0, τ52_, rfl, ⟨hI54_, Xτ52_, Or.inr ⟨rg_11, R68_⟩⟩, wEn_of hP (hK.sub [] rfl) hD ht hW⟩, hS.F ht⟩) hS.2.2 dX12_show_93
    · obtain rfl : z6_ = 2 := Int32.toInt_inj.mp (t_sp.trans rg_518)
      have kk69_ : (2 : Int32).toInt = 2 := rg_20
      refine lv_istore (lv' := [(4, .int 2), (3, .int z4_), (2, .int z2_), (0, .ref h), (1, .int st9)]) hx hb dX12_show_27 hl (Nat.le_of_ble_eq_true rfl) rfl (fun ls hl => ?_)
      refine lv_iload hx hb dX12_show_29 (lv_at hl 0 rfl) ?_
      refine lv_iconst (v := 4) hx hb dX12_show_31 rg_31 ?_
      refine lv_icmp_ne (tgt := 84) hx hb dX12_show_32 rfl (fun _ => ?_) (fun cc => absurd cc (by decide))
      refine lv_aload_n hx hb dX12_show_84 rfl (lv_at hl 3 rfl) ?_
      refine lv_iload_n hx hb dX12_show_85 rfl (lv_at hl 4 rfl) ?_
      have o40 : 0 ≤ st9.toInt := by omega
      have o41 : st9.toInt ≤ 11 := by omega
      refine zy_i (va_runV (As := [.int st9]) (rest := []) ⟨hx, hb, hml, hown, hts⟩ (n_spread l dC dI h ad cl H.size σ st9 hI ⟨o40, o41⟩ hwk) (cwV 1 hts gd_n_show_410_n_spread rfl rfl rfl dd_n_spread ⟨Nat.le_of_ble_eq_true rfl, Nat.le_of_ble_eq_true rfl⟩) (preV hP hK hD hE (ci := 12) (q0 := 0) rfl rfl) rfl rfl hl.1 rfl (lv_room (Nat.le_of_ble_eq_true rfl)) dX12_show_86 ⟨Nat.le_of_ble_eq_true rfl, Nat.le_of_ble_eq_true rfl⟩) hD hS hA (fun z71_ τ70_ H locs hq hP hD hS => ?_)
      obtain ⟨hI72_, hx73_, f74_, f75_, f76_⟩ := hq
      have Xτ70_ : eqx [45, 46] τ70_ σ := eqx.tr hx73_ eqx.rf rg_503
      have qq77_ : (τ70_.1 29).toInt = ((σ.1 29) : Int32).toInt := congrArg Int32.toInt ((show τ70_.1 29 = (σ.1 29) from ((hx73_ 29 rg_504).1).trans rfl))
      refine W.widen (k := 0) (n := 0) (Nat.le_of_ble_eq_true rfl) (Nat.le_of_ble_eq_true rfl) ?_
      have E14 : τ70_.2.1 14 = σ.2.1 14 := (hx73_ 14 rg_505).2.1
      have E15 : τ70_.2.1 15 = σ.2.1 15 := (hx73_ 15 rg_506).2.1
      have E16 : τ70_.2.1 16 = σ.2.1 16 := (hx73_ 16 rg_507).2.1
      have E17 : τ70_.2.1 17 = σ.2.1 17 := (hx73_ 17 rg_508).2.1
      have E18 : τ70_.2.1 18 = σ.2.1 18 := (hx73_ 18 rg_509).2.1
      have E19 : τ70_.2.1 19 = σ.2.1 19 := (hx73_ 19 rg_510).2.1
      have E35 : τ70_.2.1 35 = σ.2.1 35 := (hx73_ 35 rg_511).2.1
      have E27 : τ70_.2.2.1 27 = σ.2.2.1 27 := (hx73_ 27 rg_512).2.2.1
      have E28 : τ70_.2.2.1 28 = σ.2.2.1 28 := (hx73_ 28 rg_513).2.2.1
      have E43 : τ70_.2.2.1 43 = σ.2.2.1 43 := (hx73_ 43 rg_514).2.2.1
      have E44 : τ70_.2.2.1 44 = σ.2.2.1 44 := (hx73_ 44 rg_515).2.2.1
      have E29 : τ70_.1 29 = σ.1 29 := (hx73_ 29 rg_504).1
      have Ecor : cor τ70_ = cor σ := cor_x hx73_ rg_516
      have EcoJ : coJ τ70_ = coJ σ := coJ_x hx73_ rg_517
      refine lv_if_ne (tgt := 94) hx hb dX12_show_89 rfl (fun c78_ => ?_) (fun c78_ => ?_)
      · have tc78_ := (show z71_.toInt ≠ 0 from ti_ne rfl rg_11 c78_)
        refine lv_iload hx hb dX12_show_94 (lv_at hl 0 rfl) ?_
        refine lv_if_ne (tgt := 196) hx hb dX12_show_96 rfl (fun _ => ?_) (fun cc => absurd cc (by decide))
        refine lv_iload hx hb dX12_show_196 (lv_at hl 0 rfl) ?_
        refine lv_iconst (v := 1) hx hb dX12_show_198 rg_6 ?_
        refine lv_icmp_ne (tgt := 221) hx hb dX12_show_199 rfl (fun _ => ?_) (fun cc => absurd cc (by decide))
        refine lv_iload hx hb dX12_show_221 (lv_at hl 0 rfl) ?_
        refine lv_iconst (v := 2) hx hb dX12_show_223 rg_19 ?_
        refine lv_icmp_ne (tgt := 238) hx hb dX12_show_224 rfl (fun cc => absurd cc (by decide)) (fun _ => ?_)
        refine lv_aload_n hx hb dX12_show_227 rfl (lv_at hl 3 rfl) ?_
        refine lv_iload_n hx hb dX12_show_228 rfl (lv_at hl 2 rfl) ?_
        refine lv_aload_n hx hb dX12_show_229 rfl (lv_at hl 3 rfl) ?_
        refine va_get (D := (dC, dI)) (ci := 12) (v := .ref (ad 35)) (C := RX12) (T := TX12) (N := 59) hx hb hts hin12 hown hK hP 0 rfl rfl 35 (Nat.le_of_ble_eq_true rfl) (ho (.fieldLink RX12 88 "NearEnoughModel" "cN" "[I") (List.mem_of_getElem? (i := 5) rfl)) (fun _ h9 => h9) rfl dX12_show_230 ?_
        refine lv_iload_n hx hb dX12_show_233 rfl (lv_at hl 1 rfl) ?_
        have o42 : 0 ≤ z4_.toInt := by omega
        have o43 : z4_.toInt < ((12 : Nat) : Int) := by omega
        refine va_iald hx hb hK hP 25 24 rfl rfl (ti_inx o42 o43) dX12_show_234 ?_
        refine lv_topi (fun z79_ ez79_ => ?_)
        have gz79_ : z79_.toInt = ((σ.2.1 35) (Int32.toNatClampNeg z4_)).toInt := congrArg Int32.toInt (ez79_.trans (congrFun (((hx73_ 35 rg_511).2.1).trans rfl) (Int32.toNatClampNeg z4_)))
        have bz79_ : 0 ≤ z79_.toInt ∧ z79_.toInt ≤ 99 := by rw [ez79_]; exact (hI72_.2 35) _ (cl_lt (n := 12) o42 o43)
        have o44 : 0 ≤ z2_.toInt := by omega
        have o45 : z2_.toInt ≤ 23 := by omega
        have ab18 : 0 ≤ (σ.2.1 18 (Int32.toNatClampNeg z2_)).toInt ∧ (σ.2.1 18 (Int32.toNatClampNeg z2_)).toInt ≤ 11 := by omega
        have ab19 : 0 ≤ (σ.2.1 19 (Int32.toNatClampNeg z2_)).toInt ∧ (σ.2.1 19 (Int32.toNatClampNeg z2_)).toInt ≤ 11 := by omega
        have o46 : z79_.toInt = 0 ∨ z79_.toInt = 1 := by omega
        refine zy_v (va_runV (As := [.int z2_, .int z79_]) (rest := []) ⟨hx, hb, hml, hown, hts⟩ (n_spreadUsual l dC dI h ad cl H.size τ70_ z2_ z79_ hI72_ ⟨o44, o45⟩ (show z79_.toInt = 0 ∨ z79_.toInt = 1 from o46) (by rw [E18]; exact ab18) (by rw [E19]; exact ab19)) (cwV 2 hts gd_n_show_413_n_spreadUsual rfl rfl rfl dd_n_spreadUsual ⟨Nat.le_of_ble_eq_true rfl, Nat.le_of_ble_eq_true rfl⟩) (preV hP hK hD hE (ci := 12) (q0 := 0) rfl rfl) rfl rfl hl.1 rfl (lv_room (Nat.le_of_ble_eq_true rfl)) dX12_show_235 ⟨Nat.le_of_ble_eq_true rfl, Nat.le_of_ble_eq_true rfl⟩) hD hS hA (fun τ80_ H locs hq hP hD hS => ?_)
        obtain ⟨hI82_, hx83_, f84_, f85_⟩ := hq
        have Xτ80_ : eqx [45, 46] τ80_ σ := eqx.tr hx83_ Xτ70_ rg_503
        have qq86_ : (τ80_.1 29).toInt = ((σ.1 29) : Int32).toInt := congrArg Int32.toInt ((show τ80_.1 29 = (σ.1 29) from ((hx83_ 29 rg_504).1).trans (show τ70_.1 29 = (σ.1 29) from ((hx73_ 29 rg_504).1).trans rfl)))
        refine W.widen (k := 0) (n := 0) (Nat.le_of_ble_eq_true rfl) (Nat.le_of_ble_eq_true rfl) ?_
        refine lv_iload hx hb dX12_show_238 (lv_at hl 0 rfl) ?_
        refine lv_iconst (v := 5) hx hb dX12_show_240 rg_14 ?_
        refine lv_icmp_eq (tgt := 251) hx hb dX12_show_241 rfl (fun cc => absurd cc (by decide)) (fun _ => ?_)
        refine lv_iload hx hb dX12_show_244 (lv_at hl 0 rfl) ?_
        refine lv_bipush (v := 6) hx hb dX12_show_246 rg_55 ?_
        refine lv_icmp_ne (tgt := 274) hx hb dX12_show_248 rfl (fun _ => ?_) (fun cc => absurd cc (by decide))
        refine lv_iload hx hb dX12_show_274 (lv_at hl 0 rfl) ?_
        refine lv_iconst (v := 3) hx hb dX12_show_276 rg_16 ?_
        refine lv_icmp_ne (tgt := 331) hx hb dX12_show_277 rfl (fun _ => ?_) (fun cc => absurd cc (by decide))
        refine lv_iconst (v := 1) hx hb dX12_show_331 rg_6 ?_
        rw [hQ]
        have o47 : ¬ z71_.toInt = 0 := by omega
        have R89_ : shOk (σ.1 29).toNatClampNeg (cor σ) (σ.2.2.1 43) (σ.2.2.1 44) (σ.2.1 37 st9.toNatClampNeg) st9.toNatClampNeg := Or.inr (by rcases f76_ with q | q; exact q.2; exact absurd q.1 o47)
        have o48 : 0 ≤ z4_.toInt ∧ (σ.2.1 34 (Int32.toNatClampNeg z4_)).toInt = 2 := by omega
        have R87_ : (τ80_.2.2.2 45) = shLo (σ.1 29).toNatClampNeg (cor σ) (coJ σ) (σ.2.2.1 43) (σ.2.2.1 44) (σ.2.1 37 st9.toNatClampNeg) st9.toNatClampNeg := by rw [(sh_2 (B := (σ.1 29).toNatClampNeg) (T := cor σ) (J := coJ σ) (L := σ.2.2.1 43) (H := σ.2.2.1 44) (j := st9.toNatClampNeg) (show OnK (cor σ) (σ.2.1 37 st9.toNatClampNeg) 2 from (by rw [EC]; exact o48))).1]; refine f84_.trans ?_; simp only [sL_21, sL_J, sL_1, E14, E15, E16, E17, E18, E19, E35, E27, E28, E43, E44, E29, Ecor, EcoJ, f74_, rg_20, ez4_, ez79_, Xz2_] <;> rfl
        have R88_ : (τ80_.2.2.2 46) = shHi (σ.1 29).toNatClampNeg (cor σ) (coJ σ) (σ.2.2.1 43) (σ.2.2.1 44) (σ.2.1 37 st9.toNatClampNeg) st9.toNatClampNeg := by rw [(sh_2 (B := (σ.1 29).toNatClampNeg) (T := cor σ) (J := coJ σ) (L := σ.2.2.1 43) (H := σ.2.2.1 44) (j := st9.toNatClampNeg) (show OnK (cor σ) (σ.2.1 37 st9.toNatClampNeg) 2 from (by rw [EC]; exact o48))).2]; refine f85_.trans ?_; simp only [sL_21, sL_J, sL_1, E14, E15, E16, E17, E18, E19, E35, E27, E28, E43, E44, E29, Ecor, EcoJ, f75_, rg_20, ez4_, ez79_, Xz2_] <;> rfl
        exact W.zret (v := 1) hx hb hr rfl (fun t ht hW => ⟨⟨1, τ80_, rfl, ⟨hI82_, Xτ80_, Or.inl ⟨rg_18, R89_, R87_, R88_⟩⟩, wEn_of hP (hK.sub [] rfl) hD ht hW⟩, hS.F ht⟩) hS.2.2 dX12_show_332
      · have tc78_ := (show z71_.toInt = 0 from ti_eq rfl rg_11 c78_)
        refine lv_iconst (v := 0) hx hb dX12_show_92 rg_0 ?_
        rw [hQ]
        have o49 : ¬ z71_.toInt = 1 := by omega
        have o50 : 0 ≤ z4_.toInt ∧ (σ.2.1 34 (Int32.toNatClampNeg z4_)).toInt = 2 := by omega
        have R90_ : ¬ shOk (σ.1 29).toNatClampNeg (cor σ) (σ.2.2.1 43) (σ.2.2.1 44) (σ.2.1 37 st9.toNatClampNeg) st9.toNatClampNeg := fun h7 => by rcases f76_ with q | q; exact absurd q.1 o49; exact h7.elim (fun h6 => absurd h6 (on_ne (show OnK (cor σ) (σ.2.1 37 st9.toNatClampNeg) 2 from (by rw [EC]; exact o50)) (by decide))) q.2
        exact W.zret (v := 0) hx hb hr rfl (fun t ht hW => ⟨⟨0, τ70_, rfl, ⟨hI72_, Xτ70_, Or.inr ⟨rg_11, R90_⟩⟩, wEn_of hP (hK.sub [] rfl) hD ht hW⟩, hS.F ht⟩) hS.2.2 dX12_show_93
    · obtain rfl : z6_ = 3 := Int32.toInt_inj.mp (t_sp.trans rg_519)
      have kk91_ : (3 : Int32).toInt = 3 := rg_17
      refine lv_istore (lv' := [(4, .int 3), (3, .int z4_), (2, .int z2_), (0, .ref h), (1, .int st9)]) hx hb dX12_show_27 hl (Nat.le_of_ble_eq_true rfl) rfl (fun ls hl => ?_)
      refine lv_iload hx hb dX12_show_29 (lv_at hl 0 rfl) ?_
      refine lv_iconst (v := 4) hx hb dX12_show_31 rg_31 ?_
      refine lv_icmp_ne (tgt := 84) hx hb dX12_show_32 rfl (fun _ => ?_) (fun cc => absurd cc (by decide))
      refine lv_aload_n hx hb dX12_show_84 rfl (lv_at hl 3 rfl) ?_
      refine lv_iload_n hx hb dX12_show_85 rfl (lv_at hl 4 rfl) ?_
      have o51 : 0 ≤ st9.toInt := by omega
      have o52 : st9.toInt ≤ 11 := by omega
      refine zy_i (va_runV (As := [.int st9]) (rest := []) ⟨hx, hb, hml, hown, hts⟩ (n_spread l dC dI h ad cl H.size σ st9 hI ⟨o51, o52⟩ hwk) (cwV 1 hts gd_n_show_410_n_spread rfl rfl rfl dd_n_spread ⟨Nat.le_of_ble_eq_true rfl, Nat.le_of_ble_eq_true rfl⟩) (preV hP hK hD hE (ci := 12) (q0 := 0) rfl rfl) rfl rfl hl.1 rfl (lv_room (Nat.le_of_ble_eq_true rfl)) dX12_show_86 ⟨Nat.le_of_ble_eq_true rfl, Nat.le_of_ble_eq_true rfl⟩) hD hS hA (fun z93_ τ92_ H locs hq hP hD hS => ?_)
      obtain ⟨hI94_, hx95_, f96_, f97_, f98_⟩ := hq
      have Xτ92_ : eqx [45, 46] τ92_ σ := eqx.tr hx95_ eqx.rf rg_503
      have qq99_ : (τ92_.1 29).toInt = ((σ.1 29) : Int32).toInt := congrArg Int32.toInt ((show τ92_.1 29 = (σ.1 29) from ((hx95_ 29 rg_504).1).trans rfl))
      refine W.widen (k := 0) (n := 0) (Nat.le_of_ble_eq_true rfl) (Nat.le_of_ble_eq_true rfl) ?_
      have E14 : τ92_.2.1 14 = σ.2.1 14 := (hx95_ 14 rg_505).2.1
      have E15 : τ92_.2.1 15 = σ.2.1 15 := (hx95_ 15 rg_506).2.1
      have E16 : τ92_.2.1 16 = σ.2.1 16 := (hx95_ 16 rg_507).2.1
      have E17 : τ92_.2.1 17 = σ.2.1 17 := (hx95_ 17 rg_508).2.1
      have E18 : τ92_.2.1 18 = σ.2.1 18 := (hx95_ 18 rg_509).2.1
      have E19 : τ92_.2.1 19 = σ.2.1 19 := (hx95_ 19 rg_510).2.1
      have E35 : τ92_.2.1 35 = σ.2.1 35 := (hx95_ 35 rg_511).2.1
      have E27 : τ92_.2.2.1 27 = σ.2.2.1 27 := (hx95_ 27 rg_512).2.2.1
      have E28 : τ92_.2.2.1 28 = σ.2.2.1 28 := (hx95_ 28 rg_513).2.2.1
      have E43 : τ92_.2.2.1 43 = σ.2.2.1 43 := (hx95_ 43 rg_514).2.2.1
      have E44 : τ92_.2.2.1 44 = σ.2.2.1 44 := (hx95_ 44 rg_515).2.2.1
      have E29 : τ92_.1 29 = σ.1 29 := (hx95_ 29 rg_504).1
      have Ecor : cor τ92_ = cor σ := cor_x hx95_ rg_516
      have EcoJ : coJ τ92_ = coJ σ := coJ_x hx95_ rg_517
      refine lv_if_ne (tgt := 94) hx hb dX12_show_89 rfl (fun c100_ => ?_) (fun c100_ => ?_)
      · have tc100_ := (show z93_.toInt ≠ 0 from ti_ne rfl rg_11 c100_)
        refine lv_iload hx hb dX12_show_94 (lv_at hl 0 rfl) ?_
        refine lv_if_ne (tgt := 196) hx hb dX12_show_96 rfl (fun _ => ?_) (fun cc => absurd cc (by decide))
        refine lv_iload hx hb dX12_show_196 (lv_at hl 0 rfl) ?_
        refine lv_iconst (v := 1) hx hb dX12_show_198 rg_6 ?_
        refine lv_icmp_ne (tgt := 221) hx hb dX12_show_199 rfl (fun _ => ?_) (fun cc => absurd cc (by decide))
        refine lv_iload hx hb dX12_show_221 (lv_at hl 0 rfl) ?_
        refine lv_iconst (v := 2) hx hb dX12_show_223 rg_19 ?_
        refine lv_icmp_ne (tgt := 238) hx hb dX12_show_224 rfl (fun _ => ?_) (fun cc => absurd cc (by decide))
        refine lv_iload hx hb dX12_show_238 (lv_at hl 0 rfl) ?_
        refine lv_iconst (v := 5) hx hb dX12_show_240 rg_14 ?_
        refine lv_icmp_eq (tgt := 251) hx hb dX12_show_241 rfl (fun cc => absurd cc (by decide)) (fun _ => ?_)
        refine lv_iload hx hb dX12_show_244 (lv_at hl 0 rfl) ?_
        refine lv_bipush (v := 6) hx hb dX12_show_246 rg_55 ?_
        refine lv_icmp_ne (tgt := 274) hx hb dX12_show_248 rfl (fun _ => ?_) (fun cc => absurd cc (by decide))
        refine lv_iload hx hb dX12_show_274 (lv_at hl 0 rfl) ?_
        refine lv_iconst (v := 3) hx hb dX12_show_276 rg_16 ?_
        refine lv_icmp_ne (tgt := 331) hx hb dX12_show_277 rfl (fun cc => absurd cc (by decide)) (fun _ => ?_)
        refine lv_aload_n hx hb dX12_show_280 rfl (lv_at hl 3 rfl) ?_
        refine lv_dup hx hb dX12_show_281 rfl ?_
        refine va_get (D := (dC, dI)) (ci := 12) (v := .long (τ92_.2.2.2 45)) (C := RX12) (T := TX12) (N := 59) hx hb hts hin12 hown hK hP 0 rfl rfl 45 (Nat.le_of_ble_eq_true rfl) (ho (.fieldLink RX12 379 "NearEnoughModel" "spanLow" "J") (List.mem_of_getElem? (i := 8) rfl)) (fun _ h9 => h9) rfl dX12_show_282 ?_
        refine lv_aload_n hx hb dX12_show_285 rfl (lv_at hl 3 rfl) ?_
        refine va_get (D := (dC, dI)) (ci := 12) (v := .ref (ad 17)) (C := RX12) (T := TX12) (N := 59) hx hb hts hin12 hown hK hP 0 rfl rfl 17 (Nat.le_of_ble_eq_true rfl) (ho (.fieldLink RX12 39 "NearEnoughModel" "sKind" "[I") (List.mem_of_getElem? (i := 10) rfl)) (fun _ h9 => h9) rfl dX12_show_286 ?_
        refine lv_iload_n hx hb dX12_show_289 rfl (lv_at hl 2 rfl) ?_
        have o53 : 0 ≤ z2_.toInt := by omega
        have o54 : z2_.toInt < ((24 : Nat) : Int) := by omega
        refine va_iald hx hb hK hP 9 8 rfl rfl (ti_inx o53 o54) dX12_show_290 ?_
        refine lv_topi (fun z101_ ez101_ => ?_)
        have gz101_ : z101_.toInt = ((σ.2.1 17) (Int32.toNatClampNeg z2_)).toInt := congrArg Int32.toInt (ez101_.trans (congrFun (((hx95_ 17 rg_508).2.1).trans rfl) (Int32.toNatClampNeg z2_)))
        have bz101_ : 0 ≤ z101_.toInt ∧ z101_.toInt ≤ 7 := by rw [ez101_]; exact (hI94_.2 17) _ (cl_lt (n := 24) o53 o54)
        refine lv_if_ne (tgt := 316) hx hb dX12_show_291 rfl (fun c102_ => ?_) (fun c102_ => ?_)
        · have tc102_ := (show z101_.toInt ≠ 0 from ti_ne rfl rg_11 c102_)
          refine lv_lconst (v := 1) hx hb dX12_show_316 (by decide) ?_
          refine lv_aload_n hx hb dX12_show_317 rfl (lv_at hl 3 rfl) ?_
          refine va_get (D := (dC, dI)) (ci := 12) (v := .ref (ad 35)) (C := RX12) (T := TX12) (N := 59) hx hb hts hin12 hown hK hP 0 rfl rfl 35 (Nat.le_of_ble_eq_true rfl) (ho (.fieldLink RX12 88 "NearEnoughModel" "cN" "[I") (List.mem_of_getElem? (i := 5) rfl)) (fun _ h9 => h9) rfl dX12_show_318 ?_
          refine lv_iload_n hx hb dX12_show_321 rfl (lv_at hl 1 rfl) ?_
          have o55 : 0 ≤ z4_.toInt := by omega
          have o56 : z4_.toInt < ((12 : Nat) : Int) := by omega
          refine va_iald hx hb hK hP 25 24 rfl rfl (ti_inx o55 o56) dX12_show_322 ?_
          refine lv_topi (fun z103_ ez103_ => ?_)
          have gz103_ : z103_.toInt = ((σ.2.1 35) (Int32.toNatClampNeg z4_)).toInt := congrArg Int32.toInt (ez103_.trans (congrFun (((hx95_ 35 rg_511).2.1).trans rfl) (Int32.toNatClampNeg z4_)))
          have bz103_ : 0 ≤ z103_.toInt ∧ z103_.toInt ≤ 99 := by rw [ez103_]; exact (hI94_.2 35) _ (cl_lt (n := 12) o55 o56)
          refine lv_iconst (v := 1) hx hb dX12_show_323 rg_6 ?_
          refine lv_isub hx hb dX12_show_324 ?_
          refine lv_topi (fun z104_ ez104_ => ?_)
          have o57 : -2147483648 ≤ z103_.toInt - 1 := by omega
          have o58 : z103_.toInt - 1 ≤ 2147483647 := by omega
          have tz104_ : z104_.toInt = z103_.toInt - 1 := ti_sub ez104_ rfl rg_18 o57 o58
          refine lv_i2l hx hb dX12_show_325 rfl ?_
          refine lv_topl (fun y105_ ey105_ => ?_)
          refine lv_lmul hx hb dX12_show_326 ?_
          refine lv_topl (fun y106_ ey106_ => ?_)
          refine lv_lsub hx hb dX12_show_327 ?_
          refine lv_topl (fun y107_ ey107_ => ?_)
          refine va_put (D := (dC, dI)) (ci := 12) (v := .long y107_) (ty := tyX12 45) (C := RX12) (T := TX12) (N := 59) hx hb hts hin12 tyX12 tyX12_ok nmX12 hown hK hP hD hS 0 rfl rfl 45 (Nat.le_of_ble_eq_true rfl) (ho (.fieldLink RX12 379 "NearEnoughModel" "spanLow" "J") (List.mem_of_getElem? (i := 8) rfl)) (fun _ h9 => h9) rfl (tyX12_ok 45 (Nat.le_of_ble_eq_true rfl)) rfl rfl (Nat.le_of_ble_eq_true rfl) dX12_show_328 (fun H locs hP hD hS => ?_)
          have hP : va_P (dC, dI) vwCl (mW h ad cl (sL τ92_ 45 y107_)) H := hP
          have hD : va_D A (mW h ad cl (sL τ92_ 45 y107_)) := hD
          refine lv_iconst (v := 1) hx hb dX12_show_331 rg_6 ?_
          rw [hQ]
          have o59 : ¬ z93_.toInt = 0 := by omega
          have R110_ : shOk (σ.1 29).toNatClampNeg (cor σ) (σ.2.2.1 43) (σ.2.2.1 44) (σ.2.1 37 st9.toNatClampNeg) st9.toNatClampNeg := Or.inr (by rcases f98_ with q | q; exact q.2; exact absurd q.1 o59)
          have o60 : 0 ≤ z4_.toInt ∧ (σ.2.1 34 (Int32.toNatClampNeg z4_)).toInt = 3 := by omega
          have o61 : ¬ (σ.2.1 17 (Int32.toNatClampNeg z2_)).toInt = 0 := by omega
          have K111_ : ¬ (cor σ 17 (12 * (σ.1 29).toNatClampNeg + st9.toNatClampNeg)).toInt = 0 := (by show ¬ (σ.2.1 17 (12 * (σ.1 29).toNatClampNeg + st9.toNatClampNeg)).toInt = 0; rw [← Xz2_]; exact o61)
          have R108_ : y107_ = shLo (σ.1 29).toNatClampNeg (cor σ) (coJ σ) (σ.2.2.1 43) (σ.2.2.1 44) (σ.2.1 37 st9.toNatClampNeg) st9.toNatClampNeg := by rw [(sh_3 (B := (σ.1 29).toNatClampNeg) (T := cor σ) (J := coJ σ) (L := σ.2.2.1 43) (H := σ.2.2.1 44) (j := st9.toNatClampNeg) (show OnK (cor σ) (σ.2.1 37 st9.toNatClampNeg) 3 from (by rw [EC]; exact o60))).1, if_neg K111_]; simp only [skL, sL_21, sL_J, sL_1, E14, E15, E16, E17, E18, E19, E35, E27, E28, E43, E44, E29, Ecor, EcoJ, f96_, ez4_, ez101_, ez103_, ez104_, ey105_, ey106_, ey107_, Xz2_] <;> rfl
          have R109_ : (τ92_.2.2.2 46) = shHi (σ.1 29).toNatClampNeg (cor σ) (coJ σ) (σ.2.2.1 43) (σ.2.2.1 44) (σ.2.1 37 st9.toNatClampNeg) st9.toNatClampNeg := by rw [(sh_3 (B := (σ.1 29).toNatClampNeg) (T := cor σ) (J := coJ σ) (L := σ.2.2.1 43) (H := σ.2.2.1 44) (j := st9.toNatClampNeg) (show OnK (cor σ) (σ.2.1 37 st9.toNatClampNeg) 3 from (by rw [EC]; exact o60))).2]; exact f97_
          exact W.zret (v := 1) hx hb hr rfl (fun t ht hW => ⟨⟨1, (sL τ92_ 45 y107_), rfl, ⟨(Inv.sL hI94_), (eqx.sL Xτ92_ rg_498), Or.inl ⟨rg_18, R110_, R108_, R109_⟩⟩, wEn_of hP (hK.sub [] rfl) hD ht hW⟩, hS.F ht⟩) hS.2.2 dX12_show_332
        · have tc102_ := (show z101_.toInt = 0 from ti_eq rfl rg_11 c102_)
          refine lv_aload_n hx hb dX12_show_294 rfl (lv_at hl 3 rfl) ?_
          refine va_get (D := (dC, dI)) (ci := 12) (v := .ref (ad 14)) (C := RX12) (T := TX12) (N := 59) hx hb hts hin12 hown hK hP 0 rfl rfl 14 (Nat.le_of_ble_eq_true rfl) (ho (.fieldLink RX12 30 "NearEnoughModel" "rHas" "[I") (List.mem_of_getElem? (i := 2) rfl)) (fun _ h9 => h9) rfl dX12_show_295 ?_
          refine lv_iconst (v := 2) hx hb dX12_show_298 rg_19 ?_
          refine lv_aload_n hx hb dX12_show_299 rfl (lv_at hl 3 rfl) ?_
          refine va_get (D := (dC, dI)) (ci := 12) (v := .int (τ92_.1 29)) (C := RX12) (T := TX12) (N := 59) hx hb hts hin12 hown hK hP 0 rfl rfl 29 (Nat.le_of_ble_eq_true rfl) (ho (.fieldLink RX12 240 "NearEnoughModel" "bank" "I") (List.mem_of_getElem? (i := 3) rfl)) (fun _ h9 => h9) rfl dX12_show_300 ?_
          refine zi (v := (σ.1 29)) (show τ92_.1 29 = (σ.1 29) from ((hx95_ 29 rg_504).1).trans rfl) ?_
          have bb112_ : 0 ≤ (σ.1 29).toInt ∧ (σ.1 29).toInt ≤ 1 := by have h9 := hI94_.1 29; rw [show (τ92_.1 29) = (σ.1 29) from (show τ92_.1 29 = (σ.1 29) from ((hx95_ 29 rg_504).1).trans rfl)] at h9; exact h9
          refine lv_imul hx hb dX12_show_303 ?_
          refine lv_topi (fun z113_ ez113_ => ?_)
          have o62 : -2147483648 ≤ 2 * (σ.1 29).toInt := by omega
          have o63 : 2 * (σ.1 29).toInt ≤ 2147483647 := by omega
          have tz113_ : z113_.toInt = 2 * (σ.1 29).toInt := ti_mul ez113_ rg_20 rfl o62 o63
          refine lv_aload_n hx hb dX12_show_304 rfl (lv_at hl 3 rfl) ?_
          refine va_get (D := (dC, dI)) (ci := 12) (v := .ref (ad 18)) (C := RX12) (T := TX12) (N := 59) hx hb hts hin12 hown hK hP 0 rfl rfl 18 (Nat.le_of_ble_eq_true rfl) (ho (.fieldLink RX12 42 "NearEnoughModel" "sA" "[I") (List.mem_of_getElem? (i := 4) rfl)) (fun _ h9 => h9) rfl dX12_show_305 ?_
          refine lv_iload_n hx hb dX12_show_308 rfl (lv_at hl 2 rfl) ?_
          refine va_iald hx hb hK hP 10 9 rfl rfl (ti_inx o53 o54) dX12_show_309 ?_
          refine lv_topi (fun z114_ ez114_ => ?_)
          have gz114_ : z114_.toInt = ((σ.2.1 18) (Int32.toNatClampNeg z2_)).toInt := congrArg Int32.toInt (ez114_.trans (congrFun (((hx95_ 18 rg_509).2.1).trans rfl) (Int32.toNatClampNeg z2_)))
          have bz114_ : (-1) ≤ z114_.toInt ∧ z114_.toInt ≤ 11 := by rw [ez114_]; exact (hI94_.2 18) _ (cl_lt (n := 24) o53 o54)
          refine lv_iadd hx hb dX12_show_310 ?_
          refine lv_topi (fun z115_ ez115_ => ?_)
          have o64 : -2147483648 ≤ z113_.toInt + z114_.toInt := by omega
          have o65 : z113_.toInt + z114_.toInt ≤ 2147483647 := by omega
          have tz115_ : z115_.toInt = z113_.toInt + z114_.toInt := ti_add ez115_ rfl rfl o64 o65
          have o66 : 0 ≤ z115_.toInt := by omega
          have o67 : z115_.toInt < ((4 : Nat) : Int) := by omega
          refine va_iald hx hb hK hP 6 5 rfl rfl (ti_inx o66 o67) dX12_show_311 ?_
          refine lv_topi (fun z116_ ez116_ => ?_)
          have gz116_ : z116_.toInt = ((σ.2.1 14) (Int32.toNatClampNeg z115_)).toInt := congrArg Int32.toInt (ez116_.trans (congrFun (((hx95_ 14 rg_505).2.1).trans rfl) (Int32.toNatClampNeg z115_)))
          have bz116_ : 0 ≤ z116_.toInt ∧ z116_.toInt ≤ 6 := by rw [ez116_]; exact (hI94_.2 14) _ (cl_lt (n := 4) o66 o67)
          refine lv_i2l hx hb dX12_show_312 rfl ?_
          refine lv_topl (fun y117_ ey117_ => ?_)
          have Az114_ : z114_ = σ.2.1 18 (12 * (σ.1 29).toNatClampNeg + st9.toNatClampNeg) := by rw [ez114_, E18, Xz2_]
          have o68 : 0 ≤ z114_.toInt := by omega
          have o69 : z115_.toInt = 2 * (σ.1 29).toInt + z114_.toInt := by omega
          have Xz115_ : z115_.toNatClampNeg = rw9 (σ.1 29).toNatClampNeg (cor σ) st9.toNatClampNeg := by show _ = 2 * (σ.1 29).toNatClampNeg + (σ.2.1 18 (12 * (σ.1 29).toNatClampNeg + st9.toNatClampNeg)).toNatClampNeg; rw [← Az114_]; exact row_x (hI.1 29).1 o68 o69
          refine lv_goto (tgt := 317) hx hb dX12_show_313 rfl ?_
          refine lv_aload_n hx hb dX12_show_317 rfl (lv_at hl 3 rfl) ?_
          refine va_get (D := (dC, dI)) (ci := 12) (v := .ref (ad 35)) (C := RX12) (T := TX12) (N := 59) hx hb hts hin12 hown hK hP 0 rfl rfl 35 (Nat.le_of_ble_eq_true rfl) (ho (.fieldLink RX12 88 "NearEnoughModel" "cN" "[I") (List.mem_of_getElem? (i := 5) rfl)) (fun _ h9 => h9) rfl dX12_show_318 ?_
          refine lv_iload_n hx hb dX12_show_321 rfl (lv_at hl 1 rfl) ?_
          have o70 : 0 ≤ z4_.toInt := by omega
          have o71 : z4_.toInt < ((12 : Nat) : Int) := by omega
          refine va_iald hx hb hK hP 25 24 rfl rfl (ti_inx o70 o71) dX12_show_322 ?_
          refine lv_topi (fun z118_ ez118_ => ?_)
          have gz118_ : z118_.toInt = ((σ.2.1 35) (Int32.toNatClampNeg z4_)).toInt := congrArg Int32.toInt (ez118_.trans (congrFun (((hx95_ 35 rg_511).2.1).trans rfl) (Int32.toNatClampNeg z4_)))
          have bz118_ : 0 ≤ z118_.toInt ∧ z118_.toInt ≤ 99 := by rw [ez118_]; exact (hI94_.2 35) _ (cl_lt (n := 12) o70 o71)
          refine lv_iconst (v := 1) hx hb dX12_show_323 rg_6 ?_
          refine lv_isub hx hb dX12_show_324 ?_
          refine lv_topi (fun z119_ ez119_ => ?_)
          have o72 : -2147483648 ≤ z118_.toInt - 1 := by omega
          have o73 : z118_.toInt - 1 ≤ 2147483647 := by omega
          have tz119_ : z119_.toInt = z118_.toInt - 1 := ti_sub ez119_ rfl rg_18 o72 o73
          refine lv_i2l hx hb dX12_show_325 rfl ?_
          refine lv_topl (fun y120_ ey120_ => ?_)
          refine lv_lmul hx hb dX12_show_326 ?_
          refine lv_topl (fun y121_ ey121_ => ?_)
          refine lv_lsub hx hb dX12_show_327 ?_
          refine lv_topl (fun y122_ ey122_ => ?_)
          refine va_put (D := (dC, dI)) (ci := 12) (v := .long y122_) (ty := tyX12 45) (C := RX12) (T := TX12) (N := 59) hx hb hts hin12 tyX12 tyX12_ok nmX12 hown hK hP hD hS 0 rfl rfl 45 (Nat.le_of_ble_eq_true rfl) (ho (.fieldLink RX12 379 "NearEnoughModel" "spanLow" "J") (List.mem_of_getElem? (i := 8) rfl)) (fun _ h9 => h9) rfl (tyX12_ok 45 (Nat.le_of_ble_eq_true rfl)) rfl rfl (Nat.le_of_ble_eq_true rfl) dX12_show_328 (fun H locs hP hD hS => ?_)
          have hP : va_P (dC, dI) vwCl (mW h ad cl (sL τ92_ 45 y122_)) H := hP
          have hD : va_D A (mW h ad cl (sL τ92_ 45 y122_)) := hD
          refine lv_iconst (v := 1) hx hb dX12_show_331 rg_6 ?_
          rw [hQ]
          have o74 : ¬ z93_.toInt = 0 := by omega
          have R125_ : shOk (σ.1 29).toNatClampNeg (cor σ) (σ.2.2.1 43) (σ.2.2.1 44) (σ.2.1 37 st9.toNatClampNeg) st9.toNatClampNeg := Or.inr (by rcases f98_ with q | q; exact q.2; exact absurd q.1 o74)
          have o75 : 0 ≤ z4_.toInt ∧ (σ.2.1 34 (Int32.toNatClampNeg z4_)).toInt = 3 := by omega
          have o76 : (σ.2.1 17 (Int32.toNatClampNeg z2_)).toInt = 0 := by omega
          have K126_ : (cor σ 17 (12 * (σ.1 29).toNatClampNeg + st9.toNatClampNeg)).toInt = 0 := (by show (σ.2.1 17 (12 * (σ.1 29).toNatClampNeg + st9.toNatClampNeg)).toInt = 0; rw [← Xz2_]; exact o76)
          have R123_ : y122_ = shLo (σ.1 29).toNatClampNeg (cor σ) (coJ σ) (σ.2.2.1 43) (σ.2.2.1 44) (σ.2.1 37 st9.toNatClampNeg) st9.toNatClampNeg := by rw [(sh_3 (B := (σ.1 29).toNatClampNeg) (T := cor σ) (J := coJ σ) (L := σ.2.2.1 43) (H := σ.2.2.1 44) (j := st9.toNatClampNeg) (show OnK (cor σ) (σ.2.1 37 st9.toNatClampNeg) 3 from (by rw [EC]; exact o75))).1, if_pos K126_]; simp only [skL, sL_21, sL_J, sL_1, E14, E15, E16, E17, E18, E19, E35, E27, E28, E43, E44, E29, Ecor, EcoJ, f96_, ez4_, ez101_, ez113_, ez114_, ez116_, ey117_, ez118_, ez119_, ey120_, ey121_, ey122_, Xz2_, Xz115_] <;> rfl
          have R124_ : (τ92_.2.2.2 46) = shHi (σ.1 29).toNatClampNeg (cor σ) (coJ σ) (σ.2.2.1 43) (σ.2.2.1 44) (σ.2.1 37 st9.toNatClampNeg) st9.toNatClampNeg := by rw [(sh_3 (B := (σ.1 29).toNatClampNeg) (T := cor σ) (J := coJ σ) (L := σ.2.2.1 43) (H := σ.2.2.1 44) (j := st9.toNatClampNeg) (show OnK (cor σ) (σ.2.1 37 st9.toNatClampNeg) 3 from (by rw [EC]; exact o75))).2]; exact f97_
          exact W.zret (v := 1) hx hb hr rfl (fun t ht hW => ⟨⟨1, (sL τ92_ 45 y122_), rfl, ⟨(Inv.sL hI94_), (eqx.sL Xτ92_ rg_498), Or.inl ⟨rg_18, R125_, R123_, R124_⟩⟩, wEn_of hP (hK.sub [] rfl) hD ht hW⟩, hS.F ht⟩) hS.2.2 dX12_show_332
      · have tc100_ := (show z93_.toInt = 0 from ti_eq rfl rg_11 c100_)
        refine lv_iconst (v := 0) hx hb dX12_show_92 rg_0 ?_
        rw [hQ]
        have o77 : ¬ z93_.toInt = 1 := by omega
        have o78 : 0 ≤ z4_.toInt ∧ (σ.2.1 34 (Int32.toNatClampNeg z4_)).toInt = 3 := by omega
        have R127_ : ¬ shOk (σ.1 29).toNatClampNeg (cor σ) (σ.2.2.1 43) (σ.2.2.1 44) (σ.2.1 37 st9.toNatClampNeg) st9.toNatClampNeg := fun h7 => by rcases f98_ with q | q; exact absurd q.1 o77; exact h7.elim (fun h6 => absurd h6 (on_ne (show OnK (cor σ) (σ.2.1 37 st9.toNatClampNeg) 3 from (by rw [EC]; exact o78)) (by decide))) q.2
        exact W.zret (v := 0) hx hb hr rfl (fun t ht hW => ⟨⟨0, τ92_, rfl, ⟨hI94_, Xτ92_, Or.inr ⟨rg_11, R127_⟩⟩, wEn_of hP (hK.sub [] rfl) hD ht hW⟩, hS.F ht⟩) hS.2.2 dX12_show_93
    · obtain rfl : z6_ = 4 := Int32.toInt_inj.mp (t_sp.trans rg_520)
      have kk128_ : (4 : Int32).toInt = 4 := rg_32
      refine lv_istore (lv' := [(4, .int 4), (3, .int z4_), (2, .int z2_), (0, .ref h), (1, .int st9)]) hx hb dX12_show_27 hl (Nat.le_of_ble_eq_true rfl) rfl (fun ls hl => ?_)
      refine lv_iload hx hb dX12_show_29 (lv_at hl 0 rfl) ?_
      refine lv_iconst (v := 4) hx hb dX12_show_31 rg_31 ?_
      refine lv_icmp_ne (tgt := 84) hx hb dX12_show_32 rfl (fun cc => absurd cc (by decide)) (fun _ => ?_)
      refine lv_aload_n hx hb dX12_show_35 rfl (lv_at hl 3 rfl) ?_
      refine va_get (D := (dC, dI)) (ci := 12) (v := .ref (ad 27)) (C := RX12) (T := TX12) (N := 59) hx hb hts hin12 hown hK hP 0 rfl rfl 27 (Nat.le_of_ble_eq_true rfl) (ho (.fieldLink RX12 70 "NearEnoughModel" "sLeast" "[J") (List.mem_of_getElem? (i := 6) rfl)) (fun _ h9 => h9) rfl dX12_show_36 ?_
      refine lv_iload_n hx hb dX12_show_39 rfl (lv_at hl 2 rfl) ?_
      have o79 : 0 ≤ z2_.toInt := by omega
      have o80 : z2_.toInt < ((24 : Nat) : Int) := by omega
      refine va_lald hx hb hK hP 19 18 rfl rfl (ti_inx o79 o80) dX12_show_40 ?_
      refine lv_topl (fun y129_ ey129_ => ?_)
      refine lv_aload_n hx hb dX12_show_41 rfl (lv_at hl 3 rfl) ?_
      refine va_get (D := (dC, dI)) (ci := 12) (v := .ref (ad 28)) (C := RX12) (T := TX12) (N := 59) hx hb hts hin12 hown hK hP 0 rfl rfl 28 (Nat.le_of_ble_eq_true rfl) (ho (.fieldLink RX12 73 "NearEnoughModel" "sMost" "[J") (List.mem_of_getElem? (i := 7) rfl)) (fun _ h9 => h9) rfl dX12_show_42 ?_
      refine lv_iload_n hx hb dX12_show_45 rfl (lv_at hl 2 rfl) ?_
      refine va_lald hx hb hK hP 20 19 rfl rfl (ti_inx o79 o80) dX12_show_46 ?_
      refine lv_topl (fun y130_ ey130_ => ?_)
      refine lv_ladd hx hb dX12_show_47 ?_
      refine lv_topl (fun y131_ ey131_ => ?_)
      refine lv_ldc2 (v := (2)) hx hb hown (ho (.constantLong RX12 368 (2)) (List.mem_of_getElem? (i := 11) rfl)) dX12_show_48 ?_
      refine zs_l (va_runS (As := [.long y131_, .long 2]) (rest := []) ⟨hx, hb, hml, hown, hts⟩ (n_floorOver l dC dI y131_ 2 (by decide) H.size) (va_cwS 2 hts gd_n_show_337_n_floorOver rfl rfl rfl dd_n_floorOver ⟨Nat.le_of_ble_eq_true rfl, Nat.le_of_ble_eq_true rfl⟩) (preS (A := A) empP (hK.sub (tys' := []) [] rfl) empD hE) rfl rfl hl.1 rfl (lv_room (Nat.le_of_ble_eq_true rfl)) dX12_show_51 ⟨Nat.le_of_ble_eq_true rfl, Nat.le_of_ble_eq_true rfl⟩) hP hD hS hA (fun y132_ H locs hq hP hD hS => ?_)
      have f133_ := hq
      refine W.widen (k := 0) (n := 0) (Nat.le_of_ble_eq_true rfl) (Nat.le_of_ble_eq_true rfl) ?_
      refine lv_lstore (lv' := [(5, .long y132_), (4, .int 4), (3, .int z4_), (2, .int z2_), (0, .ref h), (1, .int st9)]) hx hb dX12_show_54 hl (Nat.le_of_ble_eq_true rfl) rfl (fun ls hl => ?_)
      refine lv_aload_n hx hb dX12_show_56 rfl (lv_at hl 4 rfl) ?_
      refine lv_lload hx hb dX12_show_57 (lv_at hl 0 rfl) ?_
      refine lv_aload_n hx hb dX12_show_59 rfl (lv_at hl 4 rfl) ?_
      refine va_get (D := (dC, dI)) (ci := 12) (v := .ref (ad 28)) (C := RX12) (T := TX12) (N := 59) hx hb hts hin12 hown hK hP 0 rfl rfl 28 (Nat.le_of_ble_eq_true rfl) (ho (.fieldLink RX12 73 "NearEnoughModel" "sMost" "[J") (List.mem_of_getElem? (i := 7) rfl)) (fun _ h9 => h9) rfl dX12_show_60 ?_
      refine lv_iload_n hx hb dX12_show_63 rfl (lv_at hl 3 rfl) ?_
      refine va_lald hx hb hK hP 20 19 rfl rfl (ti_inx o79 o80) dX12_show_64 ?_
      refine lv_topl (fun y134_ ey134_ => ?_)
      refine lv_lsub hx hb dX12_show_65 ?_
      refine lv_topl (fun y135_ ey135_ => ?_)
      refine va_put (D := (dC, dI)) (ci := 12) (v := .long y135_) (ty := tyX12 45) (C := RX12) (T := TX12) (N := 59) hx hb hts hin12 tyX12 tyX12_ok nmX12 hown hK hP hD hS 0 rfl rfl 45 (Nat.le_of_ble_eq_true rfl) (ho (.fieldLink RX12 379 "NearEnoughModel" "spanLow" "J") (List.mem_of_getElem? (i := 8) rfl)) (fun _ h9 => h9) rfl (tyX12_ok 45 (Nat.le_of_ble_eq_true rfl)) rfl rfl (Nat.le_of_ble_eq_true rfl) dX12_show_66 (fun H locs hP hD hS => ?_)
      have hP : va_P (dC, dI) vwCl (mW h ad cl (sL σ 45 y135_)) H := hP
      have hD : va_D A (mW h ad cl (sL σ 45 y135_)) := hD
      refine lv_aload_n hx hb dX12_show_69 rfl (lv_at hl 4 rfl) ?_
      refine lv_lload hx hb dX12_show_70 (lv_at hl 0 rfl) ?_
      refine lv_aload_n hx hb dX12_show_72 rfl (lv_at hl 4 rfl) ?_
      refine va_get (D := (dC, dI)) (ci := 12) (v := .ref (ad 27)) (C := RX12) (T := TX12) (N := 59) hx hb hts hin12 hown hK hP 0 rfl rfl 27 (Nat.le_of_ble_eq_true rfl) (ho (.fieldLink RX12 70 "NearEnoughModel" "sLeast" "[J") (List.mem_of_getElem? (i := 6) rfl)) (fun _ h9 => h9) rfl dX12_show_73 ?_
      refine lv_iload_n hx hb dX12_show_76 rfl (lv_at hl 3 rfl) ?_
      refine va_lald hx hb hK hP 19 18 rfl rfl (ti_inx o79 o80) dX12_show_77 ?_
      refine lv_topl (fun y136_ ey136_ => ?_)
      refine lv_lsub hx hb dX12_show_78 ?_
      refine lv_topl (fun y137_ ey137_ => ?_)
      refine va_put (D := (dC, dI)) (ci := 12) (v := .long y137_) (ty := tyX12 46) (C := RX12) (T := TX12) (N := 59) hx hb hts hin12 tyX12 tyX12_ok nmX12 hown hK hP hD hS 0 rfl rfl 46 (Nat.le_of_ble_eq_true rfl) (ho (.fieldLink RX12 382 "NearEnoughModel" "spanHigh" "J") (List.mem_of_getElem? (i := 9) rfl)) (fun _ h9 => h9) rfl (tyX12_ok 46 (Nat.le_of_ble_eq_true rfl)) rfl rfl (Nat.le_of_ble_eq_true rfl) dX12_show_79 (fun H locs hP hD hS => ?_)
      have hP : va_P (dC, dI) vwCl (mW h ad cl (sL (sL σ 45 y135_) 46 y137_)) H := hP
      have hD : va_D A (mW h ad cl (sL (sL σ 45 y135_) 46 y137_)) := hD
      refine lv_iconst (v := 1) hx hb dX12_show_82 rg_6 ?_
      rw [hQ]
      have o81 : 0 ≤ z4_.toInt ∧ (σ.2.1 34 (Int32.toNatClampNeg z4_)).toInt = 4 := by omega
      have R140_ : shOk (σ.1 29).toNatClampNeg (cor σ) (σ.2.2.1 43) (σ.2.2.1 44) (σ.2.1 37 st9.toNatClampNeg) st9.toNatClampNeg := Or.inl (show OnK (cor σ) (σ.2.1 37 st9.toNatClampNeg) 4 from (by rw [EC]; exact o81))
      have R138_ : y135_ = shLo (σ.1 29).toNatClampNeg (cor σ) (coJ σ) (σ.2.2.1 43) (σ.2.2.1 44) (σ.2.1 37 st9.toNatClampNeg) st9.toNatClampNeg := by rw [(sh_4 (B := (σ.1 29).toNatClampNeg) (T := cor σ) (J := coJ σ) (L := σ.2.2.1 43) (H := σ.2.2.1 44) (j := st9.toNatClampNeg) (show OnK (cor σ) (σ.2.1 37 st9.toNatClampNeg) 4 from (by rw [EC]; exact o81))).1]; simp only [ez4_, ey129_, ey130_, ey131_, f133_, ey134_, ey135_, ey136_, ey137_, Xz2_] <;> rfl
      have R139_ : y137_ = shHi (σ.1 29).toNatClampNeg (cor σ) (coJ σ) (σ.2.2.1 43) (σ.2.2.1 44) (σ.2.1 37 st9.toNatClampNeg) st9.toNatClampNeg := by rw [(sh_4 (B := (σ.1 29).toNatClampNeg) (T := cor σ) (J := coJ σ) (L := σ.2.2.1 43) (H := σ.2.2.1 44) (j := st9.toNatClampNeg) (show OnK (cor σ) (σ.2.1 37 st9.toNatClampNeg) 4 from (by rw [EC]; exact o81))).2]; simp only [ez4_, ey129_, ey130_, ey131_, f133_, ey134_, ey135_, ey136_, ey137_, Xz2_] <;> rfl
      exact W.zret (v := 1) hx hb hr rfl (fun t ht hW => ⟨⟨1, (sL (sL σ 45 y135_) 46 y137_), rfl, ⟨(Inv.sL (Inv.sL hI)), (eqx.sL (eqx.sL eqx.rf rg_498) rg_499), Or.inl ⟨rg_18, R140_, R138_, R139_⟩⟩, wEn_of hP (hK.sub [] rfl) hD ht hW⟩, hS.F ht⟩) hS.2.2 dX12_show_83
    · obtain rfl : z6_ = 5 := Int32.toInt_inj.mp (t_sp.trans rg_521)
      have kk141_ : (5 : Int32).toInt = 5 := rg_15
      refine lv_istore (lv' := [(4, .int 5), (3, .int z4_), (2, .int z2_), (0, .ref h), (1, .int st9)]) hx hb dX12_show_27 hl (Nat.le_of_ble_eq_true rfl) rfl (fun ls hl => ?_)
      refine lv_iload hx hb dX12_show_29 (lv_at hl 0 rfl) ?_
      refine lv_iconst (v := 4) hx hb dX12_show_31 rg_31 ?_
      refine lv_icmp_ne (tgt := 84) hx hb dX12_show_32 rfl (fun _ => ?_) (fun cc => absurd cc (by decide))
      refine lv_aload_n hx hb dX12_show_84 rfl (lv_at hl 3 rfl) ?_
      refine lv_iload_n hx hb dX12_show_85 rfl (lv_at hl 4 rfl) ?_
      have o82 : 0 ≤ st9.toInt := by omega
      have o83 : st9.toInt ≤ 11 := by omega
      refine zy_i (va_runV (As := [.int st9]) (rest := []) ⟨hx, hb, hml, hown, hts⟩ (n_spread l dC dI h ad cl H.size σ st9 hI ⟨o82, o83⟩ hwk) (cwV 1 hts gd_n_show_410_n_spread rfl rfl rfl dd_n_spread ⟨Nat.le_of_ble_eq_true rfl, Nat.le_of_ble_eq_true rfl⟩) (preV hP hK hD hE (ci := 12) (q0 := 0) rfl rfl) rfl rfl hl.1 rfl (lv_room (Nat.le_of_ble_eq_true rfl)) dX12_show_86 ⟨Nat.le_of_ble_eq_true rfl, Nat.le_of_ble_eq_true rfl⟩) hD hS hA (fun z143_ τ142_ H locs hq hP hD hS => ?_)
      obtain ⟨hI144_, hx145_, f146_, f147_, f148_⟩ := hq
      have Xτ142_ : eqx [45, 46] τ142_ σ := eqx.tr hx145_ eqx.rf rg_503
      have qq149_ : (τ142_.1 29).toInt = ((σ.1 29) : Int32).toInt := congrArg Int32.toInt ((show τ142_.1 29 = (σ.1 29) from ((hx145_ 29 rg_504).1).trans rfl))
      refine W.widen (k := 0) (n := 0) (Nat.le_of_ble_eq_true rfl) (Nat.le_of_ble_eq_true rfl) ?_
      have E14 : τ142_.2.1 14 = σ.2.1 14 := (hx145_ 14 rg_505).2.1
      have E15 : τ142_.2.1 15 = σ.2.1 15 := (hx145_ 15 rg_506).2.1
      have E16 : τ142_.2.1 16 = σ.2.1 16 := (hx145_ 16 rg_507).2.1
      have E17 : τ142_.2.1 17 = σ.2.1 17 := (hx145_ 17 rg_508).2.1
      have E18 : τ142_.2.1 18 = σ.2.1 18 := (hx145_ 18 rg_509).2.1
      have E19 : τ142_.2.1 19 = σ.2.1 19 := (hx145_ 19 rg_510).2.1
      have E35 : τ142_.2.1 35 = σ.2.1 35 := (hx145_ 35 rg_511).2.1
      have E27 : τ142_.2.2.1 27 = σ.2.2.1 27 := (hx145_ 27 rg_512).2.2.1
      have E28 : τ142_.2.2.1 28 = σ.2.2.1 28 := (hx145_ 28 rg_513).2.2.1
      have E43 : τ142_.2.2.1 43 = σ.2.2.1 43 := (hx145_ 43 rg_514).2.2.1
      have E44 : τ142_.2.2.1 44 = σ.2.2.1 44 := (hx145_ 44 rg_515).2.2.1
      have E29 : τ142_.1 29 = σ.1 29 := (hx145_ 29 rg_504).1
      have Ecor : cor τ142_ = cor σ := cor_x hx145_ rg_516
      have EcoJ : coJ τ142_ = coJ σ := coJ_x hx145_ rg_517
      refine lv_if_ne (tgt := 94) hx hb dX12_show_89 rfl (fun c150_ => ?_) (fun c150_ => ?_)
      · have tc150_ := (show z143_.toInt ≠ 0 from ti_ne rfl rg_11 c150_)
        refine lv_iload hx hb dX12_show_94 (lv_at hl 0 rfl) ?_
        refine lv_if_ne (tgt := 196) hx hb dX12_show_96 rfl (fun _ => ?_) (fun cc => absurd cc (by decide))
        refine lv_iload hx hb dX12_show_196 (lv_at hl 0 rfl) ?_
        refine lv_iconst (v := 1) hx hb dX12_show_198 rg_6 ?_
        refine lv_icmp_ne (tgt := 221) hx hb dX12_show_199 rfl (fun _ => ?_) (fun cc => absurd cc (by decide))
        refine lv_iload hx hb dX12_show_221 (lv_at hl 0 rfl) ?_
        refine lv_iconst (v := 2) hx hb dX12_show_223 rg_19 ?_
        refine lv_icmp_ne (tgt := 238) hx hb dX12_show_224 rfl (fun _ => ?_) (fun cc => absurd cc (by decide))
        refine lv_iload hx hb dX12_show_238 (lv_at hl 0 rfl) ?_
        refine lv_iconst (v := 5) hx hb dX12_show_240 rg_14 ?_
        refine lv_icmp_eq (tgt := 251) hx hb dX12_show_241 rfl (fun _ => ?_) (fun cc => absurd (by decide) cc)
        refine lv_aload_n hx hb dX12_show_251 rfl (lv_at hl 3 rfl) ?_
        refine lv_iload_n hx hb dX12_show_252 rfl (lv_at hl 2 rfl) ?_
        refine lv_iload hx hb dX12_show_253 (lv_at hl 0 rfl) ?_
        refine lv_iload hx hb dX12_show_255 (lv_at hl 0 rfl) ?_
        refine lv_iconst (v := 5) hx hb dX12_show_257 rg_14 ?_
        refine lv_icmp_ne (tgt := 270) hx hb dX12_show_258 rfl (fun cc => absurd cc (by decide)) (fun _ => ?_)
        refine lv_aload_n hx hb dX12_show_261 rfl (lv_at hl 3 rfl) ?_
        refine va_get (D := (dC, dI)) (ci := 12) (v := .ref (ad 35)) (C := RX12) (T := TX12) (N := 59) hx hb hts hin12 hown hK hP 0 rfl rfl 35 (Nat.le_of_ble_eq_true rfl) (ho (.fieldLink RX12 88 "NearEnoughModel" "cN" "[I") (List.mem_of_getElem? (i := 5) rfl)) (fun _ h9 => h9) rfl dX12_show_262 ?_
        refine lv_iload_n hx hb dX12_show_265 rfl (lv_at hl 1 rfl) ?_
        have o84 : 0 ≤ z4_.toInt := by omega
        have o85 : z4_.toInt < ((12 : Nat) : Int) := by omega
        refine va_iald hx hb hK hP 25 24 rfl rfl (ti_inx o84 o85) dX12_show_266 ?_
        refine lv_topi (fun z151_ ez151_ => ?_)
        have gz151_ : z151_.toInt = ((σ.2.1 35) (Int32.toNatClampNeg z4_)).toInt := congrArg Int32.toInt (ez151_.trans (congrFun (((hx145_ 35 rg_511).2.1).trans rfl) (Int32.toNatClampNeg z4_)))
        have bz151_ : 0 ≤ z151_.toInt ∧ z151_.toInt ≤ 99 := by rw [ez151_]; exact (hI144_.2 35) _ (cl_lt (n := 12) o84 o85)
        refine lv_goto (tgt := 271) hx hb dX12_show_267 rfl ?_
        have kk152_ : (5 : Int32).toInt = 5 := rg_15
        have o86 : 0 ≤ z2_.toInt := by omega
        have o87 : z2_.toInt ≤ 23 := by omega
        have ab18 : 0 ≤ (σ.2.1 18 (Int32.toNatClampNeg z2_)).toInt ∧ (σ.2.1 18 (Int32.toNatClampNeg z2_)).toInt ≤ 1 := by omega
        have o88 : (5 : Int32).toInt = 5 ∨ (5 : Int32).toInt = 6 := by omega
        refine zy_v (va_runV (As := [.int z2_, .int 5, .int z151_]) (rest := []) ⟨hx, hb, hml, hown, hts⟩ (n_showRow l dC dI h ad cl H.size τ142_ z2_ 5 z151_ hI144_ ⟨o86, o87⟩ (show (5 : Int32).toInt = 5 ∨ (5 : Int32).toInt = 6 from o88) (by rw [E18]; exact ab18)) (cwV 3 hts gd_n_show_416_n_showRow rfl rfl rfl dd_n_showRow ⟨Nat.le_of_ble_eq_true rfl, Nat.le_of_ble_eq_true rfl⟩) (preV hP hK hD hE (ci := 12) (q0 := 0) rfl rfl) rfl rfl hl.1 rfl (lv_room (Nat.le_of_ble_eq_true rfl)) dX12_show_271 ⟨Nat.le_of_ble_eq_true rfl, Nat.le_of_ble_eq_true rfl⟩) hD hS hA (fun τ153_ H locs hq hP hD hS => ?_)
        obtain ⟨hI155_, hx156_, f157_, f158_⟩ := hq
        have Xτ153_ : eqx [45, 46] τ153_ σ := eqx.tr hx156_ Xτ142_ rg_503
        have qq159_ : (τ153_.1 29).toInt = ((σ.1 29) : Int32).toInt := congrArg Int32.toInt ((show τ153_.1 29 = (σ.1 29) from ((hx156_ 29 rg_504).1).trans (show τ142_.1 29 = (σ.1 29) from ((hx145_ 29 rg_504).1).trans rfl)))
        refine W.widen (k := 0) (n := 0) (Nat.le_of_ble_eq_true rfl) (Nat.le_of_ble_eq_true rfl) ?_
        refine lv_iload hx hb dX12_show_274 (lv_at hl 0 rfl) ?_
        refine lv_iconst (v := 3) hx hb dX12_show_276 rg_16 ?_
        refine lv_icmp_ne (tgt := 331) hx hb dX12_show_277 rfl (fun _ => ?_) (fun cc => absurd cc (by decide))
        refine lv_iconst (v := 1) hx hb dX12_show_331 rg_6 ?_
        rw [hQ]
        have o89 : ¬ z143_.toInt = 0 := by omega
        have R162_ : shOk (σ.1 29).toNatClampNeg (cor σ) (σ.2.2.1 43) (σ.2.2.1 44) (σ.2.1 37 st9.toNatClampNeg) st9.toNatClampNeg := Or.inr (by rcases f148_ with q | q; exact q.2; exact absurd q.1 o89)
        have o90 : 0 ≤ z4_.toInt ∧ (σ.2.1 34 (Int32.toNatClampNeg z4_)).toInt = 5 := by omega
        have R160_ : (τ153_.2.2.2 45) = shLo (σ.1 29).toNatClampNeg (cor σ) (coJ σ) (σ.2.2.1 43) (σ.2.2.1 44) (σ.2.1 37 st9.toNatClampNeg) st9.toNatClampNeg := by rw [(sh_5 (B := (σ.1 29).toNatClampNeg) (T := cor σ) (J := coJ σ) (L := σ.2.2.1 43) (H := σ.2.2.1 44) (j := st9.toNatClampNeg) (show OnK (cor σ) (σ.2.1 37 st9.toNatClampNeg) 5 from (by rw [EC]; exact o90))).1]; refine f157_.trans ?_; simp only [sL_21, sL_J, sL_1, E14, E15, E16, E17, E18, E19, E35, E27, E28, E43, E44, E29, Ecor, EcoJ, f146_, rg_15, ez4_, ez151_, Xz2_] <;> rfl
        have R161_ : (τ153_.2.2.2 46) = shHi (σ.1 29).toNatClampNeg (cor σ) (coJ σ) (σ.2.2.1 43) (σ.2.2.1 44) (σ.2.1 37 st9.toNatClampNeg) st9.toNatClampNeg := by rw [(sh_5 (B := (σ.1 29).toNatClampNeg) (T := cor σ) (J := coJ σ) (L := σ.2.2.1 43) (H := σ.2.2.1 44) (j := st9.toNatClampNeg) (show OnK (cor σ) (σ.2.1 37 st9.toNatClampNeg) 5 from (by rw [EC]; exact o90))).2]; refine f158_.trans ?_; simp only [sL_21, sL_J, sL_1, E14, E15, E16, E17, E18, E19, E35, E27, E28, E43, E44, E29, Ecor, EcoJ, f147_, rg_15, ez4_, ez151_, Xz2_] <;> rfl
        exact W.zret (v := 1) hx hb hr rfl (fun t ht hW => ⟨⟨1, τ153_, rfl, ⟨hI155_, Xτ153_, Or.inl ⟨rg_18, R162_, R160_, R161_⟩⟩, wEn_of hP (hK.sub [] rfl) hD ht hW⟩, hS.F ht⟩) hS.2.2 dX12_show_332
      · have tc150_ := (show z143_.toInt = 0 from ti_eq rfl rg_11 c150_)
        refine lv_iconst (v := 0) hx hb dX12_show_92 rg_0 ?_
        rw [hQ]
        have o91 : ¬ z143_.toInt = 1 := by omega
        have o92 : 0 ≤ z4_.toInt ∧ (σ.2.1 34 (Int32.toNatClampNeg z4_)).toInt = 5 := by omega
        have R163_ : ¬ shOk (σ.1 29).toNatClampNeg (cor σ) (σ.2.2.1 43) (σ.2.2.1 44) (σ.2.1 37 st9.toNatClampNeg) st9.toNatClampNeg := fun h7 => by rcases f148_ with q | q; exact absurd q.1 o91; exact h7.elim (fun h6 => absurd h6 (on_ne (show OnK (cor σ) (σ.2.1 37 st9.toNatClampNeg) 5 from (by rw [EC]; exact o92)) (by decide))) q.2
        exact W.zret (v := 0) hx hb hr rfl (fun t ht hW => ⟨⟨0, τ142_, rfl, ⟨hI144_, Xτ142_, Or.inr ⟨rg_11, R163_⟩⟩, wEn_of hP (hK.sub [] rfl) hD ht hW⟩, hS.F ht⟩) hS.2.2 dX12_show_93
    · obtain rfl : z6_ = 6 := Int32.toInt_inj.mp (t_sp.trans rg_522)
      have kk164_ : (6 : Int32).toInt = 6 := rg_70
      refine lv_istore (lv' := [(4, .int 6), (3, .int z4_), (2, .int z2_), (0, .ref h), (1, .int st9)]) hx hb dX12_show_27 hl (Nat.le_of_ble_eq_true rfl) rfl (fun ls hl => ?_)
      refine lv_iload hx hb dX12_show_29 (lv_at hl 0 rfl) ?_
      refine lv_iconst (v := 4) hx hb dX12_show_31 rg_31 ?_
      refine lv_icmp_ne (tgt := 84) hx hb dX12_show_32 rfl (fun _ => ?_) (fun cc => absurd cc (by decide))
      refine lv_aload_n hx hb dX12_show_84 rfl (lv_at hl 3 rfl) ?_
      refine lv_iload_n hx hb dX12_show_85 rfl (lv_at hl 4 rfl) ?_
      have o93 : 0 ≤ st9.toInt := by omega
      have o94 : st9.toInt ≤ 11 := by omega
      refine zy_i (va_runV (As := [.int st9]) (rest := []) ⟨hx, hb, hml, hown, hts⟩ (n_spread l dC dI h ad cl H.size σ st9 hI ⟨o93, o94⟩ hwk) (cwV 1 hts gd_n_show_410_n_spread rfl rfl rfl dd_n_spread ⟨Nat.le_of_ble_eq_true rfl, Nat.le_of_ble_eq_true rfl⟩) (preV hP hK hD hE (ci := 12) (q0 := 0) rfl rfl) rfl rfl hl.1 rfl (lv_room (Nat.le_of_ble_eq_true rfl)) dX12_show_86 ⟨Nat.le_of_ble_eq_true rfl, Nat.le_of_ble_eq_true rfl⟩) hD hS hA (fun z166_ τ165_ H locs hq hP hD hS => ?_)
      obtain ⟨hI167_, hx168_, f169_, f170_, f171_⟩ := hq
      have Xτ165_ : eqx [45, 46] τ165_ σ := eqx.tr hx168_ eqx.rf rg_503
      have qq172_ : (τ165_.1 29).toInt = ((σ.1 29) : Int32).toInt := congrArg Int32.toInt ((show τ165_.1 29 = (σ.1 29) from ((hx168_ 29 rg_504).1).trans rfl))
      refine W.widen (k := 0) (n := 0) (Nat.le_of_ble_eq_true rfl) (Nat.le_of_ble_eq_true rfl) ?_
      have E14 : τ165_.2.1 14 = σ.2.1 14 := (hx168_ 14 rg_505).2.1
      have E15 : τ165_.2.1 15 = σ.2.1 15 := (hx168_ 15 rg_506).2.1
      have E16 : τ165_.2.1 16 = σ.2.1 16 := (hx168_ 16 rg_507).2.1
      have E17 : τ165_.2.1 17 = σ.2.1 17 := (hx168_ 17 rg_508).2.1
      have E18 : τ165_.2.1 18 = σ.2.1 18 := (hx168_ 18 rg_509).2.1
      have E19 : τ165_.2.1 19 = σ.2.1 19 := (hx168_ 19 rg_510).2.1
      have E35 : τ165_.2.1 35 = σ.2.1 35 := (hx168_ 35 rg_511).2.1
      have E27 : τ165_.2.2.1 27 = σ.2.2.1 27 := (hx168_ 27 rg_512).2.2.1
      have E28 : τ165_.2.2.1 28 = σ.2.2.1 28 := (hx168_ 28 rg_513).2.2.1
      have E43 : τ165_.2.2.1 43 = σ.2.2.1 43 := (hx168_ 43 rg_514).2.2.1
      have E44 : τ165_.2.2.1 44 = σ.2.2.1 44 := (hx168_ 44 rg_515).2.2.1
      have E29 : τ165_.1 29 = σ.1 29 := (hx168_ 29 rg_504).1
      have Ecor : cor τ165_ = cor σ := cor_x hx168_ rg_516
      have EcoJ : coJ τ165_ = coJ σ := coJ_x hx168_ rg_517
      refine lv_if_ne (tgt := 94) hx hb dX12_show_89 rfl (fun c173_ => ?_) (fun c173_ => ?_)
      · have tc173_ := (show z166_.toInt ≠ 0 from ti_ne rfl rg_11 c173_)
        refine lv_iload hx hb dX12_show_94 (lv_at hl 0 rfl) ?_
        refine lv_if_ne (tgt := 196) hx hb dX12_show_96 rfl (fun _ => ?_) (fun cc => absurd cc (by decide))
        refine lv_iload hx hb dX12_show_196 (lv_at hl 0 rfl) ?_
        refine lv_iconst (v := 1) hx hb dX12_show_198 rg_6 ?_
        refine lv_icmp_ne (tgt := 221) hx hb dX12_show_199 rfl (fun _ => ?_) (fun cc => absurd cc (by decide))
        refine lv_iload hx hb dX12_show_221 (lv_at hl 0 rfl) ?_
        refine lv_iconst (v := 2) hx hb dX12_show_223 rg_19 ?_
        refine lv_icmp_ne (tgt := 238) hx hb dX12_show_224 rfl (fun _ => ?_) (fun cc => absurd cc (by decide))
        refine lv_iload hx hb dX12_show_238 (lv_at hl 0 rfl) ?_
        refine lv_iconst (v := 5) hx hb dX12_show_240 rg_14 ?_
        refine lv_icmp_eq (tgt := 251) hx hb dX12_show_241 rfl (fun cc => absurd cc (by decide)) (fun _ => ?_)
        refine lv_iload hx hb dX12_show_244 (lv_at hl 0 rfl) ?_
        refine lv_bipush (v := 6) hx hb dX12_show_246 rg_55 ?_
        refine lv_icmp_ne (tgt := 274) hx hb dX12_show_248 rfl (fun cc => absurd cc (by decide)) (fun _ => ?_)
        refine lv_aload_n hx hb dX12_show_251 rfl (lv_at hl 3 rfl) ?_
        refine lv_iload_n hx hb dX12_show_252 rfl (lv_at hl 2 rfl) ?_
        refine lv_iload hx hb dX12_show_253 (lv_at hl 0 rfl) ?_
        refine lv_iload hx hb dX12_show_255 (lv_at hl 0 rfl) ?_
        refine lv_iconst (v := 5) hx hb dX12_show_257 rg_14 ?_
        refine lv_icmp_ne (tgt := 270) hx hb dX12_show_258 rfl (fun _ => ?_) (fun cc => absurd cc (by decide))
        refine lv_iconst (v := 0) hx hb dX12_show_270 rg_0 ?_
        have kk174_ : (6 : Int32).toInt = 6 := rg_70
        have kk175_ : (0 : Int32).toInt = 0 := rg_11
        have o95 : 0 ≤ z2_.toInt := by omega
        have o96 : z2_.toInt ≤ 23 := by omega
        have ab18 : 0 ≤ (σ.2.1 18 (Int32.toNatClampNeg z2_)).toInt ∧ (σ.2.1 18 (Int32.toNatClampNeg z2_)).toInt ≤ 1 := by omega
        have o97 : (6 : Int32).toInt = 5 ∨ (6 : Int32).toInt = 6 := by omega
        refine zy_v (va_runV (As := [.int z2_, .int 6, .int 0]) (rest := []) ⟨hx, hb, hml, hown, hts⟩ (n_showRow l dC dI h ad cl H.size τ165_ z2_ 6 0 hI167_ ⟨o95, o96⟩ (show (6 : Int32).toInt = 5 ∨ (6 : Int32).toInt = 6 from o97) (by rw [E18]; exact ab18)) (cwV 3 hts gd_n_show_416_n_showRow rfl rfl rfl dd_n_showRow ⟨Nat.le_of_ble_eq_true rfl, Nat.le_of_ble_eq_true rfl⟩) (preV hP hK hD hE (ci := 12) (q0 := 0) rfl rfl) rfl rfl hl.1 rfl (lv_room (Nat.le_of_ble_eq_true rfl)) dX12_show_271 ⟨Nat.le_of_ble_eq_true rfl, Nat.le_of_ble_eq_true rfl⟩) hD hS hA (fun τ176_ H locs hq hP hD hS => ?_)
        obtain ⟨hI178_, hx179_, f180_, f181_⟩ := hq
        have Xτ176_ : eqx [45, 46] τ176_ σ := eqx.tr hx179_ Xτ165_ rg_503
        have qq182_ : (τ176_.1 29).toInt = ((σ.1 29) : Int32).toInt := congrArg Int32.toInt ((show τ176_.1 29 = (σ.1 29) from ((hx179_ 29 rg_504).1).trans (show τ165_.1 29 = (σ.1 29) from ((hx168_ 29 rg_504).1).trans rfl)))
        refine W.widen (k := 0) (n := 0) (Nat.le_of_ble_eq_true rfl) (Nat.le_of_ble_eq_true rfl) ?_
        refine lv_iload hx hb dX12_show_274 (lv_at hl 0 rfl) ?_
        refine lv_iconst (v := 3) hx hb dX12_show_276 rg_16 ?_
        refine lv_icmp_ne (tgt := 331) hx hb dX12_show_277 rfl (fun _ => ?_) (fun cc => absurd cc (by decide))
        refine lv_iconst (v := 1) hx hb dX12_show_331 rg_6 ?_
        rw [hQ]
        have o98 : ¬ z166_.toInt = 0 := by omega
        have R185_ : shOk (σ.1 29).toNatClampNeg (cor σ) (σ.2.2.1 43) (σ.2.2.1 44) (σ.2.1 37 st9.toNatClampNeg) st9.toNatClampNeg := Or.inr (by rcases f171_ with q | q; exact q.2; exact absurd q.1 o98)
        have o99 : 0 ≤ z4_.toInt ∧ (σ.2.1 34 (Int32.toNatClampNeg z4_)).toInt = 6 := by omega
        have R183_ : (τ176_.2.2.2 45) = shLo (σ.1 29).toNatClampNeg (cor σ) (coJ σ) (σ.2.2.1 43) (σ.2.2.1 44) (σ.2.1 37 st9.toNatClampNeg) st9.toNatClampNeg := by rw [(sh_6 (B := (σ.1 29).toNatClampNeg) (T := cor σ) (J := coJ σ) (L := σ.2.2.1 43) (H := σ.2.2.1 44) (j := st9.toNatClampNeg) (show OnK (cor σ) (σ.2.1 37 st9.toNatClampNeg) 6 from (by rw [EC]; exact o99))).1]; refine f180_.trans ?_; simp only [sL_21, sL_J, sL_1, E14, E15, E16, E17, E18, E19, E35, E27, E28, E43, E44, E29, Ecor, EcoJ, f169_, rg_70, ez4_, Xz2_] <;> rfl
        have R184_ : (τ176_.2.2.2 46) = shHi (σ.1 29).toNatClampNeg (cor σ) (coJ σ) (σ.2.2.1 43) (σ.2.2.1 44) (σ.2.1 37 st9.toNatClampNeg) st9.toNatClampNeg := by rw [(sh_6 (B := (σ.1 29).toNatClampNeg) (T := cor σ) (J := coJ σ) (L := σ.2.2.1 43) (H := σ.2.2.1 44) (j := st9.toNatClampNeg) (show OnK (cor σ) (σ.2.1 37 st9.toNatClampNeg) 6 from (by rw [EC]; exact o99))).2]; refine f181_.trans ?_; simp only [sL_21, sL_J, sL_1, E14, E15, E16, E17, E18, E19, E35, E27, E28, E43, E44, E29, Ecor, EcoJ, f170_, rg_70, ez4_, Xz2_] <;> rfl
        exact W.zret (v := 1) hx hb hr rfl (fun t ht hW => ⟨⟨1, τ176_, rfl, ⟨hI178_, Xτ176_, Or.inl ⟨rg_18, R185_, R183_, R184_⟩⟩, wEn_of hP (hK.sub [] rfl) hD ht hW⟩, hS.F ht⟩) hS.2.2 dX12_show_332
      · have tc173_ := (show z166_.toInt = 0 from ti_eq rfl rg_11 c173_)
        refine lv_iconst (v := 0) hx hb dX12_show_92 rg_0 ?_
        rw [hQ]
        have o100 : ¬ z166_.toInt = 1 := by omega
        have o101 : 0 ≤ z4_.toInt ∧ (σ.2.1 34 (Int32.toNatClampNeg z4_)).toInt = 6 := by omega
        have R186_ : ¬ shOk (σ.1 29).toNatClampNeg (cor σ) (σ.2.2.1 43) (σ.2.2.1 44) (σ.2.1 37 st9.toNatClampNeg) st9.toNatClampNeg := fun h7 => by rcases f171_ with q | q; exact absurd q.1 o100; exact h7.elim (fun h6 => absurd h6 (on_ne (show OnK (cor σ) (σ.2.1 37 st9.toNatClampNeg) 6 from (by rw [EC]; exact o101)) (by decide))) q.2
        exact W.zret (v := 0) hx hb hr rfl (fun t ht hW => ⟨⟨0, τ165_, rfl, ⟨hI167_, Xτ165_, Or.inr ⟨rg_11, R186_⟩⟩, wEn_of hP (hK.sub [] rfl) hD ht hW⟩, hS.F ht⟩) hS.2.2 dX12_show_93
  · have tc5_ := (show z4_.toInt < 0 from ti_nle rg_11 rfl c5_)
    refine lv_iconst (v := (-1)) hx hb dX12_show_17 rg_53 ?_
    refine lv_goto (tgt := 27) hx hb dX12_show_18 rfl ?_
    have EC : (σ.2.1 37 st9.toNatClampNeg) = z4_ := by rw [ez4_]
    rw [EC] at hft
    have hfu : 0 ≤ z4_.toInt → FitK (σ.2.1 17 (Int32.toNatClampNeg z2_)).toInt (σ.2.1 34 (Int32.toNatClampNeg z4_)).toInt (σ.2.1 35 (Int32.toNatClampNeg z4_)).toInt := by rw [Xz2_]; exact hft.2.2
    unfold FitK at hfu
    refine lv_istore (lv' := [(4, .int (-1)), (3, .int z4_), (2, .int z2_), (0, .ref h), (1, .int st9)]) hx hb dX12_show_27 hl (Nat.le_of_ble_eq_true rfl) rfl (fun ls hl => ?_)
    refine lv_iload hx hb dX12_show_29 (lv_at hl 0 rfl) ?_
    refine lv_iconst (v := 4) hx hb dX12_show_31 rg_31 ?_
    refine lv_icmp_ne (tgt := 84) hx hb dX12_show_32 rfl (fun _ => ?_) (fun cc => absurd cc (by decide))
    refine lv_aload_n hx hb dX12_show_84 rfl (lv_at hl 3 rfl) ?_
    refine lv_iload_n hx hb dX12_show_85 rfl (lv_at hl 4 rfl) ?_
    refine zy_i (va_runV (As := [.int st9]) (rest := []) ⟨hx, hb, hml, hown, hts⟩ (n_spread l dC dI h ad cl H.size σ st9 hI ⟨o1, o2⟩ hwk) (cwV 1 hts gd_n_show_410_n_spread rfl rfl rfl dd_n_spread ⟨Nat.le_of_ble_eq_true rfl, Nat.le_of_ble_eq_true rfl⟩) (preV hP hK hD hE (ci := 12) (q0 := 0) rfl rfl) rfl rfl hl.1 rfl (lv_room (Nat.le_of_ble_eq_true rfl)) dX12_show_86 ⟨Nat.le_of_ble_eq_true rfl, Nat.le_of_ble_eq_true rfl⟩) hD hS hA (fun z188_ τ187_ H locs hq hP hD hS => ?_)
    obtain ⟨hI189_, hx190_, f191_, f192_, f193_⟩ := hq
    have Xτ187_ : eqx [45, 46] τ187_ σ := eqx.tr hx190_ eqx.rf rg_503
    have qq194_ : (τ187_.1 29).toInt = ((σ.1 29) : Int32).toInt := congrArg Int32.toInt ((show τ187_.1 29 = (σ.1 29) from ((hx190_ 29 rg_504).1).trans rfl))
    refine W.widen (k := 0) (n := 0) (Nat.le_of_ble_eq_true rfl) (Nat.le_of_ble_eq_true rfl) ?_
    have E14 : τ187_.2.1 14 = σ.2.1 14 := (hx190_ 14 rg_505).2.1
    have E15 : τ187_.2.1 15 = σ.2.1 15 := (hx190_ 15 rg_506).2.1
    have E16 : τ187_.2.1 16 = σ.2.1 16 := (hx190_ 16 rg_507).2.1
    have E17 : τ187_.2.1 17 = σ.2.1 17 := (hx190_ 17 rg_508).2.1
    have E18 : τ187_.2.1 18 = σ.2.1 18 := (hx190_ 18 rg_509).2.1
    have E19 : τ187_.2.1 19 = σ.2.1 19 := (hx190_ 19 rg_510).2.1
    have E35 : τ187_.2.1 35 = σ.2.1 35 := (hx190_ 35 rg_511).2.1
    have E27 : τ187_.2.2.1 27 = σ.2.2.1 27 := (hx190_ 27 rg_512).2.2.1
    have E28 : τ187_.2.2.1 28 = σ.2.2.1 28 := (hx190_ 28 rg_513).2.2.1
    have E43 : τ187_.2.2.1 43 = σ.2.2.1 43 := (hx190_ 43 rg_514).2.2.1
    have E44 : τ187_.2.2.1 44 = σ.2.2.1 44 := (hx190_ 44 rg_515).2.2.1
    have E29 : τ187_.1 29 = σ.1 29 := (hx190_ 29 rg_504).1
    have Ecor : cor τ187_ = cor σ := cor_x hx190_ rg_516
    have EcoJ : coJ τ187_ = coJ σ := coJ_x hx190_ rg_517
    refine lv_if_ne (tgt := 94) hx hb dX12_show_89 rfl (fun c195_ => ?_) (fun c195_ => ?_)
    · have tc195_ := (show z188_.toInt ≠ 0 from ti_ne rfl rg_11 c195_)
      refine lv_iload hx hb dX12_show_94 (lv_at hl 0 rfl) ?_
      refine lv_if_ne (tgt := 196) hx hb dX12_show_96 rfl (fun _ => ?_) (fun cc => absurd cc (by decide))
      refine lv_iload hx hb dX12_show_196 (lv_at hl 0 rfl) ?_
      refine lv_iconst (v := 1) hx hb dX12_show_198 rg_6 ?_
      refine lv_icmp_ne (tgt := 221) hx hb dX12_show_199 rfl (fun _ => ?_) (fun cc => absurd cc (by decide))
      refine lv_iload hx hb dX12_show_221 (lv_at hl 0 rfl) ?_
      refine lv_iconst (v := 2) hx hb dX12_show_223 rg_19 ?_
      refine lv_icmp_ne (tgt := 238) hx hb dX12_show_224 rfl (fun _ => ?_) (fun cc => absurd cc (by decide))
      refine lv_iload hx hb dX12_show_238 (lv_at hl 0 rfl) ?_
      refine lv_iconst (v := 5) hx hb dX12_show_240 rg_14 ?_
      refine lv_icmp_eq (tgt := 251) hx hb dX12_show_241 rfl (fun cc => absurd cc (by decide)) (fun _ => ?_)
      refine lv_iload hx hb dX12_show_244 (lv_at hl 0 rfl) ?_
      refine lv_bipush (v := 6) hx hb dX12_show_246 rg_55 ?_
      refine lv_icmp_ne (tgt := 274) hx hb dX12_show_248 rfl (fun _ => ?_) (fun cc => absurd cc (by decide))
      refine lv_iload hx hb dX12_show_274 (lv_at hl 0 rfl) ?_
      refine lv_iconst (v := 3) hx hb dX12_show_276 rg_16 ?_
      refine lv_icmp_ne (tgt := 331) hx hb dX12_show_277 rfl (fun _ => ?_) (fun cc => absurd cc (by decide))
      refine lv_iconst (v := 1) hx hb dX12_show_331 rg_6 ?_
      rw [hQ]
      have o102 : ¬ z188_.toInt = 0 := by omega
      have R198_ : shOk (σ.1 29).toNatClampNeg (cor σ) (σ.2.2.1 43) (σ.2.2.1 44) (σ.2.1 37 st9.toNatClampNeg) st9.toNatClampNeg := Or.inr (by rcases f193_ with q | q; exact q.2; exact absurd q.1 o102)
      have o103 : z4_.toInt < 0 := by omega
      have R196_ : (τ187_.2.2.2 45) = shLo (σ.1 29).toNatClampNeg (cor σ) (coJ σ) (σ.2.2.1 43) (σ.2.2.1 44) (σ.2.1 37 st9.toNatClampNeg) st9.toNatClampNeg := by rw [(sh_n (B := (σ.1 29).toNatClampNeg) (T := cor σ) (J := coJ σ) (L := σ.2.2.1 43) (H := σ.2.2.1 44) (j := st9.toNatClampNeg) (by rw [EC]; exact o103)).1]; exact f191_
      have R197_ : (τ187_.2.2.2 46) = shHi (σ.1 29).toNatClampNeg (cor σ) (coJ σ) (σ.2.2.1 43) (σ.2.2.1 44) (σ.2.1 37 st9.toNatClampNeg) st9.toNatClampNeg := by rw [(sh_n (B := (σ.1 29).toNatClampNeg) (T := cor σ) (J := coJ σ) (L := σ.2.2.1 43) (H := σ.2.2.1 44) (j := st9.toNatClampNeg) (by rw [EC]; exact o103)).2]; exact f192_
      exact W.zret (v := 1) hx hb hr rfl (fun t ht hW => ⟨⟨1, τ187_, rfl, ⟨hI189_, Xτ187_, Or.inl ⟨rg_18, R198_, R196_, R197_⟩⟩, wEn_of hP (hK.sub [] rfl) hD ht hW⟩, hS.F ht⟩) hS.2.2 dX12_show_332
    · have tc195_ := (show z188_.toInt = 0 from ti_eq rfl rg_11 c195_)
      refine lv_iconst (v := 0) hx hb dX12_show_92 rg_0 ?_
      rw [hQ]
      have o104 : ¬ z188_.toInt = 1 := by omega
      have o105 : z4_.toInt < 0 := by omega
      have R199_ : ¬ shOk (σ.1 29).toNatClampNeg (cor σ) (σ.2.2.1 43) (σ.2.2.1 44) (σ.2.1 37 st9.toNatClampNeg) st9.toNatClampNeg := fun h7 => by rcases f193_ with q | q; exact absurd q.1 o104; exact h7.elim (fun h6 => absurd h6 (by rw [EC]; exact on_ng o105)) q.2
      exact W.zret (v := 0) hx hb hr rfl (fun t ht hW => ⟨⟨0, τ187_, rfl, ⟨hI189_, Xτ187_, Or.inr ⟨rg_11, R199_⟩⟩, wEn_of hP (hK.sub [] rfl) hD ht hW⟩, hS.F ht⟩) hS.2.2 dX12_show_93

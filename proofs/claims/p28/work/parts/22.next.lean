theorem dX12_next_156 : decode cX12_next 156 = .ok (.iload_n 2, 1) := by decide +kernel
theorem dX12_next_157 : decode cX12_next 157 = .ok (.aload_n 0, 1) := by decide +kernel
theorem dX12_next_158 : decode cX12_next 158 = .ok (.getfield 189, 3) := by decide +kernel
theorem dX12_next_161 : decode cX12_next 161 = .ok (.if_icmp .ge 38, 3) := by decide +kernel
theorem dX12_next_199 : decode cX12_next 199 = .ok (.aload_n 0, 1) := by decide +kernel
theorem dX12_next_200 : decode cX12_next 200 = .ok (.aload_n 0, 1) := by decide +kernel
theorem dX12_next_201 : decode cX12_next 201 = .ok (.getfield 189, 3) := by decide +kernel
theorem dX12_next_204 : decode cX12_next 204 = .ok (.aload_n 0, 1) := by decide +kernel
theorem dX12_next_205 : decode cX12_next 205 = .ok (.getfield 192, 3) := by decide +kernel
theorem dX12_next_208 : decode cX12_next 208 = .ok (.isub, 1) := by decide +kernel
theorem dX12_next_209 : decode cX12_next 209 = .ok (.bipush 8, 2) := by decide +kernel
theorem dX12_next_211 : decode cX12_next 211 = .ok (.if_icmp .le 7, 3) := by decide +kernel
theorem dX12_next_218 : decode cX12_next 218 = .ok (.aload_n 0, 1) := by decide +kernel
theorem dX12_next_219 : decode cX12_next 219 = .ok (.getfield 206, 3) := by decide +kernel
theorem dX12_next_222 : decode cX12_next 222 = .ok (.invokestatic 210, 3) := by decide +kernel
theorem dX12_next_225 : decode cX12_next 225 = .ok (.ifCond .eq 7, 3) := by decide +kernel
theorem dX12_next_232 : decode cX12_next 232 = .ok (.iconst 2, 1) := by decide +kernel
theorem dX12_next_233 : decode cX12_next 233 = .ok (.putfield 199, 3) := by decide +kernel
theorem dX12_next_236 : decode cX12_next 236 = .ok (.goto 146, 3) := by decide +kernel
theorem dX12_next_382 : decode cX12_next 382 = .ok (.return_, 1) := by decide +kernel
theorem dX12_next_228 : decode cX12_next 228 = .ok (.iconst 3, 1) := by decide +kernel
theorem dX12_next_229 : decode cX12_next 229 = .ok (.goto 4, 3) := by decide +kernel
theorem dX12_next_214 : decode cX12_next 214 = .ok (.iconst 1, 1) := by decide +kernel
theorem dX12_next_215 : decode cX12_next 215 = .ok (.goto 18, 3) := by decide +kernel
theorem dX12_next_164 : decode cX12_next 164 = .ok (.iload_n 2, 1) := by decide +kernel
theorem dX12_next_165 : decode cX12_next 165 = .ok (.aload_n 0, 1) := by decide +kernel
theorem dX12_next_166 : decode cX12_next 166 = .ok (.getfield 192, 3) := by decide +kernel
theorem dX12_next_169 : decode cX12_next 169 = .ok (.bipush 8, 2) := by decide +kernel
theorem dX12_next_171 : decode cX12_next 171 = .ok (.iadd, 1) := by decide +kernel
theorem dX12_next_172 : decode cX12_next 172 = .ok (.if_icmp .ge 27, 3) := by decide +kernel
theorem dX12_next_175 : decode cX12_next 175 = .ok (.aload_n 0, 1) := by decide +kernel
theorem dX12_next_176 : decode cX12_next 176 = .ok (.aload_n 0, 1) := by decide +kernel
theorem dX12_next_177 : decode cX12_next 177 = .ok (.getfield 206, 3) := by decide +kernel
theorem dX12_next_180 : decode cX12_next 180 = .ok (.bipush 8, 2) := by decide +kernel
theorem dX12_next_182 : decode cX12_next 182 = .ok (.lshl, 1) := by decide +kernel
theorem dX12_next_183 : decode cX12_next 183 = .ok (.aload_n 0, 1) := by decide +kernel
theorem dX12_next_184 : decode cX12_next 184 = .ok (.iload_n 2, 1) := by decide +kernel
theorem dX12_next_185 : decode cX12_next 185 = .ok (.invokevirtual 195, 3) := by decide +kernel
theorem dX12_next_188 : decode cX12_next 188 = .ok (.i2l, 1) := by decide +kernel
theorem dX12_next_189 : decode cX12_next 189 = .ok (.lor, 1) := by decide +kernel
theorem dX12_next_190 : decode cX12_next 190 = .ok (.putfield 206, 3) := by decide +kernel
theorem dX12_next_193 : decode cX12_next 193 = .ok (.iinc 2 1, 3) := by decide +kernel
theorem dX12_next_196 : decode cX12_next 196 = .ok (.goto (-40), 3) := by decide +kernel
theorem dX12_next_119 : decode cX12_next 119 = .ok (.aload_n 0, 1) := by decide +kernel
theorem dX12_next_120 : decode cX12_next 120 = .ok (.aload_n 0, 1) := by decide +kernel
theorem dX12_next_121 : decode cX12_next 121 = .ok (.getfield 189, 3) := by decide +kernel
theorem dX12_next_124 : decode cX12_next 124 = .ok (.invokevirtual 195, 3) := by decide +kernel
theorem dX12_next_127 : decode cX12_next 127 = .ok (.invokestatic 202, 3) := by decide +kernel
theorem dX12_next_130 : decode cX12_next 130 = .ok (.ifCond .eq 16, 3) := by decide +kernel
theorem dX12_next_146 : decode cX12_next 146 = .ok (.aload_n 0, 1) := by decide +kernel
theorem dX12_next_147 : decode cX12_next 147 = .ok (.lconst 0, 1) := by decide +kernel
theorem dX12_next_148 : decode cX12_next 148 = .ok (.putfield 206, 3) := by decide +kernel
theorem dX12_next_151 : decode cX12_next 151 = .ok (.aload_n 0, 1) := by decide +kernel
theorem dX12_next_152 : decode cX12_next 152 = .ok (.getfield 192, 3) := by decide +kernel
theorem dX12_next_155 : decode cX12_next 155 = .ok (.istore_n 2, 1) := by decide +kernel
theorem dX12_next_133 : decode cX12_next 133 = .ok (.aload_n 0, 1) := by decide +kernel
theorem dX12_next_134 : decode cX12_next 134 = .ok (.dup, 1) := by decide +kernel
theorem dX12_next_135 : decode cX12_next 135 = .ok (.getfield 189, 3) := by decide +kernel
theorem dX12_next_138 : decode cX12_next 138 = .ok (.iconst 1, 1) := by decide +kernel
theorem dX12_next_139 : decode cX12_next 139 = .ok (.iadd, 1) := by decide +kernel
theorem dX12_next_140 : decode cX12_next 140 = .ok (.putfield 189, 3) := by decide +kernel
theorem dX12_next_143 : decode cX12_next 143 = .ok (.goto (-24), 3) := by decide +kernel
theorem dX12_next_259 : decode cX12_next 259 = .ok (.aload_n 0, 1) := by decide +kernel
theorem dX12_next_260 : decode cX12_next 260 = .ok (.aload_n 0, 1) := by decide +kernel
theorem dX12_next_261 : decode cX12_next 261 = .ok (.getfield 189, 3) := by decide +kernel
theorem dX12_next_264 : decode cX12_next 264 = .ok (.invokevirtual 195, 3) := by decide +kernel
theorem dX12_next_267 : decode cX12_next 267 = .ok (.invokestatic 214, 3) := by decide +kernel
theorem dX12_next_270 : decode cX12_next 270 = .ok (.ifCond .eq 52, 3) := by decide +kernel
theorem dX12_next_322 : decode cX12_next 322 = .ok (.aload_n 0, 1) := by decide +kernel
theorem dX12_next_323 : decode cX12_next 323 = .ok (.aload_n 0, 1) := by decide +kernel
theorem dX12_next_324 : decode cX12_next 324 = .ok (.getfield 189, 3) := by decide +kernel
theorem dX12_next_327 : decode cX12_next 327 = .ok (.aload_n 0, 1) := by decide +kernel
theorem dX12_next_328 : decode cX12_next 328 = .ok (.getfield 192, 3) := by decide +kernel
theorem dX12_next_331 : decode cX12_next 331 = .ok (.isub, 1) := by decide +kernel
theorem dX12_next_332 : decode cX12_next 332 = .ok (.iconst 4, 1) := by decide +kernel
theorem dX12_next_333 : decode cX12_next 333 = .ok (.if_icmp .gt 17, 3) := by decide +kernel
theorem dX12_next_350 : decode cX12_next 350 = .ok (.iconst 1, 1) := by decide +kernel
theorem dX12_next_351 : decode cX12_next 351 = .ok (.goto 4, 3) := by decide +kernel
theorem dX12_next_355 : decode cX12_next 355 = .ok (.putfield 199, 3) := by decide +kernel
theorem dX12_next_358 : decode cX12_next 358 = .ok (.goto 24, 3) := by decide +kernel
theorem dX12_next_336 : decode cX12_next 336 = .ok (.aload_n 0, 1) := by decide +kernel
theorem dX12_next_337 : decode cX12_next 337 = .ok (.aload_n 0, 1) := by decide +kernel
theorem dX12_next_338 : decode cX12_next 338 = .ok (.getfield 189, 3) := by decide +kernel
theorem dX12_next_341 : decode cX12_next 341 = .ok (.invokevirtual 195, 3) := by decide +kernel
theorem dX12_next_344 : decode cX12_next 344 = .ok (.invokestatic 202, 3) := by decide +kernel
theorem dX12_next_347 : decode cX12_next 347 = .ok (.ifCond .eq 7, 3) := by decide +kernel
theorem dX12_next_354 : decode cX12_next 354 = .ok (.iconst 4, 1) := by decide +kernel
theorem dX12_next_273 : decode cX12_next 273 = .ok (.aload_n 0, 1) := by decide +kernel
theorem dX12_next_274 : decode cX12_next 274 = .ok (.getfield 189, 3) := by decide +kernel
theorem dX12_next_277 : decode cX12_next 277 = .ok (.aload_n 0, 1) := by decide +kernel
theorem dX12_next_278 : decode cX12_next 278 = .ok (.getfield 192, 3) := by decide +kernel
theorem dX12_next_281 : decode cX12_next 281 = .ok (.isub, 1) := by decide +kernel
theorem dX12_next_282 : decode cX12_next 282 = .ok (.iconst 4, 1) := by decide +kernel
theorem dX12_next_283 : decode cX12_next 283 = .ok (.if_icmp .ge 26, 3) := by decide +kernel
theorem dX12_next_309 : decode cX12_next 309 = .ok (.aload_n 0, 1) := by decide +kernel
theorem dX12_next_310 : decode cX12_next 310 = .ok (.dup, 1) := by decide +kernel
theorem dX12_next_311 : decode cX12_next 311 = .ok (.getfield 189, 3) := by decide +kernel
theorem dX12_next_314 : decode cX12_next 314 = .ok (.iconst 1, 1) := by decide +kernel
theorem dX12_next_315 : decode cX12_next 315 = .ok (.iadd, 1) := by decide +kernel
theorem dX12_next_316 : decode cX12_next 316 = .ok (.putfield 189, 3) := by decide +kernel
theorem dX12_next_319 : decode cX12_next 319 = .ok (.goto (-60), 3) := by decide +kernel
theorem dX12_next_286 : decode cX12_next 286 = .ok (.aload_n 0, 1) := by decide +kernel
theorem dX12_next_287 : decode cX12_next 287 = .ok (.bipush 10, 2) := by decide +kernel
theorem dX12_next_289 : decode cX12_next 289 = .ok (.aload_n 0, 1) := by decide +kernel
theorem dX12_next_290 : decode cX12_next 290 = .ok (.getfield 217, 3) := by decide +kernel
theorem dX12_next_293 : decode cX12_next 293 = .ok (.imul, 1) := by decide +kernel
theorem dX12_next_294 : decode cX12_next 294 = .ok (.aload_n 0, 1) := by decide +kernel
theorem dX12_next_295 : decode cX12_next 295 = .ok (.aload_n 0, 1) := by decide +kernel
theorem dX12_next_296 : decode cX12_next 296 = .ok (.getfield 189, 3) := by decide +kernel
theorem dX12_next_299 : decode cX12_next 299 = .ok (.invokevirtual 195, 3) := by decide +kernel
theorem dX12_next_302 : decode cX12_next 302 = .ok (.iadd, 1) := by decide +kernel
theorem dX12_next_303 : decode cX12_next 303 = .ok (.bipush 48, 2) := by decide +kernel
theorem dX12_next_305 : decode cX12_next 305 = .ok (.isub, 1) := by decide +kernel
theorem dX12_next_306 : decode cX12_next 306 = .ok (.putfield 217, 3) := by decide +kernel
theorem dX12_next_8 : decode cX12_next 8 = .ok (.aload_n 0, 1) := by decide +kernel
theorem dX12_next_9 : decode cX12_next 9 = .ok (.getfield 192, 3) := by decide +kernel
theorem dX12_next_12 : decode cX12_next 12 = .ok (.aload_n 0, 1) := by decide +kernel
theorem dX12_next_13 : decode cX12_next 13 = .ok (.getfield 137, 3) := by decide +kernel
theorem dX12_next_16 : decode cX12_next 16 = .ok (.if_icmp .ge 42, 3) := by decide +kernel
theorem dX12_next_58 : decode cX12_next 58 = .ok (.aload_n 0, 1) := by decide +kernel
theorem dX12_next_59 : decode cX12_next 59 = .ok (.aload_n 0, 1) := by decide +kernel
theorem dX12_next_60 : decode cX12_next 60 = .ok (.getfield 192, 3) := by decide +kernel
theorem dX12_next_63 : decode cX12_next 63 = .ok (.invokevirtual 195, 3) := by decide +kernel
theorem dX12_next_66 : decode cX12_next 66 = .ok (.istore_n 1, 1) := by decide +kernel
theorem dX12_next_67 : decode cX12_next 67 = .ok (.aload_n 0, 1) := by decide +kernel
theorem dX12_next_68 : decode cX12_next 68 = .ok (.aload_n 0, 1) := by decide +kernel
theorem dX12_next_69 : decode cX12_next 69 = .ok (.getfield 192, 3) := by decide +kernel
theorem dX12_next_72 : decode cX12_next 72 = .ok (.iconst 1, 1) := by decide +kernel
theorem dX12_next_73 : decode cX12_next 73 = .ok (.iadd, 1) := by decide +kernel
theorem dX12_next_74 : decode cX12_next 74 = .ok (.putfield 189, 3) := by decide +kernel
theorem dX12_next_77 : decode cX12_next 77 = .ok (.aload_n 0, 1) := by decide +kernel
theorem dX12_next_78 : decode cX12_next 78 = .ok (.getfield 192, 3) := by decide +kernel
theorem dX12_next_81 : decode cX12_next 81 = .ok (.aload_n 0, 1) := by decide +kernel
theorem dX12_next_82 : decode cX12_next 82 = .ok (.getfield 137, 3) := by decide +kernel
theorem dX12_next_85 : decode cX12_next 85 = .ok (.if_icmp .lt 27, 3) := by decide +kernel
theorem dX12_next_112 : decode cX12_next 112 = .ok (.iload_n 1, 1) := by decide +kernel
theorem dX12_next_113 : decode cX12_next 113 = .ok (.invokestatic 202, 3) := by decide +kernel
theorem dX12_next_116 : decode cX12_next 116 = .ok (.ifCond .eq 123, 3) := by decide +kernel
theorem dX12_next_239 : decode cX12_next 239 = .ok (.iload_n 1, 1) := by decide +kernel
theorem dX12_next_240 : decode cX12_next 240 = .ok (.invokestatic 214, 3) := by decide +kernel
theorem dX12_next_243 : decode cX12_next 243 = .ok (.ifCond .eq 118, 3) := by decide +kernel
theorem dX12_next_361 : decode cX12_next 361 = .ok (.aload_n 0, 1) := by decide +kernel
theorem dX12_next_362 : decode cX12_next 362 = .ok (.iload_n 1, 1) := by decide +kernel
theorem dX12_next_363 : decode cX12_next 363 = .ok (.bipush 59, 2) := by decide +kernel
theorem dX12_next_365 : decode cX12_next 365 = .ok (.if_icmp .eq 9, 3) := by decide +kernel
theorem dX12_next_374 : decode cX12_next 374 = .ok (.iconst 5, 1) := by decide +kernel
theorem dX12_next_375 : decode cX12_next 375 = .ok (.goto 4, 3) := by decide +kernel
theorem dX12_next_379 : decode cX12_next 379 = .ok (.putfield 199, 3) := by decide +kernel
theorem dX12_next_368 : decode cX12_next 368 = .ok (.iload_n 1, 1) := by decide +kernel
theorem dX12_next_369 : decode cX12_next 369 = .ok (.bipush 45, 2) := by decide +kernel
theorem dX12_next_371 : decode cX12_next 371 = .ok (.if_icmp .ne 7, 3) := by decide +kernel
theorem dX12_next_378 : decode cX12_next 378 = .ok (.iconst 1, 1) := by decide +kernel
theorem dX12_next_246 : decode cX12_next 246 = .ok (.aload_n 0, 1) := by decide +kernel
theorem dX12_next_247 : decode cX12_next 247 = .ok (.iconst 0, 1) := by decide +kernel
theorem dX12_next_248 : decode cX12_next 248 = .ok (.putfield 217, 3) := by decide +kernel
theorem dX12_next_251 : decode cX12_next 251 = .ok (.aload_n 0, 1) := by decide +kernel
theorem dX12_next_252 : decode cX12_next 252 = .ok (.aload_n 0, 1) := by decide +kernel
theorem dX12_next_253 : decode cX12_next 253 = .ok (.getfield 192, 3) := by decide +kernel
theorem dX12_next_256 : decode cX12_next 256 = .ok (.putfield 189, 3) := by decide +kernel
theorem dX12_next_88 : decode cX12_next 88 = .ok (.aload_n 0, 1) := by decide +kernel
theorem dX12_next_89 : decode cX12_next 89 = .ok (.iconst 0, 1) := by decide +kernel
theorem dX12_next_90 : decode cX12_next 90 = .ok (.putfield 199, 3) := by decide +kernel
theorem dX12_next_93 : decode cX12_next 93 = .ok (.aload_n 0, 1) := by decide +kernel
theorem dX12_next_94 : decode cX12_next 94 = .ok (.aload_n 0, 1) := by decide +kernel
theorem dX12_next_95 : decode cX12_next 95 = .ok (.getfield 137, 3) := by decide +kernel
theorem dX12_next_98 : decode cX12_next 98 = .ok (.putfield 192, 3) := by decide +kernel
theorem dX12_next_101 : decode cX12_next 101 = .ok (.aload_n 0, 1) := by decide +kernel
theorem dX12_next_102 : decode cX12_next 102 = .ok (.aload_n 0, 1) := by decide +kernel
theorem dX12_next_103 : decode cX12_next 103 = .ok (.getfield 137, 3) := by decide +kernel
theorem dX12_next_106 : decode cX12_next 106 = .ok (.putfield 189, 3) := by decide +kernel
theorem dX12_next_109 : decode cX12_next 109 = .ok (.goto 273, 3) := by decide +kernel
theorem dX12_next_19 : decode cX12_next 19 = .ok (.aload_n 0, 1) := by decide +kernel
theorem dX12_next_20 : decode cX12_next 20 = .ok (.aload_n 0, 1) := by decide +kernel
theorem dX12_next_21 : decode cX12_next 21 = .ok (.getfield 192, 3) := by decide +kernel
theorem dX12_next_24 : decode cX12_next 24 = .ok (.invokevirtual 195, 3) := by decide +kernel
theorem dX12_next_27 : decode cX12_next 27 = .ok (.bipush 32, 2) := by decide +kernel
theorem dX12_next_29 : decode cX12_next 29 = .ok (.if_icmp .eq 16, 3) := by decide +kernel
theorem dX12_next_45 : decode cX12_next 45 = .ok (.aload_n 0, 1) := by decide +kernel
theorem dX12_next_46 : decode cX12_next 46 = .ok (.dup, 1) := by decide +kernel
theorem dX12_next_47 : decode cX12_next 47 = .ok (.getfield 192, 3) := by decide +kernel
theorem dX12_next_50 : decode cX12_next 50 = .ok (.iconst 1, 1) := by decide +kernel
theorem dX12_next_51 : decode cX12_next 51 = .ok (.iadd, 1) := by decide +kernel
theorem dX12_next_52 : decode cX12_next 52 = .ok (.putfield 192, 3) := by decide +kernel
theorem dX12_next_55 : decode cX12_next 55 = .ok (.goto (-47), 3) := by decide +kernel
theorem dX12_next_32 : decode cX12_next 32 = .ok (.aload_n 0, 1) := by decide +kernel
theorem dX12_next_33 : decode cX12_next 33 = .ok (.aload_n 0, 1) := by decide +kernel
theorem dX12_next_34 : decode cX12_next 34 = .ok (.getfield 192, 3) := by decide +kernel
theorem dX12_next_37 : decode cX12_next 37 = .ok (.invokevirtual 195, 3) := by decide +kernel
theorem dX12_next_40 : decode cX12_next 40 = .ok (.bipush 10, 2) := by decide +kernel
theorem dX12_next_42 : decode cX12_next 42 = .ok (.if_icmp .ne 16, 3) := by decide +kernel
theorem dX12_next_0 : decode cX12_next 0 = .ok (.aload_n 0, 1) := by decide +kernel
theorem dX12_next_1 : decode cX12_next 1 = .ok (.aload_n 0, 1) := by decide +kernel
theorem dX12_next_2 : decode cX12_next 2 = .ok (.getfield 189, 3) := by decide +kernel
theorem dX12_next_5 : decode cX12_next 5 = .ok (.putfield 192, 3) := by decide +kernel
theorem rg_22 : 3 ∉ [6, 7, 8, 9, 10] := by decide
theorem rg_23 : Int32.ofInt 8 = 8 := by decide
theorem rg_24 : (8 : Int32).toInt = 8 := by decide
theorem rg_25 : (0 : Int) ≤ (2 : Int32).toInt ∧ (2 : Int32).toInt ≤ 5 := by decide
theorem rg_26 : 8 ∈ [6, 7, 8, 9, 10] := by decide
theorem rg_27 : (0 : Int) ≤ (3 : Int32).toInt ∧ (3 : Int32).toInt ≤ 5 := by decide
theorem rg_28 : (0 : Int) ≤ (1 : Int32).toInt ∧ (1 : Int32).toInt ≤ 5 := by decide
theorem rg_29 : 10 ∈ [6, 7, 8, 9, 10] := by decide
theorem rg_30 : 7 ∈ [6, 7, 8, 9, 10] := by decide
theorem rg_31 : Int32.ofInt 4 = 4 := by decide
theorem rg_32 : (4 : Int32).toInt = 4 := by decide
theorem rg_33 : (0 : Int) ≤ (4 : Int32).toInt ∧ (4 : Int32).toInt ≤ 5 := by decide
theorem rg_34 : Int32.ofInt 10 = 10 := by decide
theorem rg_35 : 9 ∈ [6, 7, 8, 9, 10] := by decide
theorem rg_36 : Int32.ofInt 59 = 59 := by decide
theorem rg_37 : (59 : Int32).toInt = 59 := by decide
theorem rg_38 : (0 : Int) ≤ (5 : Int32).toInt ∧ (5 : Int32).toInt ≤ 5 := by decide
theorem rg_39 : Int32.ofInt 45 = 45 := by decide
theorem rg_40 : (45 : Int32).toInt = 45 := by decide
theorem rg_41 : (0 : Int) ≤ (0 : Int32).toInt ∧ (0 : Int32).toInt ≤ 5 := by decide
theorem rg_42 : 6 ∈ [6, 7, 8, 9, 10] := by decide
theorem rg_43 : Int32.ofInt 32 = 32 := by decide
theorem rg_44 : (32 : Int32).toInt = 32 := by decide
theorem rg_45 : (10 : Int32).toInt = 10 := by decide
def ow_n_next : List Cond := [.fieldLink RX12 189 "NearEnoughModel" "end" "I", .fieldLink RX12 192 "NearEnoughModel" "at" "I", .fieldLink RX12 206 "NearEnoughModel" "name" "J", .fieldLink RX12 199 "NearEnoughModel" "token" "I", .fieldLink RX12 217 "NearEnoughModel" "number" "I", .fieldLink RX12 137 "NearEnoughModel" "size" "I"]
def vs_n_next : List Cond := .code yX12_next cX12_next 3 none :: (ow_n_next ++ (([.methodLink RX12 210 yX12_isKept, .static yX12_isKept, .initialized yX12_isKept.cls] : List Cond) ++ (vs_n_isKept ++ (([.methodLink RX12 195 yX12_sign, .instanceMethod yX12_sign, .selects RX12 yX12_sign yX12_sign, .initialized RX12] : List Cond) ++ (vs_n_sign ++ (([.methodLink RX12 202 yX12_isLetter, .static yX12_isLetter, .initialized yX12_isLetter.cls] : List Cond) ++ (vs_n_isLetter ++ (([.methodLink RX12 214 yX12_isDigit, .static yX12_isDigit, .initialized yX12_isDigit.cls] : List Cond) ++ (vs_n_isDigit ++ (wsX120))))))))))
theorem vg_n_next : vs_n_next.all goodWord = true := by decide +kernel
theorem dd_n_next : yX12_next.cls = RX12 ∧ yX12_next.cls ≠ "java/lang/invoke/MethodHandle" ∧ yX12_next.cls ≠ "java/lang/invoke/VarHandle" ∧ (parseMethodDescriptor yX12_next.desc).map (fun d => d.parameters.length) = some 0 := by decide +kernel
def rm_n_next : Room := { frames := 1, cells := 0, slots := 0, locals := 22 }
theorem gd_n_next_210_n_isKept : GoodIn vs_n_next (va_wsS RX12 210 yX12_isKept vs_n_isKept) := goodIn_app (goodIn_sub (fun w h => (List.mem_cons_of_mem _ (List.mem_append_right _ (List.mem_append_left _ h)))) (by decide +kernel)) (goodIn_sub (fun w h => (List.mem_cons_of_mem _ (List.mem_append_right _ (List.mem_append_right _ (List.mem_append_left _ h))))) vg_n_isKept)
theorem gd_n_next_195_n_sign : GoodIn vs_n_next (wsV RX12 195 RX12 yX12_sign vs_n_sign) := goodIn_app (goodIn_sub (fun w h => (List.mem_cons_of_mem _ (List.mem_append_right _ (List.mem_append_right _ (List.mem_append_right _ (List.mem_append_left _ h)))))) (by decide +kernel)) (goodIn_sub (fun w h => (List.mem_cons_of_mem _ (List.mem_append_right _ (List.mem_append_right _ (List.mem_append_right _ (List.mem_append_right _ (List.mem_append_left _ h))))))) vg_n_sign)
theorem gd_n_next_202_n_isLetter : GoodIn vs_n_next (va_wsS RX12 202 yX12_isLetter vs_n_isLetter) := goodIn_app (goodIn_sub (fun w h => (List.mem_cons_of_mem _ (List.mem_append_right _ (List.mem_append_right _ (List.mem_append_right _ (List.mem_append_right _ (List.mem_append_right _ (List.mem_append_left _ h)))))))) (by decide +kernel)) (goodIn_sub (fun w h => (List.mem_cons_of_mem _ (List.mem_append_right _ (List.mem_append_right _ (List.mem_append_right _ (List.mem_append_right _ (List.mem_append_right _ (List.mem_append_right _ (List.mem_append_left _ h))))))))) vg_n_isLetter)
theorem gd_n_next_214_n_isDigit : GoodIn vs_n_next (va_wsS RX12 214 yX12_isDigit vs_n_isDigit) := goodIn_app (goodIn_sub (fun w h => (List.mem_cons_of_mem _ (List.mem_append_right _ (List.mem_append_right _ (List.mem_append_right _ (List.mem_append_right _ (List.mem_append_right _ (List.mem_append_right _ (List.mem_append_right _ (List.mem_append_left _ h)))))))))) (by decide +kernel)) (goodIn_sub (fun w h => (List.mem_cons_of_mem _ (List.mem_append_right _ (List.mem_append_right _ (List.mem_append_right _ (List.mem_append_right _ (List.mem_append_right _ (List.mem_append_right _ (List.mem_append_right _ (List.mem_append_right _ (List.mem_append_left _ h))))))))))) vg_n_isDigit)
set_option maxHeartbeats 4000000 in
set_option maxRecDepth 100000 in
/-- next() -/
theorem n_next (l : Launch) (dC : Nat → ClassId) (dI : Nat → Nat → Nat) (h : Nat) (ad : Nat → Nat) (cl : Nat → ClassId) (sz : Nat) (σ : MS)  (hI : Inv σ) (hes : Es σ) : Met l yX12_next vs_n_next rm_n_next (va_Pc [.ref h] (wSt dC dI (mW h ad cl σ) (mT cl) sz)) (va_Qv (fun (τ : MS) => Inv τ ∧ eqx [6, 7, 8, 9, 10] τ σ ∧ Pg τ σ ∧ Lx τ σ) (fun (τ : MS) => wEn dC dI (va_A (mW h ad cl σ) sz) (mW h ad cl τ) []) (va_A (mW h ad cl σ) sz)) 0 0 (va_A (mW h ad cl σ) sz) := by
  refine Met.ofW (cc := cX12_next) (maxL := 3) (ret := none) (by decide) rfl ?_
  intro p e s m args below meth c s₁ B hml hv
  obtain ⟨rfl, hsz, hP, hK, hD0, hE⟩ := hv
  have hx := B.exec
  have hb := B.bytes
  have hr := B.returns
  have hts := atoms_spec (ws := vs_n_next) B.pre
  have hown : s.vm.findClass RX12 = some m.cls := findClass_of_methodNamed B.named
  have hlocks := B.notSynchronized
  subst hsz
  have hD := hD0.self (sz := s.heap.size)
  generalize hAe : va_A (mW h ad cl σ) s.heap.size = A at hD ⊢
  have hA : ∀ q : Nat, s.heap.size ≤ q → A q := fun q h => by rw [← hAe]; exact Or.inr h
  have hl := lv_entry ([.ref h]) (n := 3) (Nat.le_of_ble_eq_true rfl)
  rw [lg_entry_eq]
  generalize (lg_sl ([.ref h]) ++ List.replicate (3 - (lg_sl ([.ref h])).length) Slot.unset).toArray = ls at hl ⊢
  have hl : lv_has ls 3 [(0, .ref h)] := hl
  have ho := fun w (h : w ∈ ow_n_next) => hts w (List.mem_cons_of_mem _ (List.mem_append_left _ h))
  have hin12 : ∀ w ∈ u_ws RX12 TX12 59, w ∈ vs_n_next := fun w h => (List.mem_cons_of_mem _ (List.mem_append_right _ (List.mem_append_right _ (List.mem_append_right _ (List.mem_append_right _ (List.mem_append_right _ (List.mem_append_right _ (List.mem_append_right _ (List.mem_append_right _ (List.mem_append_right _ h))))))))))
  refine zQ (fun Q hQ => ?_)
  have pt_156 : ∀ (n156 : Nat) (τ : MS) (cv : Int32) (k : Int32) (H : Heap) (locs : List Loc) (ls : Array Slot), ((τ.1 7).toInt - k.toInt).toNat < n156 → (Inv τ) → (eqx [6, 7, 8, 9, 10] τ σ) → ((σ.1 7).toInt ≤ (τ.1 7).toInt ∧ (τ.1 7).toInt ≤ (σ.1 3).toInt) → (0 ≤ k.toInt) → ((σ.1 7).toInt < (τ.1 7).toInt) → va_P (dC, dI) vwCl (mW h ad cl τ) H → va_D A (mW h ad cl τ) → va_S A s.heap H locs → lv_has ls 3 [(0, .ref h), (1, .int cv), (2, .int k)] → W p l e (headSpec vs_n_next rm_n_next).room s m #[Value.ref h] below meth c H locs 0 0 Q (F0 m 156 ls []) := by
    intro n156
    induction n156 with
    | zero => intro τ cv k H locs ls hn156 hIτ hxτ hgτ hk0 hpg hP hD hS hl; exact absurd hn156 (Nat.not_lt_zero _)
    | succ n156 ih156 =>
      intro τ cv k H locs ls hn156 hIτ hxτ hgτ hk0 hpg hP hD hS hl
      have bτ_3 : 0 ≤ (τ.1 3).toInt ∧ (τ.1 3).toInt ≤ 1000 := hIτ.1 3
      have qq1 : (τ.1 3).toInt = ((σ.1 3) : Int32).toInt := congrArg Int32.toInt (((hxτ 3 rg_22).1))
      have bτ_6 : 0 ≤ (τ.1 6).toInt ∧ (τ.1 6).toInt ≤ 1000 := hIτ.1 6
      have bτ_7 : 0 ≤ (τ.1 7).toInt ∧ (τ.1 7).toInt ≤ 1000 := hIτ.1 7
      refine lv_iload_n hx hb dX12_next_156 rfl (lv_at hl 2 rfl) ?_
      refine lv_aload_n hx hb dX12_next_157 rfl (lv_at hl 0 rfl) ?_
      refine va_get (D := (dC, dI)) (ci := 12) (v := .int (τ.1 7)) (C := RX12) (T := TX12) (N := 59) hx hb hts hin12 hown hK hP 0 rfl rfl 7 (Nat.le_of_ble_eq_true rfl) (ho (.fieldLink RX12 189 "NearEnoughModel" "end" "I") (List.mem_of_getElem? (i := 0) rfl)) (fun _ h9 => h9) rfl dX12_next_158 ?_
      have bτ_7 : 0 ≤ (τ.1 7).toInt ∧ (τ.1 7).toInt ≤ 1000 := hIτ.1 7
      refine lv_icmp_ge (tgt := 199) hx hb dX12_next_161 rfl (fun c2 => ?_) (fun c2 => ?_)
      · have tc2 := (show (τ.1 7).toInt ≤ k.toInt from ti_le rfl rfl c2)
        refine lv_aload_n hx hb dX12_next_199 rfl (lv_at hl 0 rfl) ?_
        refine lv_aload_n hx hb dX12_next_200 rfl (lv_at hl 0 rfl) ?_
        refine va_get (D := (dC, dI)) (ci := 12) (v := .int (τ.1 7)) (C := RX12) (T := TX12) (N := 59) hx hb hts hin12 hown hK hP 0 rfl rfl 7 (Nat.le_of_ble_eq_true rfl) (ho (.fieldLink RX12 189 "NearEnoughModel" "end" "I") (List.mem_of_getElem? (i := 0) rfl)) (fun _ h9 => h9) rfl dX12_next_201 ?_
        have bτ_7 : 0 ≤ (τ.1 7).toInt ∧ (τ.1 7).toInt ≤ 1000 := hIτ.1 7
        refine lv_aload_n hx hb dX12_next_204 rfl (lv_at hl 0 rfl) ?_
        refine va_get (D := (dC, dI)) (ci := 12) (v := .int (τ.1 6)) (C := RX12) (T := TX12) (N := 59) hx hb hts hin12 hown hK hP 0 rfl rfl 6 (Nat.le_of_ble_eq_true rfl) (ho (.fieldLink RX12 192 "NearEnoughModel" "at" "I") (List.mem_of_getElem? (i := 1) rfl)) (fun _ h9 => h9) rfl dX12_next_205 ?_
        have bτ_6 : 0 ≤ (τ.1 6).toInt ∧ (τ.1 6).toInt ≤ 1000 := hIτ.1 6
        refine lv_isub hx hb dX12_next_208 ?_
        refine lv_topi (fun z3 ez3 => ?_)
        have o1 : -2147483648 ≤ (τ.1 7).toInt - (τ.1 6).toInt := by omega
        have o2 : (τ.1 7).toInt - (τ.1 6).toInt ≤ 2147483647 := by omega
        have tz3 : z3.toInt = (τ.1 7).toInt - (τ.1 6).toInt := ti_sub ez3 rfl rfl o1 o2
        refine lv_bipush (v := 8) hx hb dX12_next_209 rg_23 ?_
        refine lv_icmp_le (tgt := 218) hx hb dX12_next_211 rfl (fun c4 => ?_) (fun c4 => ?_)
        · have tc4 := (show z3.toInt ≤ 8 from ti_le rfl rg_24 c4)
          refine lv_aload_n hx hb dX12_next_218 rfl (lv_at hl 0 rfl) ?_
          refine va_get (D := (dC, dI)) (ci := 12) (v := .long (τ.2.2.2 10)) (C := RX12) (T := TX12) (N := 59) hx hb hts hin12 hown hK hP 0 rfl rfl 10 (Nat.le_of_ble_eq_true rfl) (ho (.fieldLink RX12 206 "NearEnoughModel" "name" "J") (List.mem_of_getElem? (i := 2) rfl)) (fun _ h9 => h9) rfl dX12_next_219 ?_
          refine zs_i (va_runS (As := [.long (τ.2.2.2 10)]) (rest := [.ref h]) ⟨hx, hb, hml, hown, hts⟩ (n_isKept l dC dI (τ.2.2.2 10)  H.size) (va_cwS 1 hts gd_n_next_210_n_isKept rfl rfl rfl dd_n_isKept ⟨Nat.le_of_ble_eq_true rfl, Nat.le_of_ble_eq_true rfl⟩) (preS (A := A) empP (hK.sub (tys' := []) [] rfl) empD hE) rfl rfl hl.1 rfl (lv_room (Nat.le_of_ble_eq_true rfl)) dX12_next_222 ⟨Nat.le_of_ble_eq_true rfl, Nat.le_of_ble_eq_true rfl⟩) hP hD hS hA (fun z5 H locs hq hP hD hS => ?_)
          obtain f6 := hq
          refine W.widen (k := 0) (n := 0) (Nat.le_of_ble_eq_true rfl) (Nat.le_of_ble_eq_true rfl) ?_
          refine lv_if_eq (tgt := 232) hx hb dX12_next_225 rfl (fun c7 => ?_) (fun c7 => ?_)
          · have tc7 := (show z5.toInt = 0 from ti_eq rfl rg_11 c7)
            refine lv_iconst (v := 2) hx hb dX12_next_232 rg_19 ?_
            refine va_put (D := (dC, dI)) (ci := 12) (v := .int 2) (ty := tyX12 8) (C := RX12) (T := TX12) (N := 59) hx hb hts hin12 tyX12 tyX12_ok nmX12 hown hK hP hD hS 0 rfl rfl 8 (Nat.le_of_ble_eq_true rfl) (ho (.fieldLink RX12 199 "NearEnoughModel" "token" "I") (List.mem_of_getElem? (i := 3) rfl)) (fun _ h9 => h9) rfl (tyX12_ok 8 (Nat.le_of_ble_eq_true rfl)) rfl rfl (Nat.le_of_ble_eq_true rfl) dX12_next_233 (fun H locs hP hD hS => ?_)
            have hP : va_P (dC, dI) vwCl (mW h ad cl (sI τ 8 2)) H := hP
            have hD : va_D A (mW h ad cl (sI τ 8 2)) := hD
            refine lv_goto (tgt := 382) hx hb dX12_next_236 rfl ?_
            rw [hQ]
            have o3 : (σ.1 7).toInt ≤ (τ.1 7).toInt := by omega
            exact W.vret hx hb hr (fun t ht hW => ⟨⟨(sI τ 8 2), rfl, ⟨(Inv.sI hIτ rg_25), (eqx.sI hxτ rg_26), ⟨(show (σ.1 7).toInt ≤ (τ.1 7).toInt from o3), (show ((2 : Int32) : Int32).toInt = 0 ∨ (σ.1 7).toInt < ((τ.1 7) : Int32).toInt by have k9 : (2 : Int32).toInt = 2 := (by decide); omega)⟩, (show _ ∧ _ from ⟨((hxτ 3 rg_22).1), show (σ.1 7).toInt ≤ (τ.1 7).toInt by omega, show (τ.1 7).toInt ≤ (σ.1 3).toInt by omega, Or.inl (show ((2 : Int32) : Int32).toInt = 0 ∨ (σ.1 7).toInt < ((τ.1 7) : Int32).toInt by have k9 : (2 : Int32).toInt = 2 := (by decide); omega)⟩)⟩, wEn_of hP (hK.sub [] rfl) hD ht hW⟩, hS.F ht⟩) hS.2.2 dX12_next_382
          · have tc7 := (show z5.toInt ≠ 0 from ti_ne rfl rg_11 c7)
            refine lv_iconst (v := 3) hx hb dX12_next_228 rg_16 ?_
            refine lv_goto (tgt := 233) hx hb dX12_next_229 rfl ?_
            refine va_put (D := (dC, dI)) (ci := 12) (v := .int 3) (ty := tyX12 8) (C := RX12) (T := TX12) (N := 59) hx hb hts hin12 tyX12 tyX12_ok nmX12 hown hK hP hD hS 0 rfl rfl 8 (Nat.le_of_ble_eq_true rfl) (ho (.fieldLink RX12 199 "NearEnoughModel" "token" "I") (List.mem_of_getElem? (i := 3) rfl)) (fun _ h9 => h9) rfl (tyX12_ok 8 (Nat.le_of_ble_eq_true rfl)) rfl rfl (Nat.le_of_ble_eq_true rfl) dX12_next_233 (fun H locs hP hD hS => ?_)
            have hP : va_P (dC, dI) vwCl (mW h ad cl (sI τ 8 3)) H := hP
            have hD : va_D A (mW h ad cl (sI τ 8 3)) := hD
            refine lv_goto (tgt := 382) hx hb dX12_next_236 rfl ?_
            rw [hQ]
            have o4 : (σ.1 7).toInt ≤ (τ.1 7).toInt := by omega
            exact W.vret hx hb hr (fun t ht hW => ⟨⟨(sI τ 8 3), rfl, ⟨(Inv.sI hIτ rg_27), (eqx.sI hxτ rg_26), ⟨(show (σ.1 7).toInt ≤ (τ.1 7).toInt from o4), (show ((3 : Int32) : Int32).toInt = 0 ∨ (σ.1 7).toInt < ((τ.1 7) : Int32).toInt by have k9 : (3 : Int32).toInt = 3 := (by decide); omega)⟩, (show _ ∧ _ from ⟨((hxτ 3 rg_22).1), show (σ.1 7).toInt ≤ (τ.1 7).toInt by omega, show (τ.1 7).toInt ≤ (σ.1 3).toInt by omega, Or.inl (show ((3 : Int32) : Int32).toInt = 0 ∨ (σ.1 7).toInt < ((τ.1 7) : Int32).toInt by have k9 : (3 : Int32).toInt = 3 := (by decide); omega)⟩)⟩, wEn_of hP (hK.sub [] rfl) hD ht hW⟩, hS.F ht⟩) hS.2.2 dX12_next_382
        · have tc4 := (show 8 < z3.toInt from ti_nle rfl rg_24 c4)
          refine lv_iconst (v := 1) hx hb dX12_next_214 rg_6 ?_
          refine lv_goto (tgt := 233) hx hb dX12_next_215 rfl ?_
          refine va_put (D := (dC, dI)) (ci := 12) (v := .int 1) (ty := tyX12 8) (C := RX12) (T := TX12) (N := 59) hx hb hts hin12 tyX12 tyX12_ok nmX12 hown hK hP hD hS 0 rfl rfl 8 (Nat.le_of_ble_eq_true rfl) (ho (.fieldLink RX12 199 "NearEnoughModel" "token" "I") (List.mem_of_getElem? (i := 3) rfl)) (fun _ h9 => h9) rfl (tyX12_ok 8 (Nat.le_of_ble_eq_true rfl)) rfl rfl (Nat.le_of_ble_eq_true rfl) dX12_next_233 (fun H locs hP hD hS => ?_)
          have hP : va_P (dC, dI) vwCl (mW h ad cl (sI τ 8 1)) H := hP
          have hD : va_D A (mW h ad cl (sI τ 8 1)) := hD
          refine lv_goto (tgt := 382) hx hb dX12_next_236 rfl ?_
          rw [hQ]
          have o5 : (σ.1 7).toInt ≤ (τ.1 7).toInt := by omega
          exact W.vret hx hb hr (fun t ht hW => ⟨⟨(sI τ 8 1), rfl, ⟨(Inv.sI hIτ rg_28), (eqx.sI hxτ rg_26), ⟨(show (σ.1 7).toInt ≤ (τ.1 7).toInt from o5), (show ((1 : Int32) : Int32).toInt = 0 ∨ (σ.1 7).toInt < ((τ.1 7) : Int32).toInt by have k9 : (1 : Int32).toInt = 1 := (by decide); omega)⟩, (show _ ∧ _ from ⟨((hxτ 3 rg_22).1), show (σ.1 7).toInt ≤ (τ.1 7).toInt by omega, show (τ.1 7).toInt ≤ (σ.1 3).toInt by omega, Or.inl (show ((1 : Int32) : Int32).toInt = 0 ∨ (σ.1 7).toInt < ((τ.1 7) : Int32).toInt by have k9 : (1 : Int32).toInt = 1 := (by decide); omega)⟩)⟩, wEn_of hP (hK.sub [] rfl) hD ht hW⟩, hS.F ht⟩) hS.2.2 dX12_next_382
      · have tc2 := (show k.toInt < (τ.1 7).toInt from ti_nle rfl rfl c2)
        refine lv_iload_n hx hb dX12_next_164 rfl (lv_at hl 2 rfl) ?_
        refine lv_aload_n hx hb dX12_next_165 rfl (lv_at hl 0 rfl) ?_
        refine va_get (D := (dC, dI)) (ci := 12) (v := .int (τ.1 6)) (C := RX12) (T := TX12) (N := 59) hx hb hts hin12 hown hK hP 0 rfl rfl 6 (Nat.le_of_ble_eq_true rfl) (ho (.fieldLink RX12 192 "NearEnoughModel" "at" "I") (List.mem_of_getElem? (i := 1) rfl)) (fun _ h9 => h9) rfl dX12_next_166 ?_
        have bτ_6 : 0 ≤ (τ.1 6).toInt ∧ (τ.1 6).toInt ≤ 1000 := hIτ.1 6
        refine lv_bipush (v := 8) hx hb dX12_next_169 rg_23 ?_
        refine lv_iadd hx hb dX12_next_171 ?_
        refine lv_topi (fun z8 ez8 => ?_)
        have o6 : -2147483648 ≤ (τ.1 6).toInt + 8 := by omega
        have o7 : (τ.1 6).toInt + 8 ≤ 2147483647 := by omega
        have tz8 : z8.toInt = (τ.1 6).toInt + 8 := ti_add ez8 rfl rg_24 o6 o7
        refine lv_icmp_ge (tgt := 199) hx hb dX12_next_172 rfl (fun c9 => ?_) (fun c9 => ?_)
        · have tc9 := (show z8.toInt ≤ k.toInt from ti_le rfl rfl c9)
          refine lv_aload_n hx hb dX12_next_199 rfl (lv_at hl 0 rfl) ?_
          refine lv_aload_n hx hb dX12_next_200 rfl (lv_at hl 0 rfl) ?_
          refine va_get (D := (dC, dI)) (ci := 12) (v := .int (τ.1 7)) (C := RX12) (T := TX12) (N := 59) hx hb hts hin12 hown hK hP 0 rfl rfl 7 (Nat.le_of_ble_eq_true rfl) (ho (.fieldLink RX12 189 "NearEnoughModel" "end" "I") (List.mem_of_getElem? (i := 0) rfl)) (fun _ h9 => h9) rfl dX12_next_201 ?_
          have bτ_7 : 0 ≤ (τ.1 7).toInt ∧ (τ.1 7).toInt ≤ 1000 := hIτ.1 7
          refine lv_aload_n hx hb dX12_next_204 rfl (lv_at hl 0 rfl) ?_
          refine va_get (D := (dC, dI)) (ci := 12) (v := .int (τ.1 6)) (C := RX12) (T := TX12) (N := 59) hx hb hts hin12 hown hK hP 0 rfl rfl 6 (Nat.le_of_ble_eq_true rfl) (ho (.fieldLink RX12 192 "NearEnoughModel" "at" "I") (List.mem_of_getElem? (i := 1) rfl)) (fun _ h9 => h9) rfl dX12_next_205 ?_
          have bτ_6 : 0 ≤ (τ.1 6).toInt ∧ (τ.1 6).toInt ≤ 1000 := hIτ.1 6
          refine lv_isub hx hb dX12_next_208 ?_
          refine lv_topi (fun z10 ez10 => ?_)
          have o8 : -2147483648 ≤ (τ.1 7).toInt - (τ.1 6).toInt := by omega
          have o9 : (τ.1 7).toInt - (τ.1 6).toInt ≤ 2147483647 := by omega
          have tz10 : z10.toInt = (τ.1 7).toInt - (τ.1 6).toInt := ti_sub ez10 rfl rfl o8 o9
          refine lv_bipush (v := 8) hx hb dX12_next_209 rg_23 ?_
          refine lv_icmp_le (tgt := 218) hx hb dX12_next_211 rfl (fun c11 => ?_) (fun c11 => ?_)
          · have tc11 := (show z10.toInt ≤ 8 from ti_le rfl rg_24 c11)
            refine lv_aload_n hx hb dX12_next_218 rfl (lv_at hl 0 rfl) ?_
            refine va_get (D := (dC, dI)) (ci := 12) (v := .long (τ.2.2.2 10)) (C := RX12) (T := TX12) (N := 59) hx hb hts hin12 hown hK hP 0 rfl rfl 10 (Nat.le_of_ble_eq_true rfl) (ho (.fieldLink RX12 206 "NearEnoughModel" "name" "J") (List.mem_of_getElem? (i := 2) rfl)) (fun _ h9 => h9) rfl dX12_next_219 ?_
            refine zs_i (va_runS (As := [.long (τ.2.2.2 10)]) (rest := [.ref h]) ⟨hx, hb, hml, hown, hts⟩ (n_isKept l dC dI (τ.2.2.2 10)  H.size) (va_cwS 1 hts gd_n_next_210_n_isKept rfl rfl rfl dd_n_isKept ⟨Nat.le_of_ble_eq_true rfl, Nat.le_of_ble_eq_true rfl⟩) (preS (A := A) empP (hK.sub (tys' := []) [] rfl) empD hE) rfl rfl hl.1 rfl (lv_room (Nat.le_of_ble_eq_true rfl)) dX12_next_222 ⟨Nat.le_of_ble_eq_true rfl, Nat.le_of_ble_eq_true rfl⟩) hP hD hS hA (fun z12 H locs hq hP hD hS => ?_)
            obtain f13 := hq
            refine W.widen (k := 0) (n := 0) (Nat.le_of_ble_eq_true rfl) (Nat.le_of_ble_eq_true rfl) ?_
            refine lv_if_eq (tgt := 232) hx hb dX12_next_225 rfl (fun c14 => ?_) (fun c14 => ?_)
            · have tc14 := (show z12.toInt = 0 from ti_eq rfl rg_11 c14)
              refine lv_iconst (v := 2) hx hb dX12_next_232 rg_19 ?_
              refine va_put (D := (dC, dI)) (ci := 12) (v := .int 2) (ty := tyX12 8) (C := RX12) (T := TX12) (N := 59) hx hb hts hin12 tyX12 tyX12_ok nmX12 hown hK hP hD hS 0 rfl rfl 8 (Nat.le_of_ble_eq_true rfl) (ho (.fieldLink RX12 199 "NearEnoughModel" "token" "I") (List.mem_of_getElem? (i := 3) rfl)) (fun _ h9 => h9) rfl (tyX12_ok 8 (Nat.le_of_ble_eq_true rfl)) rfl rfl (Nat.le_of_ble_eq_true rfl) dX12_next_233 (fun H locs hP hD hS => ?_)
              have hP : va_P (dC, dI) vwCl (mW h ad cl (sI τ 8 2)) H := hP
              have hD : va_D A (mW h ad cl (sI τ 8 2)) := hD
              refine lv_goto (tgt := 382) hx hb dX12_next_236 rfl ?_
              rw [hQ]
              have o10 : (σ.1 7).toInt ≤ (τ.1 7).toInt := by omega
              exact W.vret hx hb hr (fun t ht hW => ⟨⟨(sI τ 8 2), rfl, ⟨(Inv.sI hIτ rg_25), (eqx.sI hxτ rg_26), ⟨(show (σ.1 7).toInt ≤ (τ.1 7).toInt from o10), (show ((2 : Int32) : Int32).toInt = 0 ∨ (σ.1 7).toInt < ((τ.1 7) : Int32).toInt by have k9 : (2 : Int32).toInt = 2 := (by decide); omega)⟩, (show _ ∧ _ from ⟨((hxτ 3 rg_22).1), show (σ.1 7).toInt ≤ (τ.1 7).toInt by omega, show (τ.1 7).toInt ≤ (σ.1 3).toInt by omega, Or.inl (show ((2 : Int32) : Int32).toInt = 0 ∨ (σ.1 7).toInt < ((τ.1 7) : Int32).toInt by have k9 : (2 : Int32).toInt = 2 := (by decide); omega)⟩)⟩, wEn_of hP (hK.sub [] rfl) hD ht hW⟩, hS.F ht⟩) hS.2.2 dX12_next_382
            · have tc14 := (show z12.toInt ≠ 0 from ti_ne rfl rg_11 c14)
              refine lv_iconst (v := 3) hx hb dX12_next_228 rg_16 ?_
              refine lv_goto (tgt := 233) hx hb dX12_next_229 rfl ?_
              refine va_put (D := (dC, dI)) (ci := 12) (v := .int 3) (ty := tyX12 8) (C := RX12) (T := TX12) (N := 59) hx hb hts hin12 tyX12 tyX12_ok nmX12 hown hK hP hD hS 0 rfl rfl 8 (Nat.le_of_ble_eq_true rfl) (ho (.fieldLink RX12 199 "NearEnoughModel" "token" "I") (List.mem_of_getElem? (i := 3) rfl)) (fun _ h9 => h9) rfl (tyX12_ok 8 (Nat.le_of_ble_eq_true rfl)) rfl rfl (Nat.le_of_ble_eq_true rfl) dX12_next_233 (fun H locs hP hD hS => ?_)
              have hP : va_P (dC, dI) vwCl (mW h ad cl (sI τ 8 3)) H := hP
              have hD : va_D A (mW h ad cl (sI τ 8 3)) := hD
              refine lv_goto (tgt := 382) hx hb dX12_next_236 rfl ?_
              rw [hQ]
              have o11 : (σ.1 7).toInt ≤ (τ.1 7).toInt := by omega
              exact W.vret hx hb hr (fun t ht hW => ⟨⟨(sI τ 8 3), rfl, ⟨(Inv.sI hIτ rg_27), (eqx.sI hxτ rg_26), ⟨(show (σ.1 7).toInt ≤ (τ.1 7).toInt from o11), (show ((3 : Int32) : Int32).toInt = 0 ∨ (σ.1 7).toInt < ((τ.1 7) : Int32).toInt by have k9 : (3 : Int32).toInt = 3 := (by decide); omega)⟩, (show _ ∧ _ from ⟨((hxτ 3 rg_22).1), show (σ.1 7).toInt ≤ (τ.1 7).toInt by omega, show (τ.1 7).toInt ≤ (σ.1 3).toInt by omega, Or.inl (show ((3 : Int32) : Int32).toInt = 0 ∨ (σ.1 7).toInt < ((τ.1 7) : Int32).toInt by have k9 : (3 : Int32).toInt = 3 := (by decide); omega)⟩)⟩, wEn_of hP (hK.sub [] rfl) hD ht hW⟩, hS.F ht⟩) hS.2.2 dX12_next_382
          · have tc11 := (show 8 < z10.toInt from ti_nle rfl rg_24 c11)
            refine lv_iconst (v := 1) hx hb dX12_next_214 rg_6 ?_
            refine lv_goto (tgt := 233) hx hb dX12_next_215 rfl ?_
            refine va_put (D := (dC, dI)) (ci := 12) (v := .int 1) (ty := tyX12 8) (C := RX12) (T := TX12) (N := 59) hx hb hts hin12 tyX12 tyX12_ok nmX12 hown hK hP hD hS 0 rfl rfl 8 (Nat.le_of_ble_eq_true rfl) (ho (.fieldLink RX12 199 "NearEnoughModel" "token" "I") (List.mem_of_getElem? (i := 3) rfl)) (fun _ h9 => h9) rfl (tyX12_ok 8 (Nat.le_of_ble_eq_true rfl)) rfl rfl (Nat.le_of_ble_eq_true rfl) dX12_next_233 (fun H locs hP hD hS => ?_)
            have hP : va_P (dC, dI) vwCl (mW h ad cl (sI τ 8 1)) H := hP
            have hD : va_D A (mW h ad cl (sI τ 8 1)) := hD
            refine lv_goto (tgt := 382) hx hb dX12_next_236 rfl ?_
            rw [hQ]
            have o12 : (σ.1 7).toInt ≤ (τ.1 7).toInt := by omega
            exact W.vret hx hb hr (fun t ht hW => ⟨⟨(sI τ 8 1), rfl, ⟨(Inv.sI hIτ rg_28), (eqx.sI hxτ rg_26), ⟨(show (σ.1 7).toInt ≤ (τ.1 7).toInt from o12), (show ((1 : Int32) : Int32).toInt = 0 ∨ (σ.1 7).toInt < ((τ.1 7) : Int32).toInt by have k9 : (1 : Int32).toInt = 1 := (by decide); omega)⟩, (show _ ∧ _ from ⟨((hxτ 3 rg_22).1), show (σ.1 7).toInt ≤ (τ.1 7).toInt by omega, show (τ.1 7).toInt ≤ (σ.1 3).toInt by omega, Or.inl (show ((1 : Int32) : Int32).toInt = 0 ∨ (σ.1 7).toInt < ((τ.1 7) : Int32).toInt by have k9 : (1 : Int32).toInt = 1 := (by decide); omega)⟩)⟩, wEn_of hP (hK.sub [] rfl) hD ht hW⟩, hS.F ht⟩) hS.2.2 dX12_next_382
        · have tc9 := (show k.toInt < z8.toInt from ti_nle rfl rfl c9)
          refine lv_aload_n hx hb dX12_next_175 rfl (lv_at hl 0 rfl) ?_
          refine lv_aload_n hx hb dX12_next_176 rfl (lv_at hl 0 rfl) ?_
          refine va_get (D := (dC, dI)) (ci := 12) (v := .long (τ.2.2.2 10)) (C := RX12) (T := TX12) (N := 59) hx hb hts hin12 hown hK hP 0 rfl rfl 10 (Nat.le_of_ble_eq_true rfl) (ho (.fieldLink RX12 206 "NearEnoughModel" "name" "J") (List.mem_of_getElem? (i := 2) rfl)) (fun _ h9 => h9) rfl dX12_next_177 ?_
          refine lv_bipush (v := 8) hx hb dX12_next_180 rg_23 ?_
          refine lv_lshl hx hb dX12_next_182 rfl ?_
          refine lv_topl (fun y15 ey15 => ?_)
          refine lv_aload_n hx hb dX12_next_183 rfl (lv_at hl 0 rfl) ?_
          refine lv_iload_n hx hb dX12_next_184 rfl (lv_at hl 2 rfl) ?_
          have o13 : 0 ≤ k.toInt := by omega
          refine zy_i (va_runV (As := [.int k]) (rest := [.long y15, .ref h]) ⟨hx, hb, hml, hown, hts⟩ (n_sign l dC dI h ad cl H.size τ k hIτ o13) (cwV 1 hts gd_n_next_195_n_sign rfl rfl rfl dd_n_sign ⟨Nat.le_of_ble_eq_true rfl, Nat.le_of_ble_eq_true rfl⟩) (preV hP hK hD hE (ci := 12) (q0 := 0) rfl rfl) rfl rfl hl.1 rfl (lv_room (Nat.le_of_ble_eq_true rfl)) dX12_next_185 ⟨Nat.le_of_ble_eq_true rfl, Nat.le_of_ble_eq_true rfl⟩) hD hS hA (fun z17 τ16 H locs hq hP hD hS => ?_)
          obtain ⟨rfl, f18, f19, f20⟩ := hq
          refine W.widen (k := 0) (n := 0) (Nat.le_of_ble_eq_true rfl) (Nat.le_of_ble_eq_true rfl) ?_
          refine lv_i2l hx hb dX12_next_188 rfl ?_
          refine lv_topl (fun y21 ey21 => ?_)
          refine lv_lor hx hb dX12_next_189 ?_
          refine lv_topl (fun y22 ey22 => ?_)
          refine va_put (D := (dC, dI)) (ci := 12) (v := .long y22) (ty := tyX12 10) (C := RX12) (T := TX12) (N := 59) hx hb hts hin12 tyX12 tyX12_ok nmX12 hown hK hP hD hS 0 rfl rfl 10 (Nat.le_of_ble_eq_true rfl) (ho (.fieldLink RX12 206 "NearEnoughModel" "name" "J") (List.mem_of_getElem? (i := 2) rfl)) (fun _ h9 => h9) rfl (tyX12_ok 10 (Nat.le_of_ble_eq_true rfl)) rfl rfl (Nat.le_of_ble_eq_true rfl) dX12_next_190 (fun H locs hP hD hS => ?_)
          have hP : va_P (dC, dI) vwCl (mW h ad cl (sL τ 10 y22)) H := hP
          have hD : va_D A (mW h ad cl (sL τ 10 y22)) := hD
          obtain ⟨z23, ez23⟩ : ∃ y : Int32, y = k + 1 := ⟨_, rfl⟩
          have o14 : -2147483648 ≤ k.toInt + 1 := by omega
          have o15 : k.toInt + 1 ≤ 2147483647 := by omega
          have tz23 := ti_add ez23 rfl rg_18 o14 o15
          refine lv_iinc (v := z23) (lv' := [(2, .int z23), (0, .ref h), (1, .int cv)]) hx hb dX12_next_193 hl (k := 2) rfl (iincp ez23 rg_6) (Nat.le_of_ble_eq_true rfl) rfl (fun ls hl => ?_)
          refine lv_goto (tgt := 156) hx hb dX12_next_196 rfl ?_
          have o16 : ((τ.1 7).toInt - z23.toInt).toNat < n156 := by omega
          have o17 : (σ.1 7).toInt ≤ (τ.1 7).toInt := by omega
          have o18 : (τ.1 7).toInt ≤ (σ.1 3).toInt := by omega
          have o19 : 0 ≤ z23.toInt := by omega
          have o20 : (σ.1 7).toInt < (τ.1 7).toInt := by omega
          exact ih156 (sL τ 10 y22) cv z23 _ _ _ (show ((τ.1 7).toInt - z23.toInt).toNat < n156 from o16) (Inv.sL hIτ) (eqx.sL hxτ rg_29) (show (σ.1 7).toInt ≤ (τ.1 7).toInt ∧ (τ.1 7).toInt ≤ (σ.1 3).toInt from ⟨o17, o18⟩) (show 0 ≤ z23.toInt from o19) (show (σ.1 7).toInt < (τ.1 7).toInt from o20) hP hD hS (lv_sub hl [1, 2, 0] rfl)
  have pt_119 : ∀ (n119 : Nat) (τ : MS) (cv : Int32) (H : Heap) (locs : List Loc) (ls : Array Slot), ((τ.1 3).toInt - (τ.1 7).toInt).toNat < n119 → (Inv τ) → (eqx [6, 7, 8, 9, 10] τ σ) → ((σ.1 7).toInt ≤ (τ.1 7).toInt ∧ (τ.1 7).toInt ≤ (σ.1 3).toInt) → ((σ.1 7).toInt < (τ.1 7).toInt) → va_P (dC, dI) vwCl (mW h ad cl τ) H → va_D A (mW h ad cl τ) → va_S A s.heap H locs → lv_has ls 3 [(0, .ref h), (1, .int cv)] → W p l e (headSpec vs_n_next rm_n_next).room s m #[Value.ref h] below meth c H locs 0 0 Q (F0 m 119 ls []) := by
    intro n119
    induction n119 with
    | zero => intro τ cv H locs ls hn119 hIτ hxτ hgτ hpg hP hD hS hl; exact absurd hn119 (Nat.not_lt_zero _)
    | succ n119 ih119 =>
      intro τ cv H locs ls hn119 hIτ hxτ hgτ hpg hP hD hS hl
      have bτ_3 : 0 ≤ (τ.1 3).toInt ∧ (τ.1 3).toInt ≤ 1000 := hIτ.1 3
      have qq24 : (τ.1 3).toInt = ((σ.1 3) : Int32).toInt := congrArg Int32.toInt (((hxτ 3 rg_22).1))
      have bτ_6 : 0 ≤ (τ.1 6).toInt ∧ (τ.1 6).toInt ≤ 1000 := hIτ.1 6
      have bτ_7 : 0 ≤ (τ.1 7).toInt ∧ (τ.1 7).toInt ≤ 1000 := hIτ.1 7
      refine lv_aload_n hx hb dX12_next_119 rfl (lv_at hl 0 rfl) ?_
      refine lv_aload_n hx hb dX12_next_120 rfl (lv_at hl 0 rfl) ?_
      refine va_get (D := (dC, dI)) (ci := 12) (v := .int (τ.1 7)) (C := RX12) (T := TX12) (N := 59) hx hb hts hin12 hown hK hP 0 rfl rfl 7 (Nat.le_of_ble_eq_true rfl) (ho (.fieldLink RX12 189 "NearEnoughModel" "end" "I") (List.mem_of_getElem? (i := 0) rfl)) (fun _ h9 => h9) rfl dX12_next_121 ?_
      have bτ_7 : 0 ≤ (τ.1 7).toInt ∧ (τ.1 7).toInt ≤ 1000 := hIτ.1 7
      have o21 : 0 ≤ ((τ.1 7)).toInt := by omega
      refine zy_i (va_runV (As := [.int (τ.1 7)]) (rest := []) ⟨hx, hb, hml, hown, hts⟩ (n_sign l dC dI h ad cl H.size τ (τ.1 7) hIτ o21) (cwV 1 hts gd_n_next_195_n_sign rfl rfl rfl dd_n_sign ⟨Nat.le_of_ble_eq_true rfl, Nat.le_of_ble_eq_true rfl⟩) (preV hP hK hD hE (ci := 12) (q0 := 0) rfl rfl) rfl rfl hl.1 rfl (lv_room (Nat.le_of_ble_eq_true rfl)) dX12_next_124 ⟨Nat.le_of_ble_eq_true rfl, Nat.le_of_ble_eq_true rfl⟩) hD hS hA (fun z26 τ25 H locs hq hP hD hS => ?_)
      obtain ⟨rfl, f27, f28, f29⟩ := hq
      refine W.widen (k := 0) (n := 0) (Nat.le_of_ble_eq_true rfl) (Nat.le_of_ble_eq_true rfl) ?_
      refine zs_i (va_runS (As := [.int z26]) (rest := []) ⟨hx, hb, hml, hown, hts⟩ (n_isLetter l dC dI z26  H.size) (va_cwS 1 hts gd_n_next_202_n_isLetter rfl rfl rfl dd_n_isLetter ⟨Nat.le_of_ble_eq_true rfl, Nat.le_of_ble_eq_true rfl⟩) (preS (A := A) empP (hK.sub (tys' := []) [] rfl) empD hE) rfl rfl hl.1 rfl (lv_room (Nat.le_of_ble_eq_true rfl)) dX12_next_127 ⟨Nat.le_of_ble_eq_true rfl, Nat.le_of_ble_eq_true rfl⟩) hP hD hS hA (fun z30 H locs hq hP hD hS => ?_)
      obtain f31 := hq
      refine W.widen (k := 0) (n := 0) (Nat.le_of_ble_eq_true rfl) (Nat.le_of_ble_eq_true rfl) ?_
      refine lv_if_eq (tgt := 146) hx hb dX12_next_130 rfl (fun c32 => ?_) (fun c32 => ?_)
      · have tc32 := (show z30.toInt = 0 from ti_eq rfl rg_11 c32)
        refine lv_aload_n hx hb dX12_next_146 rfl (lv_at hl 0 rfl) ?_
        refine lv_lconst (v := 0) hx hb dX12_next_147 (by decide) ?_
        refine va_put (D := (dC, dI)) (ci := 12) (v := .long 0) (ty := tyX12 10) (C := RX12) (T := TX12) (N := 59) hx hb hts hin12 tyX12 tyX12_ok nmX12 hown hK hP hD hS 0 rfl rfl 10 (Nat.le_of_ble_eq_true rfl) (ho (.fieldLink RX12 206 "NearEnoughModel" "name" "J") (List.mem_of_getElem? (i := 2) rfl)) (fun _ h9 => h9) rfl (tyX12_ok 10 (Nat.le_of_ble_eq_true rfl)) rfl rfl (Nat.le_of_ble_eq_true rfl) dX12_next_148 (fun H locs hP hD hS => ?_)
        have hP : va_P (dC, dI) vwCl (mW h ad cl (sL τ 10 0)) H := hP
        have hD : va_D A (mW h ad cl (sL τ 10 0)) := hD
        refine lv_aload_n hx hb dX12_next_151 rfl (lv_at hl 0 rfl) ?_
        refine va_get (D := (dC, dI)) (ci := 12) (v := .int (τ.1 6)) (C := RX12) (T := TX12) (N := 59) hx hb hts hin12 hown hK hP 0 rfl rfl 6 (Nat.le_of_ble_eq_true rfl) (ho (.fieldLink RX12 192 "NearEnoughModel" "at" "I") (List.mem_of_getElem? (i := 1) rfl)) (fun _ h9 => h9) rfl dX12_next_152 ?_
        have bτ_6 : 0 ≤ (τ.1 6).toInt ∧ (τ.1 6).toInt ≤ 1000 := hIτ.1 6
        refine lv_istore_n (lv' := [(2, .int (τ.1 6)), (0, .ref h), (1, .int cv)]) hx hb dX12_next_155 rfl hl (Nat.le_of_ble_eq_true rfl) rfl (fun ls hl => ?_)
        have o22 : (σ.1 7).toInt ≤ (τ.1 7).toInt := by omega
        have o23 : (τ.1 7).toInt ≤ (σ.1 3).toInt := by omega
        have o24 : 0 ≤ (τ.1 6).toInt := by omega
        have o25 : (σ.1 7).toInt < (τ.1 7).toInt := by omega
        exact pt_156 _ (sL τ 10 0) cv (τ.1 6) _ _ _ (Nat.lt_succ_self _) (Inv.sL hIτ) (eqx.sL hxτ rg_29) (show (σ.1 7).toInt ≤ (τ.1 7).toInt ∧ (τ.1 7).toInt ≤ (σ.1 3).toInt from ⟨o22, o23⟩) (show 0 ≤ (τ.1 6).toInt from o24) (show (σ.1 7).toInt < (τ.1 7).toInt from o25) hP hD hS (lv_sub hl [1, 2, 0] rfl)
      · have tc32 := (show z30.toInt ≠ 0 from ti_ne rfl rg_11 c32)
        refine lv_aload_n hx hb dX12_next_133 rfl (lv_at hl 0 rfl) ?_
        refine lv_dup hx hb dX12_next_134 rfl ?_
        refine va_get (D := (dC, dI)) (ci := 12) (v := .int (τ.1 7)) (C := RX12) (T := TX12) (N := 59) hx hb hts hin12 hown hK hP 0 rfl rfl 7 (Nat.le_of_ble_eq_true rfl) (ho (.fieldLink RX12 189 "NearEnoughModel" "end" "I") (List.mem_of_getElem? (i := 0) rfl)) (fun _ h9 => h9) rfl dX12_next_135 ?_
        have bτ_7 : 0 ≤ (τ.1 7).toInt ∧ (τ.1 7).toInt ≤ 1000 := hIτ.1 7
        refine lv_iconst (v := 1) hx hb dX12_next_138 rg_6 ?_
        refine lv_iadd hx hb dX12_next_139 ?_
        refine lv_topi (fun z33 ez33 => ?_)
        have o26 : -2147483648 ≤ (τ.1 7).toInt + 1 := by omega
        have o27 : (τ.1 7).toInt + 1 ≤ 2147483647 := by omega
        have tz33 : z33.toInt = (τ.1 7).toInt + 1 := ti_add ez33 rfl rg_18 o26 o27
        refine va_put (D := (dC, dI)) (ci := 12) (v := .int z33) (ty := tyX12 7) (C := RX12) (T := TX12) (N := 59) hx hb hts hin12 tyX12 tyX12_ok nmX12 hown hK hP hD hS 0 rfl rfl 7 (Nat.le_of_ble_eq_true rfl) (ho (.fieldLink RX12 189 "NearEnoughModel" "end" "I") (List.mem_of_getElem? (i := 0) rfl)) (fun _ h9 => h9) rfl (tyX12_ok 7 (Nat.le_of_ble_eq_true rfl)) rfl rfl (Nat.le_of_ble_eq_true rfl) dX12_next_140 (fun H locs hP hD hS => ?_)
        have hP : va_P (dC, dI) vwCl (mW h ad cl (sI τ 7 z33)) H := hP
        have hD : va_D A (mW h ad cl (sI τ 7 z33)) := hD
        refine lv_goto (tgt := 119) hx hb dX12_next_143 rfl ?_
        have qq34 : (((sI τ 7 z33)).1 7).toInt = (z33 : Int32).toInt := rfl
        have o28 : ((τ.1 3).toInt - z33.toInt).toNat < n119 := by omega
        have o29 : (0 : Int) ≤ z33.toInt := by omega
        have o30 : z33.toInt ≤ 1000 := by omega
        have o31 : (σ.1 7).toInt ≤ z33.toInt := by omega
        have o32 : z33.toInt ≤ (σ.1 3).toInt := by omega
        have o33 : (σ.1 7).toInt < z33.toInt := by omega
        exact ih119 (sI τ 7 z33) cv _ _ _ (show ((τ.1 3).toInt - z33.toInt).toNat < n119 from o28) (Inv.sI hIτ (show (0 : Int) ≤ z33.toInt ∧ z33.toInt ≤ 1000 from ⟨o29, o30⟩)) (eqx.sI hxτ rg_30) (show (σ.1 7).toInt ≤ z33.toInt ∧ z33.toInt ≤ (σ.1 3).toInt from ⟨o31, o32⟩) (show (σ.1 7).toInt < z33.toInt from o33) hP hD hS (lv_sub hl [0, 1] rfl)
  have pt_259 : ∀ (n259 : Nat) (τ : MS) (cv : Int32) (H : Heap) (locs : List Loc) (ls : Array Slot), ((τ.1 3).toInt - (τ.1 7).toInt).toNat < n259 → (Inv τ) → (eqx [6, 7, 8, 9, 10] τ σ) → ((σ.1 7).toInt ≤ (τ.1 7).toInt ∧ (τ.1 7).toInt ≤ (σ.1 3).toInt) → ((σ.1 7).toInt ≤ (τ.1 6).toInt ∧ (τ.1 6).toInt ≤ (τ.1 7).toInt) → (48 ≤ cv.toInt ∧ cv.toInt ≤ 57) → (cv = sgn τ (τ.1 6)) → va_P (dC, dI) vwCl (mW h ad cl τ) H → va_D A (mW h ad cl τ) → va_S A s.heap H locs → lv_has ls 3 [(0, .ref h), (1, .int cv)] → W p l e (headSpec vs_n_next rm_n_next).room s m #[Value.ref h] below meth c H locs 0 0 Q (F0 m 259 ls []) := by
    intro n259
    induction n259 with
    | zero => intro τ cv H locs ls hn259 hIτ hxτ hgτ hae hdg hcs hP hD hS hl; exact absurd hn259 (Nat.not_lt_zero _)
    | succ n259 ih259 =>
      intro τ cv H locs ls hn259 hIτ hxτ hgτ hae hdg hcs hP hD hS hl
      have bτ_3 : 0 ≤ (τ.1 3).toInt ∧ (τ.1 3).toInt ≤ 1000 := hIτ.1 3
      have qq35 : (τ.1 3).toInt = ((σ.1 3) : Int32).toInt := congrArg Int32.toInt (((hxτ 3 rg_22).1))
      have bτ_6 : 0 ≤ (τ.1 6).toInt ∧ (τ.1 6).toInt ≤ 1000 := hIτ.1 6
      have bτ_7 : 0 ≤ (τ.1 7).toInt ∧ (τ.1 7).toInt ≤ 1000 := hIτ.1 7
      refine lv_aload_n hx hb dX12_next_259 rfl (lv_at hl 0 rfl) ?_
      refine lv_aload_n hx hb dX12_next_260 rfl (lv_at hl 0 rfl) ?_
      refine va_get (D := (dC, dI)) (ci := 12) (v := .int (τ.1 7)) (C := RX12) (T := TX12) (N := 59) hx hb hts hin12 hown hK hP 0 rfl rfl 7 (Nat.le_of_ble_eq_true rfl) (ho (.fieldLink RX12 189 "NearEnoughModel" "end" "I") (List.mem_of_getElem? (i := 0) rfl)) (fun _ h9 => h9) rfl dX12_next_261 ?_
      have bτ_7 : 0 ≤ (τ.1 7).toInt ∧ (τ.1 7).toInt ≤ 1000 := hIτ.1 7
      have o34 : 0 ≤ ((τ.1 7)).toInt := by omega
      refine zy_i (va_runV (As := [.int (τ.1 7)]) (rest := []) ⟨hx, hb, hml, hown, hts⟩ (n_sign l dC dI h ad cl H.size τ (τ.1 7) hIτ o34) (cwV 1 hts gd_n_next_195_n_sign rfl rfl rfl dd_n_sign ⟨Nat.le_of_ble_eq_true rfl, Nat.le_of_ble_eq_true rfl⟩) (preV hP hK hD hE (ci := 12) (q0 := 0) rfl rfl) rfl rfl hl.1 rfl (lv_room (Nat.le_of_ble_eq_true rfl)) dX12_next_264 ⟨Nat.le_of_ble_eq_true rfl, Nat.le_of_ble_eq_true rfl⟩) hD hS hA (fun z37 τ36 H locs hq hP hD hS => ?_)
      obtain ⟨rfl, f38, f39, f40⟩ := hq
      refine W.widen (k := 0) (n := 0) (Nat.le_of_ble_eq_true rfl) (Nat.le_of_ble_eq_true rfl) ?_
      have hsame : (τ.1 7).toInt = (τ.1 6).toInt → z37.toInt = cv.toInt := fun h9 => congrArg Int32.toInt (by rw [f40, hcs, Int32.toInt_inj.mp h9])
      refine zs_i (va_runS (As := [.int z37]) (rest := []) ⟨hx, hb, hml, hown, hts⟩ (n_isDigit l dC dI z37  H.size) (va_cwS 1 hts gd_n_next_214_n_isDigit rfl rfl rfl dd_n_isDigit ⟨Nat.le_of_ble_eq_true rfl, Nat.le_of_ble_eq_true rfl⟩) (preS (A := A) empP (hK.sub (tys' := []) [] rfl) empD hE) rfl rfl hl.1 rfl (lv_room (Nat.le_of_ble_eq_true rfl)) dX12_next_267 ⟨Nat.le_of_ble_eq_true rfl, Nat.le_of_ble_eq_true rfl⟩) hP hD hS hA (fun z41 H locs hq hP hD hS => ?_)
      obtain f42 := hq
      refine W.widen (k := 0) (n := 0) (Nat.le_of_ble_eq_true rfl) (Nat.le_of_ble_eq_true rfl) ?_
      refine lv_if_eq (tgt := 322) hx hb dX12_next_270 rfl (fun c43 => ?_) (fun c43 => ?_)
      · have tc43 := (show z41.toInt = 0 from ti_eq rfl rg_11 c43)
        refine lv_aload_n hx hb dX12_next_322 rfl (lv_at hl 0 rfl) ?_
        refine lv_aload_n hx hb dX12_next_323 rfl (lv_at hl 0 rfl) ?_
        refine va_get (D := (dC, dI)) (ci := 12) (v := .int (τ.1 7)) (C := RX12) (T := TX12) (N := 59) hx hb hts hin12 hown hK hP 0 rfl rfl 7 (Nat.le_of_ble_eq_true rfl) (ho (.fieldLink RX12 189 "NearEnoughModel" "end" "I") (List.mem_of_getElem? (i := 0) rfl)) (fun _ h9 => h9) rfl dX12_next_324 ?_
        have bτ_7 : 0 ≤ (τ.1 7).toInt ∧ (τ.1 7).toInt ≤ 1000 := hIτ.1 7
        refine lv_aload_n hx hb dX12_next_327 rfl (lv_at hl 0 rfl) ?_
        refine va_get (D := (dC, dI)) (ci := 12) (v := .int (τ.1 6)) (C := RX12) (T := TX12) (N := 59) hx hb hts hin12 hown hK hP 0 rfl rfl 6 (Nat.le_of_ble_eq_true rfl) (ho (.fieldLink RX12 192 "NearEnoughModel" "at" "I") (List.mem_of_getElem? (i := 1) rfl)) (fun _ h9 => h9) rfl dX12_next_328 ?_
        have bτ_6 : 0 ≤ (τ.1 6).toInt ∧ (τ.1 6).toInt ≤ 1000 := hIτ.1 6
        refine lv_isub hx hb dX12_next_331 ?_
        refine lv_topi (fun z44 ez44 => ?_)
        have o35 : -2147483648 ≤ (τ.1 7).toInt - (τ.1 6).toInt := by omega
        have o36 : (τ.1 7).toInt - (τ.1 6).toInt ≤ 2147483647 := by omega
        have tz44 : z44.toInt = (τ.1 7).toInt - (τ.1 6).toInt := ti_sub ez44 rfl rfl o35 o36
        refine lv_iconst (v := 4) hx hb dX12_next_332 rg_31 ?_
        refine lv_icmp_gt (tgt := 350) hx hb dX12_next_333 rfl (fun c45 => ?_) (fun c45 => ?_)
        · have tc45 := (show 4 < z44.toInt from ti_lt rg_32 rfl c45)
          refine lv_iconst (v := 1) hx hb dX12_next_350 rg_6 ?_
          refine lv_goto (tgt := 355) hx hb dX12_next_351 rfl ?_
          refine va_put (D := (dC, dI)) (ci := 12) (v := .int 1) (ty := tyX12 8) (C := RX12) (T := TX12) (N := 59) hx hb hts hin12 tyX12 tyX12_ok nmX12 hown hK hP hD hS 0 rfl rfl 8 (Nat.le_of_ble_eq_true rfl) (ho (.fieldLink RX12 199 "NearEnoughModel" "token" "I") (List.mem_of_getElem? (i := 3) rfl)) (fun _ h9 => h9) rfl (tyX12_ok 8 (Nat.le_of_ble_eq_true rfl)) rfl rfl (Nat.le_of_ble_eq_true rfl) dX12_next_355 (fun H locs hP hD hS => ?_)
          have hP : va_P (dC, dI) vwCl (mW h ad cl (sI τ 8 1)) H := hP
          have hD : va_D A (mW h ad cl (sI τ 8 1)) := hD
          refine lv_goto (tgt := 382) hx hb dX12_next_358 rfl ?_
          rw [hQ]
          have o37 : (σ.1 7).toInt ≤ (τ.1 7).toInt := by omega
          exact W.vret hx hb hr (fun t ht hW => ⟨⟨(sI τ 8 1), rfl, ⟨(Inv.sI hIτ rg_28), (eqx.sI hxτ rg_26), ⟨(show (σ.1 7).toInt ≤ (τ.1 7).toInt from o37), (show ((1 : Int32) : Int32).toInt = 0 ∨ (σ.1 7).toInt < ((τ.1 7) : Int32).toInt by have k9 : (1 : Int32).toInt = 1 := (by decide); omega)⟩, (show _ ∧ _ from ⟨((hxτ 3 rg_22).1), show (σ.1 7).toInt ≤ (τ.1 7).toInt by omega, show (τ.1 7).toInt ≤ (σ.1 3).toInt by omega, Or.inl (show ((1 : Int32) : Int32).toInt = 0 ∨ (σ.1 7).toInt < ((τ.1 7) : Int32).toInt by have k9 : (1 : Int32).toInt = 1 := (by decide); omega)⟩)⟩, wEn_of hP (hK.sub [] rfl) hD ht hW⟩, hS.F ht⟩) hS.2.2 dX12_next_382
        · have tc45 := (show z44.toInt ≤ 4 from ti_nlt rg_32 rfl c45)
          refine lv_aload_n hx hb dX12_next_336 rfl (lv_at hl 0 rfl) ?_
          refine lv_aload_n hx hb dX12_next_337 rfl (lv_at hl 0 rfl) ?_
          refine va_get (D := (dC, dI)) (ci := 12) (v := .int (τ.1 7)) (C := RX12) (T := TX12) (N := 59) hx hb hts hin12 hown hK hP 0 rfl rfl 7 (Nat.le_of_ble_eq_true rfl) (ho (.fieldLink RX12 189 "NearEnoughModel" "end" "I") (List.mem_of_getElem? (i := 0) rfl)) (fun _ h9 => h9) rfl dX12_next_338 ?_
          have bτ_7 : 0 ≤ (τ.1 7).toInt ∧ (τ.1 7).toInt ≤ 1000 := hIτ.1 7
          refine zy_i (va_runV (As := [.int (τ.1 7)]) (rest := [.ref h]) ⟨hx, hb, hml, hown, hts⟩ (n_sign l dC dI h ad cl H.size τ (τ.1 7) hIτ o34) (cwV 1 hts gd_n_next_195_n_sign rfl rfl rfl dd_n_sign ⟨Nat.le_of_ble_eq_true rfl, Nat.le_of_ble_eq_true rfl⟩) (preV hP hK hD hE (ci := 12) (q0 := 0) rfl rfl) rfl rfl hl.1 rfl (lv_room (Nat.le_of_ble_eq_true rfl)) dX12_next_341 ⟨Nat.le_of_ble_eq_true rfl, Nat.le_of_ble_eq_true rfl⟩) hD hS hA (fun z47 τ46 H locs hq hP hD hS => ?_)
          obtain ⟨rfl, f48, f49, f50⟩ := hq
          refine W.widen (k := 0) (n := 0) (Nat.le_of_ble_eq_true rfl) (Nat.le_of_ble_eq_true rfl) ?_
          refine zs_i (va_runS (As := [.int z47]) (rest := [.ref h]) ⟨hx, hb, hml, hown, hts⟩ (n_isLetter l dC dI z47  H.size) (va_cwS 1 hts gd_n_next_202_n_isLetter rfl rfl rfl dd_n_isLetter ⟨Nat.le_of_ble_eq_true rfl, Nat.le_of_ble_eq_true rfl⟩) (preS (A := A) empP (hK.sub (tys' := []) [] rfl) empD hE) rfl rfl hl.1 rfl (lv_room (Nat.le_of_ble_eq_true rfl)) dX12_next_344 ⟨Nat.le_of_ble_eq_true rfl, Nat.le_of_ble_eq_true rfl⟩) hP hD hS hA (fun z51 H locs hq hP hD hS => ?_)
          obtain f52 := hq
          refine W.widen (k := 0) (n := 0) (Nat.le_of_ble_eq_true rfl) (Nat.le_of_ble_eq_true rfl) ?_
          refine lv_if_eq (tgt := 354) hx hb dX12_next_347 rfl (fun c53 => ?_) (fun c53 => ?_)
          · have tc53 := (show z51.toInt = 0 from ti_eq rfl rg_11 c53)
            refine lv_iconst (v := 4) hx hb dX12_next_354 rg_31 ?_
            refine va_put (D := (dC, dI)) (ci := 12) (v := .int 4) (ty := tyX12 8) (C := RX12) (T := TX12) (N := 59) hx hb hts hin12 tyX12 tyX12_ok nmX12 hown hK hP hD hS 0 rfl rfl 8 (Nat.le_of_ble_eq_true rfl) (ho (.fieldLink RX12 199 "NearEnoughModel" "token" "I") (List.mem_of_getElem? (i := 3) rfl)) (fun _ h9 => h9) rfl (tyX12_ok 8 (Nat.le_of_ble_eq_true rfl)) rfl rfl (Nat.le_of_ble_eq_true rfl) dX12_next_355 (fun H locs hP hD hS => ?_)
            have hP : va_P (dC, dI) vwCl (mW h ad cl (sI τ 8 4)) H := hP
            have hD : va_D A (mW h ad cl (sI τ 8 4)) := hD
            refine lv_goto (tgt := 382) hx hb dX12_next_358 rfl ?_
            rw [hQ]
            have o38 : (σ.1 7).toInt ≤ (τ.1 7).toInt := by omega
            exact W.vret hx hb hr (fun t ht hW => ⟨⟨(sI τ 8 4), rfl, ⟨(Inv.sI hIτ rg_33), (eqx.sI hxτ rg_26), ⟨(show (σ.1 7).toInt ≤ (τ.1 7).toInt from o38), (show ((4 : Int32) : Int32).toInt = 0 ∨ (σ.1 7).toInt < ((τ.1 7) : Int32).toInt by have k9 : (4 : Int32).toInt = 4 := (by decide); omega)⟩, (show _ ∧ _ from ⟨((hxτ 3 rg_22).1), show (σ.1 7).toInt ≤ (τ.1 7).toInt by omega, show (τ.1 7).toInt ≤ (σ.1 3).toInt by omega, Or.inl (show ((4 : Int32) : Int32).toInt = 0 ∨ (σ.1 7).toInt < ((τ.1 7) : Int32).toInt by have k9 : (4 : Int32).toInt = 4 := (by decide); omega)⟩)⟩, wEn_of hP (hK.sub [] rfl) hD ht hW⟩, hS.F ht⟩) hS.2.2 dX12_next_382
          · have tc53 := (show z51.toInt ≠ 0 from ti_ne rfl rg_11 c53)
            refine lv_iconst (v := 1) hx hb dX12_next_350 rg_6 ?_
            refine lv_goto (tgt := 355) hx hb dX12_next_351 rfl ?_
            refine va_put (D := (dC, dI)) (ci := 12) (v := .int 1) (ty := tyX12 8) (C := RX12) (T := TX12) (N := 59) hx hb hts hin12 tyX12 tyX12_ok nmX12 hown hK hP hD hS 0 rfl rfl 8 (Nat.le_of_ble_eq_true rfl) (ho (.fieldLink RX12 199 "NearEnoughModel" "token" "I") (List.mem_of_getElem? (i := 3) rfl)) (fun _ h9 => h9) rfl (tyX12_ok 8 (Nat.le_of_ble_eq_true rfl)) rfl rfl (Nat.le_of_ble_eq_true rfl) dX12_next_355 (fun H locs hP hD hS => ?_)
            have hP : va_P (dC, dI) vwCl (mW h ad cl (sI τ 8 1)) H := hP
            have hD : va_D A (mW h ad cl (sI τ 8 1)) := hD
            refine lv_goto (tgt := 382) hx hb dX12_next_358 rfl ?_
            rw [hQ]
            have o39 : (σ.1 7).toInt ≤ (τ.1 7).toInt := by omega
            exact W.vret hx hb hr (fun t ht hW => ⟨⟨(sI τ 8 1), rfl, ⟨(Inv.sI hIτ rg_28), (eqx.sI hxτ rg_26), ⟨(show (σ.1 7).toInt ≤ (τ.1 7).toInt from o39), (show ((1 : Int32) : Int32).toInt = 0 ∨ (σ.1 7).toInt < ((τ.1 7) : Int32).toInt by have k9 : (1 : Int32).toInt = 1 := (by decide); omega)⟩, (show _ ∧ _ from ⟨((hxτ 3 rg_22).1), show (σ.1 7).toInt ≤ (τ.1 7).toInt by omega, show (τ.1 7).toInt ≤ (σ.1 3).toInt by omega, Or.inl (show ((1 : Int32) : Int32).toInt = 0 ∨ (σ.1 7).toInt < ((τ.1 7) : Int32).toInt by have k9 : (1 : Int32).toInt = 1 := (by decide); omega)⟩)⟩, wEn_of hP (hK.sub [] rfl) hD ht hW⟩, hS.F ht⟩) hS.2.2 dX12_next_382
      · have tc43 := (show z41.toInt ≠ 0 from ti_ne rfl rg_11 c43)
        refine lv_aload_n hx hb dX12_next_273 rfl (lv_at hl 0 rfl) ?_
        refine va_get (D := (dC, dI)) (ci := 12) (v := .int (τ.1 7)) (C := RX12) (T := TX12) (N := 59) hx hb hts hin12 hown hK hP 0 rfl rfl 7 (Nat.le_of_ble_eq_true rfl) (ho (.fieldLink RX12 189 "NearEnoughModel" "end" "I") (List.mem_of_getElem? (i := 0) rfl)) (fun _ h9 => h9) rfl dX12_next_274 ?_
        have bτ_7 : 0 ≤ (τ.1 7).toInt ∧ (τ.1 7).toInt ≤ 1000 := hIτ.1 7
        refine lv_aload_n hx hb dX12_next_277 rfl (lv_at hl 0 rfl) ?_
        refine va_get (D := (dC, dI)) (ci := 12) (v := .int (τ.1 6)) (C := RX12) (T := TX12) (N := 59) hx hb hts hin12 hown hK hP 0 rfl rfl 6 (Nat.le_of_ble_eq_true rfl) (ho (.fieldLink RX12 192 "NearEnoughModel" "at" "I") (List.mem_of_getElem? (i := 1) rfl)) (fun _ h9 => h9) rfl dX12_next_278 ?_
        have bτ_6 : 0 ≤ (τ.1 6).toInt ∧ (τ.1 6).toInt ≤ 1000 := hIτ.1 6
        refine lv_isub hx hb dX12_next_281 ?_
        refine lv_topi (fun z54 ez54 => ?_)
        have o40 : -2147483648 ≤ (τ.1 7).toInt - (τ.1 6).toInt := by omega
        have o41 : (τ.1 7).toInt - (τ.1 6).toInt ≤ 2147483647 := by omega
        have tz54 : z54.toInt = (τ.1 7).toInt - (τ.1 6).toInt := ti_sub ez54 rfl rfl o40 o41
        refine lv_iconst (v := 4) hx hb dX12_next_282 rg_31 ?_
        refine lv_icmp_ge (tgt := 309) hx hb dX12_next_283 rfl (fun c55 => ?_) (fun c55 => ?_)
        · have tc55 := (show 4 ≤ z54.toInt from ti_le rg_32 rfl c55)
          refine lv_aload_n hx hb dX12_next_309 rfl (lv_at hl 0 rfl) ?_
          refine lv_dup hx hb dX12_next_310 rfl ?_
          refine va_get (D := (dC, dI)) (ci := 12) (v := .int (τ.1 7)) (C := RX12) (T := TX12) (N := 59) hx hb hts hin12 hown hK hP 0 rfl rfl 7 (Nat.le_of_ble_eq_true rfl) (ho (.fieldLink RX12 189 "NearEnoughModel" "end" "I") (List.mem_of_getElem? (i := 0) rfl)) (fun _ h9 => h9) rfl dX12_next_311 ?_
          have bτ_7 : 0 ≤ (τ.1 7).toInt ∧ (τ.1 7).toInt ≤ 1000 := hIτ.1 7
          refine lv_iconst (v := 1) hx hb dX12_next_314 rg_6 ?_
          refine lv_iadd hx hb dX12_next_315 ?_
          refine lv_topi (fun z56 ez56 => ?_)
          have o42 : -2147483648 ≤ (τ.1 7).toInt + 1 := by omega
          have o43 : (τ.1 7).toInt + 1 ≤ 2147483647 := by omega
          have tz56 : z56.toInt = (τ.1 7).toInt + 1 := ti_add ez56 rfl rg_18 o42 o43
          refine va_put (D := (dC, dI)) (ci := 12) (v := .int z56) (ty := tyX12 7) (C := RX12) (T := TX12) (N := 59) hx hb hts hin12 tyX12 tyX12_ok nmX12 hown hK hP hD hS 0 rfl rfl 7 (Nat.le_of_ble_eq_true rfl) (ho (.fieldLink RX12 189 "NearEnoughModel" "end" "I") (List.mem_of_getElem? (i := 0) rfl)) (fun _ h9 => h9) rfl (tyX12_ok 7 (Nat.le_of_ble_eq_true rfl)) rfl rfl (Nat.le_of_ble_eq_true rfl) dX12_next_316 (fun H locs hP hD hS => ?_)
          have hP : va_P (dC, dI) vwCl (mW h ad cl (sI τ 7 z56)) H := hP
          have hD : va_D A (mW h ad cl (sI τ 7 z56)) := hD
          refine lv_goto (tgt := 259) hx hb dX12_next_319 rfl ?_
          have qq57 : (((sI τ 7 z56)).1 7).toInt = (z56 : Int32).toInt := rfl
          have o44 : ((τ.1 3).toInt - z56.toInt).toNat < n259 := by omega
          have o45 : (0 : Int) ≤ z56.toInt := by omega
          have o46 : z56.toInt ≤ 1000 := by omega
          have o47 : (σ.1 7).toInt ≤ z56.toInt := by omega
          have o48 : z56.toInt ≤ (σ.1 3).toInt := by omega
          have o49 : (σ.1 7).toInt ≤ (τ.1 6).toInt := by omega
          have o50 : (τ.1 6).toInt ≤ z56.toInt := by omega
          exact ih259 (sI τ 7 z56) cv _ _ _ (show ((τ.1 3).toInt - z56.toInt).toNat < n259 from o44) (Inv.sI hIτ (show (0 : Int) ≤ z56.toInt ∧ z56.toInt ≤ 1000 from ⟨o45, o46⟩)) (eqx.sI hxτ rg_30) (show (σ.1 7).toInt ≤ z56.toInt ∧ z56.toInt ≤ (σ.1 3).toInt from ⟨o47, o48⟩) (show (σ.1 7).toInt ≤ (τ.1 6).toInt ∧ (τ.1 6).toInt ≤ z56.toInt from ⟨o49, o50⟩) (by omega) hcs hP hD hS (lv_sub hl [0, 1] rfl)
        · have tc55 := (show z54.toInt < 4 from ti_nle rg_32 rfl c55)
          refine lv_aload_n hx hb dX12_next_286 rfl (lv_at hl 0 rfl) ?_
          refine lv_bipush (v := 10) hx hb dX12_next_287 rg_34 ?_
          refine lv_aload_n hx hb dX12_next_289 rfl (lv_at hl 0 rfl) ?_
          refine va_get (D := (dC, dI)) (ci := 12) (v := .int (τ.1 9)) (C := RX12) (T := TX12) (N := 59) hx hb hts hin12 hown hK hP 0 rfl rfl 9 (Nat.le_of_ble_eq_true rfl) (ho (.fieldLink RX12 217 "NearEnoughModel" "number" "I") (List.mem_of_getElem? (i := 4) rfl)) (fun _ h9 => h9) rfl dX12_next_290 ?_
          refine lv_imul hx hb dX12_next_293 ?_
          refine lv_topi (fun z58 ez58 => ?_)
          refine lv_aload_n hx hb dX12_next_294 rfl (lv_at hl 0 rfl) ?_
          refine lv_aload_n hx hb dX12_next_295 rfl (lv_at hl 0 rfl) ?_
          refine va_get (D := (dC, dI)) (ci := 12) (v := .int (τ.1 7)) (C := RX12) (T := TX12) (N := 59) hx hb hts hin12 hown hK hP 0 rfl rfl 7 (Nat.le_of_ble_eq_true rfl) (ho (.fieldLink RX12 189 "NearEnoughModel" "end" "I") (List.mem_of_getElem? (i := 0) rfl)) (fun _ h9 => h9) rfl dX12_next_296 ?_
          have bτ_7 : 0 ≤ (τ.1 7).toInt ∧ (τ.1 7).toInt ≤ 1000 := hIτ.1 7
          refine zy_i (va_runV (As := [.int (τ.1 7)]) (rest := [.int z58, .ref h]) ⟨hx, hb, hml, hown, hts⟩ (n_sign l dC dI h ad cl H.size τ (τ.1 7) hIτ o34) (cwV 1 hts gd_n_next_195_n_sign rfl rfl rfl dd_n_sign ⟨Nat.le_of_ble_eq_true rfl, Nat.le_of_ble_eq_true rfl⟩) (preV hP hK hD hE (ci := 12) (q0 := 0) rfl rfl) rfl rfl hl.1 rfl (lv_room (Nat.le_of_ble_eq_true rfl)) dX12_next_299 ⟨Nat.le_of_ble_eq_true rfl, Nat.le_of_ble_eq_true rfl⟩) hD hS hA (fun z60 τ59 H locs hq hP hD hS => ?_)
          obtain ⟨rfl, f61, f62, f63⟩ := hq
          refine W.widen (k := 0) (n := 0) (Nat.le_of_ble_eq_true rfl) (Nat.le_of_ble_eq_true rfl) ?_
          refine lv_iadd hx hb dX12_next_302 ?_
          refine lv_topi (fun z64 ez64 => ?_)
          refine lv_bipush (v := 48) hx hb dX12_next_303 rg_7 ?_
          refine lv_isub hx hb dX12_next_305 ?_
          refine lv_topi (fun z65 ez65 => ?_)
          refine va_put (D := (dC, dI)) (ci := 12) (v := .int z65) (ty := tyX12 9) (C := RX12) (T := TX12) (N := 59) hx hb hts hin12 tyX12 tyX12_ok nmX12 hown hK hP hD hS 0 rfl rfl 9 (Nat.le_of_ble_eq_true rfl) (ho (.fieldLink RX12 217 "NearEnoughModel" "number" "I") (List.mem_of_getElem? (i := 4) rfl)) (fun _ h9 => h9) rfl (tyX12_ok 9 (Nat.le_of_ble_eq_true rfl)) rfl rfl (Nat.le_of_ble_eq_true rfl) dX12_next_306 (fun H locs hP hD hS => ?_)
          have hP : va_P (dC, dI) vwCl (mW h ad cl (sI τ 9 z65)) H := hP
          have hD : va_D A (mW h ad cl (sI τ 9 z65)) := hD
          refine lv_aload_n hx hb dX12_next_309 rfl (lv_at hl 0 rfl) ?_
          refine lv_dup hx hb dX12_next_310 rfl ?_
          refine va_get (D := (dC, dI)) (ci := 12) (v := .int (τ.1 7)) (C := RX12) (T := TX12) (N := 59) hx hb hts hin12 hown hK hP 0 rfl rfl 7 (Nat.le_of_ble_eq_true rfl) (ho (.fieldLink RX12 189 "NearEnoughModel" "end" "I") (List.mem_of_getElem? (i := 0) rfl)) (fun _ h9 => h9) rfl dX12_next_311 ?_
          have bτ_7 : 0 ≤ (τ.1 7).toInt ∧ (τ.1 7).toInt ≤ 1000 := hIτ.1 7
          refine lv_iconst (v := 1) hx hb dX12_next_314 rg_6 ?_
          refine lv_iadd hx hb dX12_next_315 ?_
          refine lv_topi (fun z66 ez66 => ?_)
          have o51 : -2147483648 ≤ (τ.1 7).toInt + 1 := by omega
          have o52 : (τ.1 7).toInt + 1 ≤ 2147483647 := by omega
          have tz66 : z66.toInt = (τ.1 7).toInt + 1 := ti_add ez66 rfl rg_18 o51 o52
          refine va_put (D := (dC, dI)) (ci := 12) (v := .int z66) (ty := tyX12 7) (C := RX12) (T := TX12) (N := 59) hx hb hts hin12 tyX12 tyX12_ok nmX12 hown hK hP hD hS 0 rfl rfl 7 (Nat.le_of_ble_eq_true rfl) (ho (.fieldLink RX12 189 "NearEnoughModel" "end" "I") (List.mem_of_getElem? (i := 0) rfl)) (fun _ h9 => h9) rfl (tyX12_ok 7 (Nat.le_of_ble_eq_true rfl)) rfl rfl (Nat.le_of_ble_eq_true rfl) dX12_next_316 (fun H locs hP hD hS => ?_)
          have hP : va_P (dC, dI) vwCl (mW h ad cl (sI (sI τ 9 z65) 7 z66)) H := hP
          have hD : va_D A (mW h ad cl (sI (sI τ 9 z65) 7 z66)) := hD
          refine lv_goto (tgt := 259) hx hb dX12_next_319 rfl ?_
          have qq67 : (((sI (sI τ 9 z65) 7 z66)).1 7).toInt = (z66 : Int32).toInt := rfl
          have o53 : ((τ.1 3).toInt - z66.toInt).toNat < n259 := by omega
          have o54 : (0 : Int) ≤ z66.toInt := by omega
          have o55 : z66.toInt ≤ 1000 := by omega
          have o56 : (σ.1 7).toInt ≤ z66.toInt := by omega
          have o57 : z66.toInt ≤ (σ.1 3).toInt := by omega
          have o58 : (σ.1 7).toInt ≤ (τ.1 6).toInt := by omega
          have o59 : (τ.1 6).toInt ≤ z66.toInt := by omega
          exact ih259 (sI (sI τ 9 z65) 7 z66) cv _ _ _ (show ((τ.1 3).toInt - z66.toInt).toNat < n259 from o53) (Inv.sI (Inv.sI hIτ (Inv.any z65)) (show (0 : Int) ≤ z66.toInt ∧ z66.toInt ≤ 1000 from ⟨o54, o55⟩)) (eqx.sI (eqx.sI hxτ rg_35) rg_30) (show (σ.1 7).toInt ≤ z66.toInt ∧ z66.toInt ≤ (σ.1 3).toInt from ⟨o56, o57⟩) (show (σ.1 7).toInt ≤ (τ.1 6).toInt ∧ (τ.1 6).toInt ≤ z66.toInt from ⟨o58, o59⟩) (by omega) hcs hP hD hS (lv_sub hl [0, 1] rfl)
  have pt_8 : ∀ (n8 : Nat) (τ : MS) (H : Heap) (locs : List Loc) (ls : Array Slot), ((τ.1 3).toInt - (τ.1 6).toInt).toNat < n8 → (Inv τ) → (eqx [6, 7, 8, 9, 10] τ σ) → ((σ.1 7).toInt ≤ (τ.1 7).toInt ∧ (τ.1 7).toInt ≤ (σ.1 3).toInt) → ((σ.1 7).toInt ≤ (τ.1 6).toInt) → va_P (dC, dI) vwCl (mW h ad cl τ) H → va_D A (mW h ad cl τ) → va_S A s.heap H locs → lv_has ls 3 [(0, .ref h)] → W p l e (headSpec vs_n_next rm_n_next).room s m #[Value.ref h] below meth c H locs 0 0 Q (F0 m 8 ls []) := by
    intro n8
    induction n8 with
    | zero => intro τ H locs ls hn8 hIτ hxτ hgτ hat hP hD hS hl; exact absurd hn8 (Nat.not_lt_zero _)
    | succ n8 ih8 =>
      intro τ H locs ls hn8 hIτ hxτ hgτ hat hP hD hS hl
      have bτ_3 : 0 ≤ (τ.1 3).toInt ∧ (τ.1 3).toInt ≤ 1000 := hIτ.1 3
      have qq68 : (τ.1 3).toInt = ((σ.1 3) : Int32).toInt := congrArg Int32.toInt (((hxτ 3 rg_22).1))
      have bτ_6 : 0 ≤ (τ.1 6).toInt ∧ (τ.1 6).toInt ≤ 1000 := hIτ.1 6
      have bτ_7 : 0 ≤ (τ.1 7).toInt ∧ (τ.1 7).toInt ≤ 1000 := hIτ.1 7
      refine lv_aload_n hx hb dX12_next_8 rfl (lv_at hl 0 rfl) ?_
      refine va_get (D := (dC, dI)) (ci := 12) (v := .int (τ.1 6)) (C := RX12) (T := TX12) (N := 59) hx hb hts hin12 hown hK hP 0 rfl rfl 6 (Nat.le_of_ble_eq_true rfl) (ho (.fieldLink RX12 192 "NearEnoughModel" "at" "I") (List.mem_of_getElem? (i := 1) rfl)) (fun _ h9 => h9) rfl dX12_next_9 ?_
      have bτ_6 : 0 ≤ (τ.1 6).toInt ∧ (τ.1 6).toInt ≤ 1000 := hIτ.1 6
      refine lv_aload_n hx hb dX12_next_12 rfl (lv_at hl 0 rfl) ?_
      refine va_get (D := (dC, dI)) (ci := 12) (v := .int (τ.1 3)) (C := RX12) (T := TX12) (N := 59) hx hb hts hin12 hown hK hP 0 rfl rfl 3 (Nat.le_of_ble_eq_true rfl) (ho (.fieldLink RX12 137 "NearEnoughModel" "size" "I") (List.mem_of_getElem? (i := 5) rfl)) (fun _ h9 => h9) rfl dX12_next_13 ?_
      refine zi (v := (σ.1 3)) ((hxτ 3 rg_22).1) ?_
      have bb69 : 0 ≤ (σ.1 3).toInt ∧ (σ.1 3).toInt ≤ 1000 := by have h9 := hIτ.1 3; rw [show (τ.1 3) = (σ.1 3) from ((hxτ 3 rg_22).1)] at h9; exact h9
      refine lv_icmp_ge (tgt := 58) hx hb dX12_next_16 rfl (fun c70 => ?_) (fun c70 => ?_)
      · have tc70 := (show (σ.1 3).toInt ≤ (τ.1 6).toInt from ti_le rfl rfl c70)
        refine lv_aload_n hx hb dX12_next_58 rfl (lv_at hl 0 rfl) ?_
        refine lv_aload_n hx hb dX12_next_59 rfl (lv_at hl 0 rfl) ?_
        refine va_get (D := (dC, dI)) (ci := 12) (v := .int (τ.1 6)) (C := RX12) (T := TX12) (N := 59) hx hb hts hin12 hown hK hP 0 rfl rfl 6 (Nat.le_of_ble_eq_true rfl) (ho (.fieldLink RX12 192 "NearEnoughModel" "at" "I") (List.mem_of_getElem? (i := 1) rfl)) (fun _ h9 => h9) rfl dX12_next_60 ?_
        have bτ_6 : 0 ≤ (τ.1 6).toInt ∧ (τ.1 6).toInt ≤ 1000 := hIτ.1 6
        have o60 : 0 ≤ ((τ.1 6)).toInt := by omega
        refine zy_i (va_runV (As := [.int (τ.1 6)]) (rest := []) ⟨hx, hb, hml, hown, hts⟩ (n_sign l dC dI h ad cl H.size τ (τ.1 6) hIτ o60) (cwV 1 hts gd_n_next_195_n_sign rfl rfl rfl dd_n_sign ⟨Nat.le_of_ble_eq_true rfl, Nat.le_of_ble_eq_true rfl⟩) (preV hP hK hD hE (ci := 12) (q0 := 0) rfl rfl) rfl rfl hl.1 rfl (lv_room (Nat.le_of_ble_eq_true rfl)) dX12_next_63 ⟨Nat.le_of_ble_eq_true rfl, Nat.le_of_ble_eq_true rfl⟩) hD hS hA (fun z72 τ71 H locs hq hP hD hS => ?_)
        obtain ⟨rfl, f73, f74, f75⟩ := hq
        refine W.widen (k := 0) (n := 0) (Nat.le_of_ble_eq_true rfl) (Nat.le_of_ble_eq_true rfl) ?_
        refine lv_istore_n (lv' := [(1, .int z72), (0, .ref h)]) hx hb dX12_next_66 rfl hl (Nat.le_of_ble_eq_true rfl) rfl (fun ls hl => ?_)
        refine lv_aload_n hx hb dX12_next_67 rfl (lv_at hl 1 rfl) ?_
        refine lv_aload_n hx hb dX12_next_68 rfl (lv_at hl 1 rfl) ?_
        refine va_get (D := (dC, dI)) (ci := 12) (v := .int (τ.1 6)) (C := RX12) (T := TX12) (N := 59) hx hb hts hin12 hown hK hP 0 rfl rfl 6 (Nat.le_of_ble_eq_true rfl) (ho (.fieldLink RX12 192 "NearEnoughModel" "at" "I") (List.mem_of_getElem? (i := 1) rfl)) (fun _ h9 => h9) rfl dX12_next_69 ?_
        have bτ_6 : 0 ≤ (τ.1 6).toInt ∧ (τ.1 6).toInt ≤ 1000 := hIτ.1 6
        refine lv_iconst (v := 1) hx hb dX12_next_72 rg_6 ?_
        refine lv_iadd hx hb dX12_next_73 ?_
        refine lv_topi (fun z76 ez76 => ?_)
        have o61 : -2147483648 ≤ (τ.1 6).toInt + 1 := by omega
        have o62 : (τ.1 6).toInt + 1 ≤ 2147483647 := by omega
        have tz76 : z76.toInt = (τ.1 6).toInt + 1 := ti_add ez76 rfl rg_18 o61 o62
        refine va_put (D := (dC, dI)) (ci := 12) (v := .int z76) (ty := tyX12 7) (C := RX12) (T := TX12) (N := 59) hx hb hts hin12 tyX12 tyX12_ok nmX12 hown hK hP hD hS 0 rfl rfl 7 (Nat.le_of_ble_eq_true rfl) (ho (.fieldLink RX12 189 "NearEnoughModel" "end" "I") (List.mem_of_getElem? (i := 0) rfl)) (fun _ h9 => h9) rfl (tyX12_ok 7 (Nat.le_of_ble_eq_true rfl)) rfl rfl (Nat.le_of_ble_eq_true rfl) dX12_next_74 (fun H locs hP hD hS => ?_)
        have hP : va_P (dC, dI) vwCl (mW h ad cl (sI τ 7 z76)) H := hP
        have hD : va_D A (mW h ad cl (sI τ 7 z76)) := hD
        refine lv_aload_n hx hb dX12_next_77 rfl (lv_at hl 1 rfl) ?_
        refine va_get (D := (dC, dI)) (ci := 12) (v := .int (τ.1 6)) (C := RX12) (T := TX12) (N := 59) hx hb hts hin12 hown hK hP 0 rfl rfl 6 (Nat.le_of_ble_eq_true rfl) (ho (.fieldLink RX12 192 "NearEnoughModel" "at" "I") (List.mem_of_getElem? (i := 1) rfl)) (fun _ h9 => h9) rfl dX12_next_78 ?_
        have bτ_6 : 0 ≤ (τ.1 6).toInt ∧ (τ.1 6).toInt ≤ 1000 := hIτ.1 6
        refine lv_aload_n hx hb dX12_next_81 rfl (lv_at hl 1 rfl) ?_
        refine va_get (D := (dC, dI)) (ci := 12) (v := .int (τ.1 3)) (C := RX12) (T := TX12) (N := 59) hx hb hts hin12 hown hK hP 0 rfl rfl 3 (Nat.le_of_ble_eq_true rfl) (ho (.fieldLink RX12 137 "NearEnoughModel" "size" "I") (List.mem_of_getElem? (i := 5) rfl)) (fun _ h9 => h9) rfl dX12_next_82 ?_
        refine zi (v := (σ.1 3)) ((hxτ 3 rg_22).1) ?_
        have bb77 : 0 ≤ (σ.1 3).toInt ∧ (σ.1 3).toInt ≤ 1000 := by have h9 := hIτ.1 3; rw [show (τ.1 3) = (σ.1 3) from ((hxτ 3 rg_22).1)] at h9; exact h9
        refine lv_icmp_lt (tgt := 112) hx hb dX12_next_85 rfl (fun c78 => ?_) (fun c78 => ?_)
        · have tc78 := (show (τ.1 6).toInt < (σ.1 3).toInt from ti_lt rfl rfl c78)
          refine lv_iload_n hx hb dX12_next_112 rfl (lv_at hl 0 rfl) ?_
          refine zs_i (va_runS (As := [.int z72]) (rest := []) ⟨hx, hb, hml, hown, hts⟩ (n_isLetter l dC dI z72  H.size) (va_cwS 1 hts gd_n_next_202_n_isLetter rfl rfl rfl dd_n_isLetter ⟨Nat.le_of_ble_eq_true rfl, Nat.le_of_ble_eq_true rfl⟩) (preS (A := A) empP (hK.sub (tys' := []) [] rfl) empD hE) rfl rfl hl.1 rfl (lv_room (Nat.le_of_ble_eq_true rfl)) dX12_next_113 ⟨Nat.le_of_ble_eq_true rfl, Nat.le_of_ble_eq_true rfl⟩) hP hD hS hA (fun z79 H locs hq hP hD hS => ?_)
          obtain f80 := hq
          refine W.widen (k := 0) (n := 0) (Nat.le_of_ble_eq_true rfl) (Nat.le_of_ble_eq_true rfl) ?_
          refine lv_if_eq (tgt := 239) hx hb dX12_next_116 rfl (fun c81 => ?_) (fun c81 => ?_)
          · have tc81 := (show z79.toInt = 0 from ti_eq rfl rg_11 c81)
            refine lv_iload_n hx hb dX12_next_239 rfl (lv_at hl 0 rfl) ?_
            refine zs_i (va_runS (As := [.int z72]) (rest := []) ⟨hx, hb, hml, hown, hts⟩ (n_isDigit l dC dI z72  H.size) (va_cwS 1 hts gd_n_next_214_n_isDigit rfl rfl rfl dd_n_isDigit ⟨Nat.le_of_ble_eq_true rfl, Nat.le_of_ble_eq_true rfl⟩) (preS (A := A) empP (hK.sub (tys' := []) [] rfl) empD hE) rfl rfl hl.1 rfl (lv_room (Nat.le_of_ble_eq_true rfl)) dX12_next_240 ⟨Nat.le_of_ble_eq_true rfl, Nat.le_of_ble_eq_true rfl⟩) hP hD hS hA (fun z82 H locs hq hP hD hS => ?_)
            obtain f83 := hq
            refine W.widen (k := 0) (n := 0) (Nat.le_of_ble_eq_true rfl) (Nat.le_of_ble_eq_true rfl) ?_
            refine lv_if_eq (tgt := 361) hx hb dX12_next_243 rfl (fun c84 => ?_) (fun c84 => ?_)
            · have tc84 := (show z82.toInt = 0 from ti_eq rfl rg_11 c84)
              refine lv_aload_n hx hb dX12_next_361 rfl (lv_at hl 1 rfl) ?_
              refine lv_iload_n hx hb dX12_next_362 rfl (lv_at hl 0 rfl) ?_
              refine lv_bipush (v := 59) hx hb dX12_next_363 rg_36 ?_
              refine lv_icmp_eq (tgt := 374) hx hb dX12_next_365 rfl (fun c85 => ?_) (fun c85 => ?_)
              · have tc85 := (show z72.toInt = 59 from ti_eq rfl rg_37 c85)
                refine lv_iconst (v := 5) hx hb dX12_next_374 rg_14 ?_
                refine lv_goto (tgt := 379) hx hb dX12_next_375 rfl ?_
                refine va_put (D := (dC, dI)) (ci := 12) (v := .int 5) (ty := tyX12 8) (C := RX12) (T := TX12) (N := 59) hx hb hts hin12 tyX12 tyX12_ok nmX12 hown hK hP hD hS 0 rfl rfl 8 (Nat.le_of_ble_eq_true rfl) (ho (.fieldLink RX12 199 "NearEnoughModel" "token" "I") (List.mem_of_getElem? (i := 3) rfl)) (fun _ h9 => h9) rfl (tyX12_ok 8 (Nat.le_of_ble_eq_true rfl)) rfl rfl (Nat.le_of_ble_eq_true rfl) dX12_next_379 (fun H locs hP hD hS => ?_)
                have hP : va_P (dC, dI) vwCl (mW h ad cl (sI (sI τ 7 z76) 8 5)) H := hP
                have hD : va_D A (mW h ad cl (sI (sI τ 7 z76) 8 5)) := hD
                rw [hQ]
                have qq86 : (((sI (sI τ 7 z76) 8 5)).1 7).toInt = (z76 : Int32).toInt := rfl
                have o63 : (0 : Int) ≤ z76.toInt := by omega
                have o64 : z76.toInt ≤ 1000 := by omega
                have o65 : (σ.1 7).toInt ≤ z76.toInt := by omega
                exact W.vret hx hb hr (fun t ht hW => ⟨⟨(sI (sI τ 7 z76) 8 5), rfl, ⟨(Inv.sI (Inv.sI hIτ (show (0 : Int) ≤ z76.toInt ∧ z76.toInt ≤ 1000 from ⟨o63, o64⟩)) rg_38), (eqx.sI (eqx.sI hxτ rg_30) rg_26), ⟨(show (σ.1 7).toInt ≤ z76.toInt from o65), (show ((5 : Int32) : Int32).toInt = 0 ∨ (σ.1 7).toInt < (z76 : Int32).toInt by have k9 : (5 : Int32).toInt = 5 := (by decide); omega)⟩, (show _ ∧ _ from ⟨((hxτ 3 rg_22).1), show (σ.1 7).toInt ≤ z76.toInt by omega, show z76.toInt ≤ (σ.1 3).toInt by omega, Or.inl (show ((5 : Int32) : Int32).toInt = 0 ∨ (σ.1 7).toInt < (z76 : Int32).toInt by have k9 : (5 : Int32).toInt = 5 := (by decide); omega)⟩)⟩, wEn_of hP (hK.sub [] rfl) hD ht hW⟩, hS.F ht⟩) hS.2.2 dX12_next_382
              · have tc85 := (show z72.toInt ≠ 59 from ti_ne rfl rg_37 c85)
                refine lv_iload_n hx hb dX12_next_368 rfl (lv_at hl 0 rfl) ?_
                refine lv_bipush (v := 45) hx hb dX12_next_369 rg_39 ?_
                refine lv_icmp_ne (tgt := 378) hx hb dX12_next_371 rfl (fun c87 => ?_) (fun c87 => ?_)
                · have tc87 := (show z72.toInt ≠ 45 from ti_ne rfl rg_40 c87)
                  refine lv_iconst (v := 1) hx hb dX12_next_378 rg_6 ?_
                  refine va_put (D := (dC, dI)) (ci := 12) (v := .int 1) (ty := tyX12 8) (C := RX12) (T := TX12) (N := 59) hx hb hts hin12 tyX12 tyX12_ok nmX12 hown hK hP hD hS 0 rfl rfl 8 (Nat.le_of_ble_eq_true rfl) (ho (.fieldLink RX12 199 "NearEnoughModel" "token" "I") (List.mem_of_getElem? (i := 3) rfl)) (fun _ h9 => h9) rfl (tyX12_ok 8 (Nat.le_of_ble_eq_true rfl)) rfl rfl (Nat.le_of_ble_eq_true rfl) dX12_next_379 (fun H locs hP hD hS => ?_)
                  have hP : va_P (dC, dI) vwCl (mW h ad cl (sI (sI τ 7 z76) 8 1)) H := hP
                  have hD : va_D A (mW h ad cl (sI (sI τ 7 z76) 8 1)) := hD
                  rw [hQ]
                  have qq88 : (((sI (sI τ 7 z76) 8 1)).1 7).toInt = (z76 : Int32).toInt := rfl
                  have o66 : (0 : Int) ≤ z76.toInt := by omega
                  have o67 : z76.toInt ≤ 1000 := by omega
                  have o68 : (σ.1 7).toInt ≤ z76.toInt := by omega
                  exact W.vret hx hb hr (fun t ht hW => ⟨⟨(sI (sI τ 7 z76) 8 1), rfl, ⟨(Inv.sI (Inv.sI hIτ (show (0 : Int) ≤ z76.toInt ∧ z76.toInt ≤ 1000 from ⟨o66, o67⟩)) rg_28), (eqx.sI (eqx.sI hxτ rg_30) rg_26), ⟨(show (σ.1 7).toInt ≤ z76.toInt from o68), (show ((1 : Int32) : Int32).toInt = 0 ∨ (σ.1 7).toInt < (z76 : Int32).toInt by have k9 : (1 : Int32).toInt = 1 := (by decide); omega)⟩, (show _ ∧ _ from ⟨((hxτ 3 rg_22).1), show (σ.1 7).toInt ≤ z76.toInt by omega, show z76.toInt ≤ (σ.1 3).toInt by omega, Or.inl (show ((1 : Int32) : Int32).toInt = 0 ∨ (σ.1 7).toInt < (z76 : Int32).toInt by have k9 : (1 : Int32).toInt = 1 := (by decide); omega)⟩)⟩, wEn_of hP (hK.sub [] rfl) hD ht hW⟩, hS.F ht⟩) hS.2.2 dX12_next_382
                · have tc87 := (show z72.toInt = 45 from ti_eq rfl rg_40 c87)
                  refine lv_iconst (v := 5) hx hb dX12_next_374 rg_14 ?_
                  refine lv_goto (tgt := 379) hx hb dX12_next_375 rfl ?_
                  refine va_put (D := (dC, dI)) (ci := 12) (v := .int 5) (ty := tyX12 8) (C := RX12) (T := TX12) (N := 59) hx hb hts hin12 tyX12 tyX12_ok nmX12 hown hK hP hD hS 0 rfl rfl 8 (Nat.le_of_ble_eq_true rfl) (ho (.fieldLink RX12 199 "NearEnoughModel" "token" "I") (List.mem_of_getElem? (i := 3) rfl)) (fun _ h9 => h9) rfl (tyX12_ok 8 (Nat.le_of_ble_eq_true rfl)) rfl rfl (Nat.le_of_ble_eq_true rfl) dX12_next_379 (fun H locs hP hD hS => ?_)
                  have hP : va_P (dC, dI) vwCl (mW h ad cl (sI (sI τ 7 z76) 8 5)) H := hP
                  have hD : va_D A (mW h ad cl (sI (sI τ 7 z76) 8 5)) := hD
                  rw [hQ]
                  have qq89 : (((sI (sI τ 7 z76) 8 5)).1 7).toInt = (z76 : Int32).toInt := rfl
                  have o69 : (0 : Int) ≤ z76.toInt := by omega
                  have o70 : z76.toInt ≤ 1000 := by omega
                  have o71 : (σ.1 7).toInt ≤ z76.toInt := by omega
                  exact W.vret hx hb hr (fun t ht hW => ⟨⟨(sI (sI τ 7 z76) 8 5), rfl, ⟨(Inv.sI (Inv.sI hIτ (show (0 : Int) ≤ z76.toInt ∧ z76.toInt ≤ 1000 from ⟨o69, o70⟩)) rg_38), (eqx.sI (eqx.sI hxτ rg_30) rg_26), ⟨(show (σ.1 7).toInt ≤ z76.toInt from o71), (show ((5 : Int32) : Int32).toInt = 0 ∨ (σ.1 7).toInt < (z76 : Int32).toInt by have k9 : (5 : Int32).toInt = 5 := (by decide); omega)⟩, (show _ ∧ _ from ⟨((hxτ 3 rg_22).1), show (σ.1 7).toInt ≤ z76.toInt by omega, show z76.toInt ≤ (σ.1 3).toInt by omega, Or.inl (show ((5 : Int32) : Int32).toInt = 0 ∨ (σ.1 7).toInt < (z76 : Int32).toInt by have k9 : (5 : Int32).toInt = 5 := (by decide); omega)⟩)⟩, wEn_of hP (hK.sub [] rfl) hD ht hW⟩, hS.F ht⟩) hS.2.2 dX12_next_382
            · have tc84 := (show z82.toInt ≠ 0 from ti_ne rfl rg_11 c84)
              refine lv_aload_n hx hb dX12_next_246 rfl (lv_at hl 1 rfl) ?_
              refine lv_iconst (v := 0) hx hb dX12_next_247 rg_0 ?_
              refine va_put (D := (dC, dI)) (ci := 12) (v := .int 0) (ty := tyX12 9) (C := RX12) (T := TX12) (N := 59) hx hb hts hin12 tyX12 tyX12_ok nmX12 hown hK hP hD hS 0 rfl rfl 9 (Nat.le_of_ble_eq_true rfl) (ho (.fieldLink RX12 217 "NearEnoughModel" "number" "I") (List.mem_of_getElem? (i := 4) rfl)) (fun _ h9 => h9) rfl (tyX12_ok 9 (Nat.le_of_ble_eq_true rfl)) rfl rfl (Nat.le_of_ble_eq_true rfl) dX12_next_248 (fun H locs hP hD hS => ?_)
              have hP : va_P (dC, dI) vwCl (mW h ad cl (sI (sI τ 7 z76) 9 0)) H := hP
              have hD : va_D A (mW h ad cl (sI (sI τ 7 z76) 9 0)) := hD
              refine lv_aload_n hx hb dX12_next_251 rfl (lv_at hl 1 rfl) ?_
              refine lv_aload_n hx hb dX12_next_252 rfl (lv_at hl 1 rfl) ?_
              refine va_get (D := (dC, dI)) (ci := 12) (v := .int (τ.1 6)) (C := RX12) (T := TX12) (N := 59) hx hb hts hin12 hown hK hP 0 rfl rfl 6 (Nat.le_of_ble_eq_true rfl) (ho (.fieldLink RX12 192 "NearEnoughModel" "at" "I") (List.mem_of_getElem? (i := 1) rfl)) (fun _ h9 => h9) rfl dX12_next_253 ?_
              have bτ_6 : 0 ≤ (τ.1 6).toInt ∧ (τ.1 6).toInt ≤ 1000 := hIτ.1 6
              refine va_put (D := (dC, dI)) (ci := 12) (v := .int (τ.1 6)) (ty := tyX12 7) (C := RX12) (T := TX12) (N := 59) hx hb hts hin12 tyX12 tyX12_ok nmX12 hown hK hP hD hS 0 rfl rfl 7 (Nat.le_of_ble_eq_true rfl) (ho (.fieldLink RX12 189 "NearEnoughModel" "end" "I") (List.mem_of_getElem? (i := 0) rfl)) (fun _ h9 => h9) rfl (tyX12_ok 7 (Nat.le_of_ble_eq_true rfl)) rfl rfl (Nat.le_of_ble_eq_true rfl) dX12_next_256 (fun H locs hP hD hS => ?_)
              have hP : va_P (dC, dI) vwCl (mW h ad cl (sI (sI τ 9 0) 7 (τ.1 6))) H := hP
              have hD : va_D A (mW h ad cl (sI (sI τ 9 0) 7 (τ.1 6))) := hD
              have qq90 : (((sI (sI τ 9 0) 7 (τ.1 6))).1 7).toInt = ((τ.1 6) : Int32).toInt := rfl
              have o72 : (0 : Int) ≤ (τ.1 6).toInt := by omega
              have o73 : (τ.1 6).toInt ≤ 1000 := by omega
              have o74 : (σ.1 7).toInt ≤ (τ.1 6).toInt := by omega
              have o75 : (τ.1 6).toInt ≤ (σ.1 3).toInt := by omega
              have o76 : (τ.1 6).toInt ≤ (τ.1 6).toInt := by omega
              exact pt_259 _ (sI (sI τ 9 0) 7 (τ.1 6)) z72 _ _ _ (Nat.lt_succ_self _) (Inv.sI (Inv.sI hIτ (Inv.any 0)) (show (0 : Int) ≤ (τ.1 6).toInt ∧ (τ.1 6).toInt ≤ 1000 from ⟨o72, o73⟩)) (eqx.sI (eqx.sI hxτ rg_35) rg_30) (show (σ.1 7).toInt ≤ (τ.1 6).toInt ∧ (τ.1 6).toInt ≤ (σ.1 3).toInt from ⟨o74, o75⟩) (show (σ.1 7).toInt ≤ (τ.1 6).toInt ∧ (τ.1 6).toInt ≤ (τ.1 6).toInt from ⟨o74, o76⟩) (by omega) f75 hP hD hS (lv_sub hl [1, 0] rfl)
          · have tc81 := (show z79.toInt ≠ 0 from ti_ne rfl rg_11 c81)
            have qq91 : (((sI τ 7 z76)).1 7).toInt = (z76 : Int32).toInt := rfl
            have o77 : (0 : Int) ≤ z76.toInt := by omega
            have o78 : z76.toInt ≤ 1000 := by omega
            have o79 : (σ.1 7).toInt ≤ z76.toInt := by omega
            have o80 : z76.toInt ≤ (σ.1 3).toInt := by omega
            have o81 : (σ.1 7).toInt < z76.toInt := by omega
            exact pt_119 _ (sI τ 7 z76) z72 _ _ _ (Nat.lt_succ_self _) (Inv.sI hIτ (show (0 : Int) ≤ z76.toInt ∧ z76.toInt ≤ 1000 from ⟨o77, o78⟩)) (eqx.sI hxτ rg_30) (show (σ.1 7).toInt ≤ z76.toInt ∧ z76.toInt ≤ (σ.1 3).toInt from ⟨o79, o80⟩) (show (σ.1 7).toInt < z76.toInt from o81) hP hD hS (lv_sub hl [1, 0] rfl)
        · have tc78 := (show (σ.1 3).toInt ≤ (τ.1 6).toInt from ti_nlt rfl rfl c78)
          refine lv_aload_n hx hb dX12_next_88 rfl (lv_at hl 1 rfl) ?_
          refine lv_iconst (v := 0) hx hb dX12_next_89 rg_0 ?_
          refine va_put (D := (dC, dI)) (ci := 12) (v := .int 0) (ty := tyX12 8) (C := RX12) (T := TX12) (N := 59) hx hb hts hin12 tyX12 tyX12_ok nmX12 hown hK hP hD hS 0 rfl rfl 8 (Nat.le_of_ble_eq_true rfl) (ho (.fieldLink RX12 199 "NearEnoughModel" "token" "I") (List.mem_of_getElem? (i := 3) rfl)) (fun _ h9 => h9) rfl (tyX12_ok 8 (Nat.le_of_ble_eq_true rfl)) rfl rfl (Nat.le_of_ble_eq_true rfl) dX12_next_90 (fun H locs hP hD hS => ?_)
          have hP : va_P (dC, dI) vwCl (mW h ad cl (sI (sI τ 7 z76) 8 0)) H := hP
          have hD : va_D A (mW h ad cl (sI (sI τ 7 z76) 8 0)) := hD
          refine lv_aload_n hx hb dX12_next_93 rfl (lv_at hl 1 rfl) ?_
          refine lv_aload_n hx hb dX12_next_94 rfl (lv_at hl 1 rfl) ?_
          refine va_get (D := (dC, dI)) (ci := 12) (v := .int (τ.1 3)) (C := RX12) (T := TX12) (N := 59) hx hb hts hin12 hown hK hP 0 rfl rfl 3 (Nat.le_of_ble_eq_true rfl) (ho (.fieldLink RX12 137 "NearEnoughModel" "size" "I") (List.mem_of_getElem? (i := 5) rfl)) (fun _ h9 => h9) rfl dX12_next_95 ?_
          refine zi (v := (σ.1 3)) ((hxτ 3 rg_22).1) ?_
          have bb92 : 0 ≤ (σ.1 3).toInt ∧ (σ.1 3).toInt ≤ 1000 := by have h9 := hIτ.1 3; rw [show (τ.1 3) = (σ.1 3) from ((hxτ 3 rg_22).1)] at h9; exact h9
          refine va_put (D := (dC, dI)) (ci := 12) (v := .int (σ.1 3)) (ty := tyX12 6) (C := RX12) (T := TX12) (N := 59) hx hb hts hin12 tyX12 tyX12_ok nmX12 hown hK hP hD hS 0 rfl rfl 6 (Nat.le_of_ble_eq_true rfl) (ho (.fieldLink RX12 192 "NearEnoughModel" "at" "I") (List.mem_of_getElem? (i := 1) rfl)) (fun _ h9 => h9) rfl (tyX12_ok 6 (Nat.le_of_ble_eq_true rfl)) rfl rfl (Nat.le_of_ble_eq_true rfl) dX12_next_98 (fun H locs hP hD hS => ?_)
          have hP : va_P (dC, dI) vwCl (mW h ad cl (sI (sI (sI τ 7 z76) 8 0) 6 (σ.1 3))) H := hP
          have hD : va_D A (mW h ad cl (sI (sI (sI τ 7 z76) 8 0) 6 (σ.1 3))) := hD
          refine lv_aload_n hx hb dX12_next_101 rfl (lv_at hl 1 rfl) ?_
          refine lv_aload_n hx hb dX12_next_102 rfl (lv_at hl 1 rfl) ?_
          refine va_get (D := (dC, dI)) (ci := 12) (v := .int (τ.1 3)) (C := RX12) (T := TX12) (N := 59) hx hb hts hin12 hown hK hP 0 rfl rfl 3 (Nat.le_of_ble_eq_true rfl) (ho (.fieldLink RX12 137 "NearEnoughModel" "size" "I") (List.mem_of_getElem? (i := 5) rfl)) (fun _ h9 => h9) rfl dX12_next_103 ?_
          refine zi (v := (σ.1 3)) ((hxτ 3 rg_22).1) ?_
          have bb93 : 0 ≤ (σ.1 3).toInt ∧ (σ.1 3).toInt ≤ 1000 := by have h9 := hIτ.1 3; rw [show (τ.1 3) = (σ.1 3) from ((hxτ 3 rg_22).1)] at h9; exact h9
          refine va_put (D := (dC, dI)) (ci := 12) (v := .int (σ.1 3)) (ty := tyX12 7) (C := RX12) (T := TX12) (N := 59) hx hb hts hin12 tyX12 tyX12_ok nmX12 hown hK hP hD hS 0 rfl rfl 7 (Nat.le_of_ble_eq_true rfl) (ho (.fieldLink RX12 189 "NearEnoughModel" "end" "I") (List.mem_of_getElem? (i := 0) rfl)) (fun _ h9 => h9) rfl (tyX12_ok 7 (Nat.le_of_ble_eq_true rfl)) rfl rfl (Nat.le_of_ble_eq_true rfl) dX12_next_106 (fun H locs hP hD hS => ?_)
          have hP : va_P (dC, dI) vwCl (mW h ad cl (sI (sI (sI τ 8 0) 6 (σ.1 3)) 7 (σ.1 3))) H := hP
          have hD : va_D A (mW h ad cl (sI (sI (sI τ 8 0) 6 (σ.1 3)) 7 (σ.1 3))) := hD
          refine lv_goto (tgt := 382) hx hb dX12_next_109 rfl ?_
          rw [hQ]
          have qq94 : (((sI (sI (sI τ 8 0) 6 (σ.1 3)) 7 (σ.1 3))).1 7).toInt = ((σ.1 3) : Int32).toInt := rfl
          have o82 : (0 : Int) ≤ (σ.1 3).toInt := by omega
          have o83 : (σ.1 3).toInt ≤ 1000 := by omega
          have o84 : (σ.1 7).toInt ≤ (σ.1 3).toInt := by omega
          exact W.vret hx hb hr (fun t ht hW => ⟨⟨(sI (sI (sI τ 8 0) 6 (σ.1 3)) 7 (σ.1 3)), rfl, ⟨(Inv.sI (Inv.sI (Inv.sI hIτ rg_41) (show (0 : Int) ≤ (σ.1 3).toInt ∧ (σ.1 3).toInt ≤ 1000 from ⟨o82, o83⟩)) (show (0 : Int) ≤ (σ.1 3).toInt ∧ (σ.1 3).toInt ≤ 1000 from ⟨o82, o83⟩)), (eqx.sI (eqx.sI (eqx.sI hxτ rg_26) rg_42) rg_30), ⟨(show (σ.1 7).toInt ≤ (σ.1 3).toInt from o84), (show ((0 : Int32) : Int32).toInt = 0 ∨ (σ.1 7).toInt < ((σ.1 3) : Int32).toInt by have k9 : (0 : Int32).toInt = 0 := (by decide); omega)⟩, (show _ ∧ _ from ⟨((hxτ 3 rg_22).1), show (σ.1 7).toInt ≤ (σ.1 3).toInt by omega, show (σ.1 3).toInt ≤ (σ.1 3).toInt by omega, Or.inl (show ((0 : Int32) : Int32).toInt = 0 ∨ (σ.1 7).toInt < ((σ.1 3) : Int32).toInt by have k9 : (0 : Int32).toInt = 0 := (by decide); omega)⟩)⟩, wEn_of hP (hK.sub [] rfl) hD ht hW⟩, hS.F ht⟩) hS.2.2 dX12_next_382
      · have tc70 := (show (τ.1 6).toInt < (σ.1 3).toInt from ti_nle rfl rfl c70)
        refine lv_aload_n hx hb dX12_next_19 rfl (lv_at hl 0 rfl) ?_
        refine lv_aload_n hx hb dX12_next_20 rfl (lv_at hl 0 rfl) ?_
        refine va_get (D := (dC, dI)) (ci := 12) (v := .int (τ.1 6)) (C := RX12) (T := TX12) (N := 59) hx hb hts hin12 hown hK hP 0 rfl rfl 6 (Nat.le_of_ble_eq_true rfl) (ho (.fieldLink RX12 192 "NearEnoughModel" "at" "I") (List.mem_of_getElem? (i := 1) rfl)) (fun _ h9 => h9) rfl dX12_next_21 ?_
        have bτ_6 : 0 ≤ (τ.1 6).toInt ∧ (τ.1 6).toInt ≤ 1000 := hIτ.1 6
        have o85 : 0 ≤ ((τ.1 6)).toInt := by omega
        refine zy_i (va_runV (As := [.int (τ.1 6)]) (rest := []) ⟨hx, hb, hml, hown, hts⟩ (n_sign l dC dI h ad cl H.size τ (τ.1 6) hIτ o85) (cwV 1 hts gd_n_next_195_n_sign rfl rfl rfl dd_n_sign ⟨Nat.le_of_ble_eq_true rfl, Nat.le_of_ble_eq_true rfl⟩) (preV hP hK hD hE (ci := 12) (q0 := 0) rfl rfl) rfl rfl hl.1 rfl (lv_room (Nat.le_of_ble_eq_true rfl)) dX12_next_24 ⟨Nat.le_of_ble_eq_true rfl, Nat.le_of_ble_eq_true rfl⟩) hD hS hA (fun z96 τ95 H locs hq hP hD hS => ?_)
        obtain ⟨rfl, f97, f98, f99⟩ := hq
        refine W.widen (k := 0) (n := 0) (Nat.le_of_ble_eq_true rfl) (Nat.le_of_ble_eq_true rfl) ?_
        refine lv_bipush (v := 32) hx hb dX12_next_27 rg_43 ?_
        refine lv_icmp_eq (tgt := 45) hx hb dX12_next_29 rfl (fun c100 => ?_) (fun c100 => ?_)
        · have tc100 := (show z96.toInt = 32 from ti_eq rfl rg_44 c100)
          refine lv_aload_n hx hb dX12_next_45 rfl (lv_at hl 0 rfl) ?_
          refine lv_dup hx hb dX12_next_46 rfl ?_
          refine va_get (D := (dC, dI)) (ci := 12) (v := .int (τ.1 6)) (C := RX12) (T := TX12) (N := 59) hx hb hts hin12 hown hK hP 0 rfl rfl 6 (Nat.le_of_ble_eq_true rfl) (ho (.fieldLink RX12 192 "NearEnoughModel" "at" "I") (List.mem_of_getElem? (i := 1) rfl)) (fun _ h9 => h9) rfl dX12_next_47 ?_
          have bτ_6 : 0 ≤ (τ.1 6).toInt ∧ (τ.1 6).toInt ≤ 1000 := hIτ.1 6
          refine lv_iconst (v := 1) hx hb dX12_next_50 rg_6 ?_
          refine lv_iadd hx hb dX12_next_51 ?_
          refine lv_topi (fun z101 ez101 => ?_)
          have o86 : -2147483648 ≤ (τ.1 6).toInt + 1 := by omega
          have o87 : (τ.1 6).toInt + 1 ≤ 2147483647 := by omega
          have tz101 : z101.toInt = (τ.1 6).toInt + 1 := ti_add ez101 rfl rg_18 o86 o87
          refine va_put (D := (dC, dI)) (ci := 12) (v := .int z101) (ty := tyX12 6) (C := RX12) (T := TX12) (N := 59) hx hb hts hin12 tyX12 tyX12_ok nmX12 hown hK hP hD hS 0 rfl rfl 6 (Nat.le_of_ble_eq_true rfl) (ho (.fieldLink RX12 192 "NearEnoughModel" "at" "I") (List.mem_of_getElem? (i := 1) rfl)) (fun _ h9 => h9) rfl (tyX12_ok 6 (Nat.le_of_ble_eq_true rfl)) rfl rfl (Nat.le_of_ble_eq_true rfl) dX12_next_52 (fun H locs hP hD hS => ?_)
          have hP : va_P (dC, dI) vwCl (mW h ad cl (sI τ 6 z101)) H := hP
          have hD : va_D A (mW h ad cl (sI τ 6 z101)) := hD
          refine lv_goto (tgt := 8) hx hb dX12_next_55 rfl ?_
          have o88 : ((τ.1 3).toInt - z101.toInt).toNat < n8 := by omega
          have o89 : (0 : Int) ≤ z101.toInt := by omega
          have o90 : z101.toInt ≤ 1000 := by omega
          have o91 : (σ.1 7).toInt ≤ (τ.1 7).toInt := by omega
          have o92 : (τ.1 7).toInt ≤ (σ.1 3).toInt := by omega
          have o93 : (σ.1 7).toInt ≤ z101.toInt := by omega
          exact ih8 (sI τ 6 z101)  _ _ _ (show ((τ.1 3).toInt - z101.toInt).toNat < n8 from o88) (Inv.sI hIτ (show (0 : Int) ≤ z101.toInt ∧ z101.toInt ≤ 1000 from ⟨o89, o90⟩)) (eqx.sI hxτ rg_42) (show (σ.1 7).toInt ≤ (τ.1 7).toInt ∧ (τ.1 7).toInt ≤ (σ.1 3).toInt from ⟨o91, o92⟩) (show (σ.1 7).toInt ≤ z101.toInt from o93) hP hD hS (lv_sub hl [0] rfl)
        · have tc100 := (show z96.toInt ≠ 32 from ti_ne rfl rg_44 c100)
          refine lv_aload_n hx hb dX12_next_32 rfl (lv_at hl 0 rfl) ?_
          refine lv_aload_n hx hb dX12_next_33 rfl (lv_at hl 0 rfl) ?_
          refine va_get (D := (dC, dI)) (ci := 12) (v := .int (τ.1 6)) (C := RX12) (T := TX12) (N := 59) hx hb hts hin12 hown hK hP 0 rfl rfl 6 (Nat.le_of_ble_eq_true rfl) (ho (.fieldLink RX12 192 "NearEnoughModel" "at" "I") (List.mem_of_getElem? (i := 1) rfl)) (fun _ h9 => h9) rfl dX12_next_34 ?_
          have bτ_6 : 0 ≤ (τ.1 6).toInt ∧ (τ.1 6).toInt ≤ 1000 := hIτ.1 6
          refine zy_i (va_runV (As := [.int (τ.1 6)]) (rest := []) ⟨hx, hb, hml, hown, hts⟩ (n_sign l dC dI h ad cl H.size τ (τ.1 6) hIτ o85) (cwV 1 hts gd_n_next_195_n_sign rfl rfl rfl dd_n_sign ⟨Nat.le_of_ble_eq_true rfl, Nat.le_of_ble_eq_true rfl⟩) (preV hP hK hD hE (ci := 12) (q0 := 0) rfl rfl) rfl rfl hl.1 rfl (lv_room (Nat.le_of_ble_eq_true rfl)) dX12_next_37 ⟨Nat.le_of_ble_eq_true rfl, Nat.le_of_ble_eq_true rfl⟩) hD hS hA (fun z103 τ102 H locs hq hP hD hS => ?_)
          obtain ⟨rfl, f104, f105, f106⟩ := hq
          refine W.widen (k := 0) (n := 0) (Nat.le_of_ble_eq_true rfl) (Nat.le_of_ble_eq_true rfl) ?_
          refine lv_bipush (v := 10) hx hb dX12_next_40 rg_34 ?_
          refine lv_icmp_ne (tgt := 58) hx hb dX12_next_42 rfl (fun c107 => ?_) (fun c107 => ?_)
          · have tc107 := (show z103.toInt ≠ 10 from ti_ne rfl rg_45 c107)
            refine lv_aload_n hx hb dX12_next_58 rfl (lv_at hl 0 rfl) ?_
            refine lv_aload_n hx hb dX12_next_59 rfl (lv_at hl 0 rfl) ?_
            refine va_get (D := (dC, dI)) (ci := 12) (v := .int (τ.1 6)) (C := RX12) (T := TX12) (N := 59) hx hb hts hin12 hown hK hP 0 rfl rfl 6 (Nat.le_of_ble_eq_true rfl) (ho (.fieldLink RX12 192 "NearEnoughModel" "at" "I") (List.mem_of_getElem? (i := 1) rfl)) (fun _ h9 => h9) rfl dX12_next_60 ?_
            have bτ_6 : 0 ≤ (τ.1 6).toInt ∧ (τ.1 6).toInt ≤ 1000 := hIτ.1 6
            refine zy_i (va_runV (As := [.int (τ.1 6)]) (rest := []) ⟨hx, hb, hml, hown, hts⟩ (n_sign l dC dI h ad cl H.size τ (τ.1 6) hIτ o85) (cwV 1 hts gd_n_next_195_n_sign rfl rfl rfl dd_n_sign ⟨Nat.le_of_ble_eq_true rfl, Nat.le_of_ble_eq_true rfl⟩) (preV hP hK hD hE (ci := 12) (q0 := 0) rfl rfl) rfl rfl hl.1 rfl (lv_room (Nat.le_of_ble_eq_true rfl)) dX12_next_63 ⟨Nat.le_of_ble_eq_true rfl, Nat.le_of_ble_eq_true rfl⟩) hD hS hA (fun z109 τ108 H locs hq hP hD hS => ?_)
            obtain ⟨rfl, f110, f111, f112⟩ := hq
            refine W.widen (k := 0) (n := 0) (Nat.le_of_ble_eq_true rfl) (Nat.le_of_ble_eq_true rfl) ?_
            refine lv_istore_n (lv' := [(1, .int z109), (0, .ref h)]) hx hb dX12_next_66 rfl hl (Nat.le_of_ble_eq_true rfl) rfl (fun ls hl => ?_)
            refine lv_aload_n hx hb dX12_next_67 rfl (lv_at hl 1 rfl) ?_
            refine lv_aload_n hx hb dX12_next_68 rfl (lv_at hl 1 rfl) ?_
            refine va_get (D := (dC, dI)) (ci := 12) (v := .int (τ.1 6)) (C := RX12) (T := TX12) (N := 59) hx hb hts hin12 hown hK hP 0 rfl rfl 6 (Nat.le_of_ble_eq_true rfl) (ho (.fieldLink RX12 192 "NearEnoughModel" "at" "I") (List.mem_of_getElem? (i := 1) rfl)) (fun _ h9 => h9) rfl dX12_next_69 ?_
            have bτ_6 : 0 ≤ (τ.1 6).toInt ∧ (τ.1 6).toInt ≤ 1000 := hIτ.1 6
            refine lv_iconst (v := 1) hx hb dX12_next_72 rg_6 ?_
            refine lv_iadd hx hb dX12_next_73 ?_
            refine lv_topi (fun z113 ez113 => ?_)
            have o94 : -2147483648 ≤ (τ.1 6).toInt + 1 := by omega
            have o95 : (τ.1 6).toInt + 1 ≤ 2147483647 := by omega
            have tz113 : z113.toInt = (τ.1 6).toInt + 1 := ti_add ez113 rfl rg_18 o94 o95
            refine va_put (D := (dC, dI)) (ci := 12) (v := .int z113) (ty := tyX12 7) (C := RX12) (T := TX12) (N := 59) hx hb hts hin12 tyX12 tyX12_ok nmX12 hown hK hP hD hS 0 rfl rfl 7 (Nat.le_of_ble_eq_true rfl) (ho (.fieldLink RX12 189 "NearEnoughModel" "end" "I") (List.mem_of_getElem? (i := 0) rfl)) (fun _ h9 => h9) rfl (tyX12_ok 7 (Nat.le_of_ble_eq_true rfl)) rfl rfl (Nat.le_of_ble_eq_true rfl) dX12_next_74 (fun H locs hP hD hS => ?_)
            have hP : va_P (dC, dI) vwCl (mW h ad cl (sI τ 7 z113)) H := hP
            have hD : va_D A (mW h ad cl (sI τ 7 z113)) := hD
            refine lv_aload_n hx hb dX12_next_77 rfl (lv_at hl 1 rfl) ?_
            refine va_get (D := (dC, dI)) (ci := 12) (v := .int (τ.1 6)) (C := RX12) (T := TX12) (N := 59) hx hb hts hin12 hown hK hP 0 rfl rfl 6 (Nat.le_of_ble_eq_true rfl) (ho (.fieldLink RX12 192 "NearEnoughModel" "at" "I") (List.mem_of_getElem? (i := 1) rfl)) (fun _ h9 => h9) rfl dX12_next_78 ?_
            have bτ_6 : 0 ≤ (τ.1 6).toInt ∧ (τ.1 6).toInt ≤ 1000 := hIτ.1 6
            refine lv_aload_n hx hb dX12_next_81 rfl (lv_at hl 1 rfl) ?_
            refine va_get (D := (dC, dI)) (ci := 12) (v := .int (τ.1 3)) (C := RX12) (T := TX12) (N := 59) hx hb hts hin12 hown hK hP 0 rfl rfl 3 (Nat.le_of_ble_eq_true rfl) (ho (.fieldLink RX12 137 "NearEnoughModel" "size" "I") (List.mem_of_getElem? (i := 5) rfl)) (fun _ h9 => h9) rfl dX12_next_82 ?_
            refine zi (v := (σ.1 3)) ((hxτ 3 rg_22).1) ?_
            have bb114 : 0 ≤ (σ.1 3).toInt ∧ (σ.1 3).toInt ≤ 1000 := by have h9 := hIτ.1 3; rw [show (τ.1 3) = (σ.1 3) from ((hxτ 3 rg_22).1)] at h9; exact h9
            refine lv_icmp_lt (tgt := 112) hx hb dX12_next_85 rfl (fun c115 => ?_) (fun c115 => ?_)
            · have tc115 := (show (τ.1 6).toInt < (σ.1 3).toInt from ti_lt rfl rfl c115)
              refine lv_iload_n hx hb dX12_next_112 rfl (lv_at hl 0 rfl) ?_
              refine zs_i (va_runS (As := [.int z109]) (rest := []) ⟨hx, hb, hml, hown, hts⟩ (n_isLetter l dC dI z109  H.size) (va_cwS 1 hts gd_n_next_202_n_isLetter rfl rfl rfl dd_n_isLetter ⟨Nat.le_of_ble_eq_true rfl, Nat.le_of_ble_eq_true rfl⟩) (preS (A := A) empP (hK.sub (tys' := []) [] rfl) empD hE) rfl rfl hl.1 rfl (lv_room (Nat.le_of_ble_eq_true rfl)) dX12_next_113 ⟨Nat.le_of_ble_eq_true rfl, Nat.le_of_ble_eq_true rfl⟩) hP hD hS hA (fun z116 H locs hq hP hD hS => ?_)
              obtain f117 := hq
              refine W.widen (k := 0) (n := 0) (Nat.le_of_ble_eq_true rfl) (Nat.le_of_ble_eq_true rfl) ?_
              refine lv_if_eq (tgt := 239) hx hb dX12_next_116 rfl (fun c118 => ?_) (fun c118 => ?_)
              · have tc118 := (show z116.toInt = 0 from ti_eq rfl rg_11 c118)
                refine lv_iload_n hx hb dX12_next_239 rfl (lv_at hl 0 rfl) ?_
                refine zs_i (va_runS (As := [.int z109]) (rest := []) ⟨hx, hb, hml, hown, hts⟩ (n_isDigit l dC dI z109  H.size) (va_cwS 1 hts gd_n_next_214_n_isDigit rfl rfl rfl dd_n_isDigit ⟨Nat.le_of_ble_eq_true rfl, Nat.le_of_ble_eq_true rfl⟩) (preS (A := A) empP (hK.sub (tys' := []) [] rfl) empD hE) rfl rfl hl.1 rfl (lv_room (Nat.le_of_ble_eq_true rfl)) dX12_next_240 ⟨Nat.le_of_ble_eq_true rfl, Nat.le_of_ble_eq_true rfl⟩) hP hD hS hA (fun z119 H locs hq hP hD hS => ?_)
                obtain f120 := hq
                refine W.widen (k := 0) (n := 0) (Nat.le_of_ble_eq_true rfl) (Nat.le_of_ble_eq_true rfl) ?_
                refine lv_if_eq (tgt := 361) hx hb dX12_next_243 rfl (fun c121 => ?_) (fun c121 => ?_)
                · have tc121 := (show z119.toInt = 0 from ti_eq rfl rg_11 c121)
                  refine lv_aload_n hx hb dX12_next_361 rfl (lv_at hl 1 rfl) ?_
                  refine lv_iload_n hx hb dX12_next_362 rfl (lv_at hl 0 rfl) ?_
                  refine lv_bipush (v := 59) hx hb dX12_next_363 rg_36 ?_
                  refine lv_icmp_eq (tgt := 374) hx hb dX12_next_365 rfl (fun c122 => ?_) (fun c122 => ?_)
                  · have tc122 := (show z109.toInt = 59 from ti_eq rfl rg_37 c122)
                    refine lv_iconst (v := 5) hx hb dX12_next_374 rg_14 ?_
                    refine lv_goto (tgt := 379) hx hb dX12_next_375 rfl ?_
                    refine va_put (D := (dC, dI)) (ci := 12) (v := .int 5) (ty := tyX12 8) (C := RX12) (T := TX12) (N := 59) hx hb hts hin12 tyX12 tyX12_ok nmX12 hown hK hP hD hS 0 rfl rfl 8 (Nat.le_of_ble_eq_true rfl) (ho (.fieldLink RX12 199 "NearEnoughModel" "token" "I") (List.mem_of_getElem? (i := 3) rfl)) (fun _ h9 => h9) rfl (tyX12_ok 8 (Nat.le_of_ble_eq_true rfl)) rfl rfl (Nat.le_of_ble_eq_true rfl) dX12_next_379 (fun H locs hP hD hS => ?_)
                    have hP : va_P (dC, dI) vwCl (mW h ad cl (sI (sI τ 7 z113) 8 5)) H := hP
                    have hD : va_D A (mW h ad cl (sI (sI τ 7 z113) 8 5)) := hD
                    rw [hQ]
                    have qq123 : (((sI (sI τ 7 z113) 8 5)).1 7).toInt = (z113 : Int32).toInt := rfl
                    have o96 : (0 : Int) ≤ z113.toInt := by omega
                    have o97 : z113.toInt ≤ 1000 := by omega
                    have o98 : (σ.1 7).toInt ≤ z113.toInt := by omega
                    exact W.vret hx hb hr (fun t ht hW => ⟨⟨(sI (sI τ 7 z113) 8 5), rfl, ⟨(Inv.sI (Inv.sI hIτ (show (0 : Int) ≤ z113.toInt ∧ z113.toInt ≤ 1000 from ⟨o96, o97⟩)) rg_38), (eqx.sI (eqx.sI hxτ rg_30) rg_26), ⟨(show (σ.1 7).toInt ≤ z113.toInt from o98), (show ((5 : Int32) : Int32).toInt = 0 ∨ (σ.1 7).toInt < (z113 : Int32).toInt by have k9 : (5 : Int32).toInt = 5 := (by decide); omega)⟩, (show _ ∧ _ from ⟨((hxτ 3 rg_22).1), show (σ.1 7).toInt ≤ z113.toInt by omega, show z113.toInt ≤ (σ.1 3).toInt by omega, Or.inl (show ((5 : Int32) : Int32).toInt = 0 ∨ (σ.1 7).toInt < (z113 : Int32).toInt by have k9 : (5 : Int32).toInt = 5 := (by decide); omega)⟩)⟩, wEn_of hP (hK.sub [] rfl) hD ht hW⟩, hS.F ht⟩) hS.2.2 dX12_next_382
                  · have tc122 := (show z109.toInt ≠ 59 from ti_ne rfl rg_37 c122)
                    refine lv_iload_n hx hb dX12_next_368 rfl (lv_at hl 0 rfl) ?_
                    refine lv_bipush (v := 45) hx hb dX12_next_369 rg_39 ?_
                    refine lv_icmp_ne (tgt := 378) hx hb dX12_next_371 rfl (fun c124 => ?_) (fun c124 => ?_)
                    · have tc124 := (show z109.toInt ≠ 45 from ti_ne rfl rg_40 c124)
                      refine lv_iconst (v := 1) hx hb dX12_next_378 rg_6 ?_
                      refine va_put (D := (dC, dI)) (ci := 12) (v := .int 1) (ty := tyX12 8) (C := RX12) (T := TX12) (N := 59) hx hb hts hin12 tyX12 tyX12_ok nmX12 hown hK hP hD hS 0 rfl rfl 8 (Nat.le_of_ble_eq_true rfl) (ho (.fieldLink RX12 199 "NearEnoughModel" "token" "I") (List.mem_of_getElem? (i := 3) rfl)) (fun _ h9 => h9) rfl (tyX12_ok 8 (Nat.le_of_ble_eq_true rfl)) rfl rfl (Nat.le_of_ble_eq_true rfl) dX12_next_379 (fun H locs hP hD hS => ?_)
                      have hP : va_P (dC, dI) vwCl (mW h ad cl (sI (sI τ 7 z113) 8 1)) H := hP
                      have hD : va_D A (mW h ad cl (sI (sI τ 7 z113) 8 1)) := hD
                      rw [hQ]
                      have qq125 : (((sI (sI τ 7 z113) 8 1)).1 7).toInt = (z113 : Int32).toInt := rfl
                      have o99 : (0 : Int) ≤ z113.toInt := by omega
                      have o100 : z113.toInt ≤ 1000 := by omega
                      have o101 : (σ.1 7).toInt ≤ z113.toInt := by omega
                      exact W.vret hx hb hr (fun t ht hW => ⟨⟨(sI (sI τ 7 z113) 8 1), rfl, ⟨(Inv.sI (Inv.sI hIτ (show (0 : Int) ≤ z113.toInt ∧ z113.toInt ≤ 1000 from ⟨o99, o100⟩)) rg_28), (eqx.sI (eqx.sI hxτ rg_30) rg_26), ⟨(show (σ.1 7).toInt ≤ z113.toInt from o101), (show ((1 : Int32) : Int32).toInt = 0 ∨ (σ.1 7).toInt < (z113 : Int32).toInt by have k9 : (1 : Int32).toInt = 1 := (by decide); omega)⟩, (show _ ∧ _ from ⟨((hxτ 3 rg_22).1), show (σ.1 7).toInt ≤ z113.toInt by omega, show z113.toInt ≤ (σ.1 3).toInt by omega, Or.inl (show ((1 : Int32) : Int32).toInt = 0 ∨ (σ.1 7).toInt < (z113 : Int32).toInt by have k9 : (1 : Int32).toInt = 1 := (by decide); omega)⟩)⟩, wEn_of hP (hK.sub [] rfl) hD ht hW⟩, hS.F ht⟩) hS.2.2 dX12_next_382
                    · have tc124 := (show z109.toInt = 45 from ti_eq rfl rg_40 c124)
                      refine lv_iconst (v := 5) hx hb dX12_next_374 rg_14 ?_
                      refine lv_goto (tgt := 379) hx hb dX12_next_375 rfl ?_
                      refine va_put (D := (dC, dI)) (ci := 12) (v := .int 5) (ty := tyX12 8) (C := RX12) (T := TX12) (N := 59) hx hb hts hin12 tyX12 tyX12_ok nmX12 hown hK hP hD hS 0 rfl rfl 8 (Nat.le_of_ble_eq_true rfl) (ho (.fieldLink RX12 199 "NearEnoughModel" "token" "I") (List.mem_of_getElem? (i := 3) rfl)) (fun _ h9 => h9) rfl (tyX12_ok 8 (Nat.le_of_ble_eq_true rfl)) rfl rfl (Nat.le_of_ble_eq_true rfl) dX12_next_379 (fun H locs hP hD hS => ?_)
                      have hP : va_P (dC, dI) vwCl (mW h ad cl (sI (sI τ 7 z113) 8 5)) H := hP
                      have hD : va_D A (mW h ad cl (sI (sI τ 7 z113) 8 5)) := hD
                      rw [hQ]
                      have qq126 : (((sI (sI τ 7 z113) 8 5)).1 7).toInt = (z113 : Int32).toInt := rfl
                      have o102 : (0 : Int) ≤ z113.toInt := by omega
                      have o103 : z113.toInt ≤ 1000 := by omega
                      have o104 : (σ.1 7).toInt ≤ z113.toInt := by omega
                      exact W.vret hx hb hr (fun t ht hW => ⟨⟨(sI (sI τ 7 z113) 8 5), rfl, ⟨(Inv.sI (Inv.sI hIτ (show (0 : Int) ≤ z113.toInt ∧ z113.toInt ≤ 1000 from ⟨o102, o103⟩)) rg_38), (eqx.sI (eqx.sI hxτ rg_30) rg_26), ⟨(show (σ.1 7).toInt ≤ z113.toInt from o104), (show ((5 : Int32) : Int32).toInt = 0 ∨ (σ.1 7).toInt < (z113 : Int32).toInt by have k9 : (5 : Int32).toInt = 5 := (by decide); omega)⟩, (show _ ∧ _ from ⟨((hxτ 3 rg_22).1), show (σ.1 7).toInt ≤ z113.toInt by omega, show z113.toInt ≤ (σ.1 3).toInt by omega, Or.inl (show ((5 : Int32) : Int32).toInt = 0 ∨ (σ.1 7).toInt < (z113 : Int32).toInt by have k9 : (5 : Int32).toInt = 5 := (by decide); omega)⟩)⟩, wEn_of hP (hK.sub [] rfl) hD ht hW⟩, hS.F ht⟩) hS.2.2 dX12_next_382
                · have tc121 := (show z119.toInt ≠ 0 from ti_ne rfl rg_11 c121)
                  refine lv_aload_n hx hb dX12_next_246 rfl (lv_at hl 1 rfl) ?_
                  refine lv_iconst (v := 0) hx hb dX12_next_247 rg_0 ?_
                  refine va_put (D := (dC, dI)) (ci := 12) (v := .int 0) (ty := tyX12 9) (C := RX12) (T := TX12) (N := 59) hx hb hts hin12 tyX12 tyX12_ok nmX12 hown hK hP hD hS 0 rfl rfl 9 (Nat.le_of_ble_eq_true rfl) (ho (.fieldLink RX12 217 "NearEnoughModel" "number" "I") (List.mem_of_getElem? (i := 4) rfl)) (fun _ h9 => h9) rfl (tyX12_ok 9 (Nat.le_of_ble_eq_true rfl)) rfl rfl (Nat.le_of_ble_eq_true rfl) dX12_next_248 (fun H locs hP hD hS => ?_)
                  have hP : va_P (dC, dI) vwCl (mW h ad cl (sI (sI τ 7 z113) 9 0)) H := hP
                  have hD : va_D A (mW h ad cl (sI (sI τ 7 z113) 9 0)) := hD
                  refine lv_aload_n hx hb dX12_next_251 rfl (lv_at hl 1 rfl) ?_
                  refine lv_aload_n hx hb dX12_next_252 rfl (lv_at hl 1 rfl) ?_
                  refine va_get (D := (dC, dI)) (ci := 12) (v := .int (τ.1 6)) (C := RX12) (T := TX12) (N := 59) hx hb hts hin12 hown hK hP 0 rfl rfl 6 (Nat.le_of_ble_eq_true rfl) (ho (.fieldLink RX12 192 "NearEnoughModel" "at" "I") (List.mem_of_getElem? (i := 1) rfl)) (fun _ h9 => h9) rfl dX12_next_253 ?_
                  have bτ_6 : 0 ≤ (τ.1 6).toInt ∧ (τ.1 6).toInt ≤ 1000 := hIτ.1 6
                  refine va_put (D := (dC, dI)) (ci := 12) (v := .int (τ.1 6)) (ty := tyX12 7) (C := RX12) (T := TX12) (N := 59) hx hb hts hin12 tyX12 tyX12_ok nmX12 hown hK hP hD hS 0 rfl rfl 7 (Nat.le_of_ble_eq_true rfl) (ho (.fieldLink RX12 189 "NearEnoughModel" "end" "I") (List.mem_of_getElem? (i := 0) rfl)) (fun _ h9 => h9) rfl (tyX12_ok 7 (Nat.le_of_ble_eq_true rfl)) rfl rfl (Nat.le_of_ble_eq_true rfl) dX12_next_256 (fun H locs hP hD hS => ?_)
                  have hP : va_P (dC, dI) vwCl (mW h ad cl (sI (sI τ 9 0) 7 (τ.1 6))) H := hP
                  have hD : va_D A (mW h ad cl (sI (sI τ 9 0) 7 (τ.1 6))) := hD
                  have qq127 : (((sI (sI τ 9 0) 7 (τ.1 6))).1 7).toInt = ((τ.1 6) : Int32).toInt := rfl
                  have o105 : (0 : Int) ≤ (τ.1 6).toInt := by omega
                  have o106 : (τ.1 6).toInt ≤ 1000 := by omega
                  have o107 : (σ.1 7).toInt ≤ (τ.1 6).toInt := by omega
                  have o108 : (τ.1 6).toInt ≤ (σ.1 3).toInt := by omega
                  have o109 : (τ.1 6).toInt ≤ (τ.1 6).toInt := by omega
                  exact pt_259 _ (sI (sI τ 9 0) 7 (τ.1 6)) z109 _ _ _ (Nat.lt_succ_self _) (Inv.sI (Inv.sI hIτ (Inv.any 0)) (show (0 : Int) ≤ (τ.1 6).toInt ∧ (τ.1 6).toInt ≤ 1000 from ⟨o105, o106⟩)) (eqx.sI (eqx.sI hxτ rg_35) rg_30) (show (σ.1 7).toInt ≤ (τ.1 6).toInt ∧ (τ.1 6).toInt ≤ (σ.1 3).toInt from ⟨o107, o108⟩) (show (σ.1 7).toInt ≤ (τ.1 6).toInt ∧ (τ.1 6).toInt ≤ (τ.1 6).toInt from ⟨o107, o109⟩) (by omega) f112 hP hD hS (lv_sub hl [1, 0] rfl)
              · have tc118 := (show z116.toInt ≠ 0 from ti_ne rfl rg_11 c118)
                have qq128 : (((sI τ 7 z113)).1 7).toInt = (z113 : Int32).toInt := rfl
                have o110 : (0 : Int) ≤ z113.toInt := by omega
                have o111 : z113.toInt ≤ 1000 := by omega
                have o112 : (σ.1 7).toInt ≤ z113.toInt := by omega
                have o113 : z113.toInt ≤ (σ.1 3).toInt := by omega
                have o114 : (σ.1 7).toInt < z113.toInt := by omega
                exact pt_119 _ (sI τ 7 z113) z109 _ _ _ (Nat.lt_succ_self _) (Inv.sI hIτ (show (0 : Int) ≤ z113.toInt ∧ z113.toInt ≤ 1000 from ⟨o110, o111⟩)) (eqx.sI hxτ rg_30) (show (σ.1 7).toInt ≤ z113.toInt ∧ z113.toInt ≤ (σ.1 3).toInt from ⟨o112, o113⟩) (show (σ.1 7).toInt < z113.toInt from o114) hP hD hS (lv_sub hl [1, 0] rfl)
            · have tc115 := (show (σ.1 3).toInt ≤ (τ.1 6).toInt from ti_nlt rfl rfl c115)
              refine lv_aload_n hx hb dX12_next_88 rfl (lv_at hl 1 rfl) ?_
              refine lv_iconst (v := 0) hx hb dX12_next_89 rg_0 ?_
              refine va_put (D := (dC, dI)) (ci := 12) (v := .int 0) (ty := tyX12 8) (C := RX12) (T := TX12) (N := 59) hx hb hts hin12 tyX12 tyX12_ok nmX12 hown hK hP hD hS 0 rfl rfl 8 (Nat.le_of_ble_eq_true rfl) (ho (.fieldLink RX12 199 "NearEnoughModel" "token" "I") (List.mem_of_getElem? (i := 3) rfl)) (fun _ h9 => h9) rfl (tyX12_ok 8 (Nat.le_of_ble_eq_true rfl)) rfl rfl (Nat.le_of_ble_eq_true rfl) dX12_next_90 (fun H locs hP hD hS => ?_)
              have hP : va_P (dC, dI) vwCl (mW h ad cl (sI (sI τ 7 z113) 8 0)) H := hP
              have hD : va_D A (mW h ad cl (sI (sI τ 7 z113) 8 0)) := hD
              refine lv_aload_n hx hb dX12_next_93 rfl (lv_at hl 1 rfl) ?_
              refine lv_aload_n hx hb dX12_next_94 rfl (lv_at hl 1 rfl) ?_
              refine va_get (D := (dC, dI)) (ci := 12) (v := .int (τ.1 3)) (C := RX12) (T := TX12) (N := 59) hx hb hts hin12 hown hK hP 0 rfl rfl 3 (Nat.le_of_ble_eq_true rfl) (ho (.fieldLink RX12 137 "NearEnoughModel" "size" "I") (List.mem_of_getElem? (i := 5) rfl)) (fun _ h9 => h9) rfl dX12_next_95 ?_
              refine zi (v := (σ.1 3)) ((hxτ 3 rg_22).1) ?_
              have bb129 : 0 ≤ (σ.1 3).toInt ∧ (σ.1 3).toInt ≤ 1000 := by have h9 := hIτ.1 3; rw [show (τ.1 3) = (σ.1 3) from ((hxτ 3 rg_22).1)] at h9; exact h9
              refine va_put (D := (dC, dI)) (ci := 12) (v := .int (σ.1 3)) (ty := tyX12 6) (C := RX12) (T := TX12) (N := 59) hx hb hts hin12 tyX12 tyX12_ok nmX12 hown hK hP hD hS 0 rfl rfl 6 (Nat.le_of_ble_eq_true rfl) (ho (.fieldLink RX12 192 "NearEnoughModel" "at" "I") (List.mem_of_getElem? (i := 1) rfl)) (fun _ h9 => h9) rfl (tyX12_ok 6 (Nat.le_of_ble_eq_true rfl)) rfl rfl (Nat.le_of_ble_eq_true rfl) dX12_next_98 (fun H locs hP hD hS => ?_)
              have hP : va_P (dC, dI) vwCl (mW h ad cl (sI (sI (sI τ 7 z113) 8 0) 6 (σ.1 3))) H := hP
              have hD : va_D A (mW h ad cl (sI (sI (sI τ 7 z113) 8 0) 6 (σ.1 3))) := hD
              refine lv_aload_n hx hb dX12_next_101 rfl (lv_at hl 1 rfl) ?_
              refine lv_aload_n hx hb dX12_next_102 rfl (lv_at hl 1 rfl) ?_
              refine va_get (D := (dC, dI)) (ci := 12) (v := .int (τ.1 3)) (C := RX12) (T := TX12) (N := 59) hx hb hts hin12 hown hK hP 0 rfl rfl 3 (Nat.le_of_ble_eq_true rfl) (ho (.fieldLink RX12 137 "NearEnoughModel" "size" "I") (List.mem_of_getElem? (i := 5) rfl)) (fun _ h9 => h9) rfl dX12_next_103 ?_
              refine zi (v := (σ.1 3)) ((hxτ 3 rg_22).1) ?_
              have bb130 : 0 ≤ (σ.1 3).toInt ∧ (σ.1 3).toInt ≤ 1000 := by have h9 := hIτ.1 3; rw [show (τ.1 3) = (σ.1 3) from ((hxτ 3 rg_22).1)] at h9; exact h9
              refine va_put (D := (dC, dI)) (ci := 12) (v := .int (σ.1 3)) (ty := tyX12 7) (C := RX12) (T := TX12) (N := 59) hx hb hts hin12 tyX12 tyX12_ok nmX12 hown hK hP hD hS 0 rfl rfl 7 (Nat.le_of_ble_eq_true rfl) (ho (.fieldLink RX12 189 "NearEnoughModel" "end" "I") (List.mem_of_getElem? (i := 0) rfl)) (fun _ h9 => h9) rfl (tyX12_ok 7 (Nat.le_of_ble_eq_true rfl)) rfl rfl (Nat.le_of_ble_eq_true rfl) dX12_next_106 (fun H locs hP hD hS => ?_)
              have hP : va_P (dC, dI) vwCl (mW h ad cl (sI (sI (sI τ 8 0) 6 (σ.1 3)) 7 (σ.1 3))) H := hP
              have hD : va_D A (mW h ad cl (sI (sI (sI τ 8 0) 6 (σ.1 3)) 7 (σ.1 3))) := hD
              refine lv_goto (tgt := 382) hx hb dX12_next_109 rfl ?_
              rw [hQ]
              have qq131 : (((sI (sI (sI τ 8 0) 6 (σ.1 3)) 7 (σ.1 3))).1 7).toInt = ((σ.1 3) : Int32).toInt := rfl
              have o115 : (0 : Int) ≤ (σ.1 3).toInt := by omega
              have o116 : (σ.1 3).toInt ≤ 1000 := by omega
              have o117 : (σ.1 7).toInt ≤ (σ.1 3).toInt := by omega
              exact W.vret hx hb hr (fun t ht hW => ⟨⟨(sI (sI (sI τ 8 0) 6 (σ.1 3)) 7 (σ.1 3)), rfl, ⟨(Inv.sI (Inv.sI (Inv.sI hIτ rg_41) (show (0 : Int) ≤ (σ.1 3).toInt ∧ (σ.1 3).toInt ≤ 1000 from ⟨o115, o116⟩)) (show (0 : Int) ≤ (σ.1 3).toInt ∧ (σ.1 3).toInt ≤ 1000 from ⟨o115, o116⟩)), (eqx.sI (eqx.sI (eqx.sI hxτ rg_26) rg_42) rg_30), ⟨(show (σ.1 7).toInt ≤ (σ.1 3).toInt from o117), (show ((0 : Int32) : Int32).toInt = 0 ∨ (σ.1 7).toInt < ((σ.1 3) : Int32).toInt by have k9 : (0 : Int32).toInt = 0 := (by decide); omega)⟩, (show _ ∧ _ from ⟨((hxτ 3 rg_22).1), show (σ.1 7).toInt ≤ (σ.1 3).toInt by omega, show (σ.1 3).toInt ≤ (σ.1 3).toInt by omega, Or.inl (show ((0 : Int32) : Int32).toInt = 0 ∨ (σ.1 7).toInt < ((σ.1 3) : Int32).toInt by have k9 : (0 : Int32).toInt = 0 := (by decide); omega)⟩)⟩, wEn_of hP (hK.sub [] rfl) hD ht hW⟩, hS.F ht⟩) hS.2.2 dX12_next_382
          · have tc107 := (show z103.toInt = 10 from ti_eq rfl rg_45 c107)
            refine lv_aload_n hx hb dX12_next_45 rfl (lv_at hl 0 rfl) ?_
            refine lv_dup hx hb dX12_next_46 rfl ?_
            refine va_get (D := (dC, dI)) (ci := 12) (v := .int (τ.1 6)) (C := RX12) (T := TX12) (N := 59) hx hb hts hin12 hown hK hP 0 rfl rfl 6 (Nat.le_of_ble_eq_true rfl) (ho (.fieldLink RX12 192 "NearEnoughModel" "at" "I") (List.mem_of_getElem? (i := 1) rfl)) (fun _ h9 => h9) rfl dX12_next_47 ?_
            have bτ_6 : 0 ≤ (τ.1 6).toInt ∧ (τ.1 6).toInt ≤ 1000 := hIτ.1 6
            refine lv_iconst (v := 1) hx hb dX12_next_50 rg_6 ?_
            refine lv_iadd hx hb dX12_next_51 ?_
            refine lv_topi (fun z132 ez132 => ?_)
            have o118 : -2147483648 ≤ (τ.1 6).toInt + 1 := by omega
            have o119 : (τ.1 6).toInt + 1 ≤ 2147483647 := by omega
            have tz132 : z132.toInt = (τ.1 6).toInt + 1 := ti_add ez132 rfl rg_18 o118 o119
            refine va_put (D := (dC, dI)) (ci := 12) (v := .int z132) (ty := tyX12 6) (C := RX12) (T := TX12) (N := 59) hx hb hts hin12 tyX12 tyX12_ok nmX12 hown hK hP hD hS 0 rfl rfl 6 (Nat.le_of_ble_eq_true rfl) (ho (.fieldLink RX12 192 "NearEnoughModel" "at" "I") (List.mem_of_getElem? (i := 1) rfl)) (fun _ h9 => h9) rfl (tyX12_ok 6 (Nat.le_of_ble_eq_true rfl)) rfl rfl (Nat.le_of_ble_eq_true rfl) dX12_next_52 (fun H locs hP hD hS => ?_)
            have hP : va_P (dC, dI) vwCl (mW h ad cl (sI τ 6 z132)) H := hP
            have hD : va_D A (mW h ad cl (sI τ 6 z132)) := hD
            refine lv_goto (tgt := 8) hx hb dX12_next_55 rfl ?_
            have o120 : ((τ.1 3).toInt - z132.toInt).toNat < n8 := by omega
            have o121 : (0 : Int) ≤ z132.toInt := by omega
            have o122 : z132.toInt ≤ 1000 := by omega
            have o123 : (σ.1 7).toInt ≤ (τ.1 7).toInt := by omega
            have o124 : (τ.1 7).toInt ≤ (σ.1 3).toInt := by omega
            have o125 : (σ.1 7).toInt ≤ z132.toInt := by omega
            exact ih8 (sI τ 6 z132)  _ _ _ (show ((τ.1 3).toInt - z132.toInt).toNat < n8 from o120) (Inv.sI hIτ (show (0 : Int) ≤ z132.toInt ∧ z132.toInt ≤ 1000 from ⟨o121, o122⟩)) (eqx.sI hxτ rg_42) (show (σ.1 7).toInt ≤ (τ.1 7).toInt ∧ (τ.1 7).toInt ≤ (σ.1 3).toInt from ⟨o123, o124⟩) (show (σ.1 7).toInt ≤ z132.toInt from o125) hP hD hS (lv_sub hl [0] rfl)
  refine zH (A := A) (ws := mW h ad cl σ) (fun H hP hS => ?_) hP
  have bσ_3 : 0 ≤ (σ.1 3).toInt ∧ (σ.1 3).toInt ≤ 1000 := hI.1 3
  have bσ_6 : 0 ≤ (σ.1 6).toInt ∧ (σ.1 6).toInt ≤ 1000 := hI.1 6
  have bσ_7 : 0 ≤ (σ.1 7).toInt ∧ (σ.1 7).toInt ≤ 1000 := hI.1 7
  have hes : (σ.1 7).toInt ≤ (σ.1 3).toInt := hes
  refine lv_aload_n hx hb dX12_next_0 rfl (lv_at hl 0 rfl) ?_
  refine lv_aload_n hx hb dX12_next_1 rfl (lv_at hl 0 rfl) ?_
  refine va_get (D := (dC, dI)) (ci := 12) (v := .int (σ.1 7)) (C := RX12) (T := TX12) (N := 59) hx hb hts hin12 hown hK hP 0 rfl rfl 7 (Nat.le_of_ble_eq_true rfl) (ho (.fieldLink RX12 189 "NearEnoughModel" "end" "I") (List.mem_of_getElem? (i := 0) rfl)) (fun _ h9 => h9) rfl dX12_next_2 ?_
  have bσ_7 : 0 ≤ (σ.1 7).toInt ∧ (σ.1 7).toInt ≤ 1000 := hI.1 7
  refine va_put (D := (dC, dI)) (ci := 12) (v := .int (σ.1 7)) (ty := tyX12 6) (C := RX12) (T := TX12) (N := 59) hx hb hts hin12 tyX12 tyX12_ok nmX12 hown hK hP hD hS 0 rfl rfl 6 (Nat.le_of_ble_eq_true rfl) (ho (.fieldLink RX12 192 "NearEnoughModel" "at" "I") (List.mem_of_getElem? (i := 1) rfl)) (fun _ h9 => h9) rfl (tyX12_ok 6 (Nat.le_of_ble_eq_true rfl)) rfl rfl (Nat.le_of_ble_eq_true rfl) dX12_next_5 (fun H locs hP hD hS => ?_)
  have hP : va_P (dC, dI) vwCl (mW h ad cl (sI σ 6 (σ.1 7))) H := hP
  have hD : va_D A (mW h ad cl (sI σ 6 (σ.1 7))) := hD
  have o126 : (0 : Int) ≤ (σ.1 7).toInt := by omega
  have o127 : (σ.1 7).toInt ≤ 1000 := by omega
  have o128 : (σ.1 7).toInt ≤ (σ.1 7).toInt := by omega
  have o129 : (σ.1 7).toInt ≤ (σ.1 3).toInt := by omega
  exact pt_8 _ (sI σ 6 (σ.1 7))  _ _ _ (Nat.lt_succ_self _) (Inv.sI hI (show (0 : Int) ≤ (σ.1 7).toInt ∧ (σ.1 7).toInt ≤ 1000 from ⟨o126, o127⟩)) (eqx.sI eqx.rf rg_42) (show (σ.1 7).toInt ≤ (σ.1 7).toInt ∧ (σ.1 7).toInt ≤ (σ.1 3).toInt from ⟨o128, o129⟩) (show (σ.1 7).toInt ≤ (σ.1 7).toInt from o128) hP hD hS (lv_sub hl [0] rfl)

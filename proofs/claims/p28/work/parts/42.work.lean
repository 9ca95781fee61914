theorem dX12_work_0 : decode cX12_work 0 = .ok (.aload_n 0, 1) := by decide +kernel
theorem dX12_work_1 : decode cX12_work 1 = .ok (.iload_n 1, 1) := by decide +kernel
theorem dX12_work_2 : decode cX12_work 2 = .ok (.invokevirtual 331, 3) := by decide +kernel
theorem dX12_work_5 : decode cX12_work 5 = .ok (.istore 6, 2) := by decide +kernel
theorem dX12_work_7 : decode cX12_work 7 = .ok (.aload_n 0, 1) := by decide +kernel
theorem dX12_work_8 : decode cX12_work 8 = .ok (.getfield 39, 3) := by decide +kernel
theorem dX12_work_11 : decode cX12_work 11 = .ok (.iload 6, 2) := by decide +kernel
theorem dX12_work_13 : decode cX12_work 13 = .ok (.iaload, 1) := by decide +kernel
theorem dX12_work_14 : decode cX12_work 14 = .ok (.tableswitch 256 0 6 #[42, 42, 52, 74, 96, 118, 147], 42) := by decide +kernel
theorem dX12_work_270 : decode cX12_work 270 = .ok (.iload 5, 2) := by decide +kernel
theorem dX12_work_272 : decode cX12_work 272 = .ok (.ifCond .lt 32, 3) := by decide +kernel
theorem dX12_work_304 : decode cX12_work 304 = .ok (.aload 4, 2) := by decide +kernel
theorem dX12_work_306 : decode cX12_work 306 = .ok (.aload_n 0, 1) := by decide +kernel
theorem dX12_work_307 : decode cX12_work 307 = .ok (.getfield 48, 3) := by decide +kernel
theorem dX12_work_310 : decode cX12_work 310 = .ok (.iload 6, 2) := by decide +kernel
theorem dX12_work_312 : decode cX12_work 312 = .ok (.iaload, 1) := by decide +kernel
theorem dX12_work_313 : decode cX12_work 313 = .ok (.laload, 1) := by decide +kernel
theorem dX12_work_314 : decode cX12_work 314 = .ok (.aload 4, 2) := by decide +kernel
theorem dX12_work_316 : decode cX12_work 316 = .ok (.aload_n 0, 1) := by decide +kernel
theorem dX12_work_317 : decode cX12_work 317 = .ok (.getfield 51, 3) := by decide +kernel
theorem dX12_work_320 : decode cX12_work 320 = .ok (.iload 6, 2) := by decide +kernel
theorem dX12_work_322 : decode cX12_work 322 = .ok (.iaload, 1) := by decide +kernel
theorem dX12_work_323 : decode cX12_work 323 = .ok (.laload, 1) := by decide +kernel
theorem dX12_work_324 : decode cX12_work 324 = .ok (.lcmp, 1) := by decide +kernel
theorem dX12_work_325 : decode cX12_work 325 = .ok (.ifCond .ge 7, 3) := by decide +kernel
theorem dX12_work_332 : decode cX12_work 332 = .ok (.iconst 0, 1) := by decide +kernel
theorem dX12_work_333 : decode cX12_work 333 = .ok (.istore 7, 2) := by decide +kernel
theorem dX12_work_335 : decode cX12_work 335 = .ok (.iload 7, 2) := by decide +kernel
theorem dX12_work_337 : decode cX12_work 337 = .ok (.ifCond .eq 16, 3) := by decide +kernel
theorem dX12_work_353 : decode cX12_work 353 = .ok (.aload 4, 2) := by decide +kernel
theorem dX12_work_355 : decode cX12_work 355 = .ok (.aload_n 0, 1) := by decide +kernel
theorem dX12_work_356 : decode cX12_work 356 = .ok (.getfield 45, 3) := by decide +kernel
theorem dX12_work_359 : decode cX12_work 359 = .ok (.iload 6, 2) := by decide +kernel
theorem dX12_work_361 : decode cX12_work 361 = .ok (.iaload, 1) := by decide +kernel
theorem dX12_work_362 : decode cX12_work 362 = .ok (.laload, 1) := by decide +kernel
theorem dX12_work_363 : decode cX12_work 363 = .ok (.lreturn, 1) := by decide +kernel
theorem dX12_work_328 : decode cX12_work 328 = .ok (.iconst 1, 1) := by decide +kernel
theorem dX12_work_329 : decode cX12_work 329 = .ok (.goto 4, 3) := by decide +kernel
theorem dX12_work_340 : decode cX12_work 340 = .ok (.aload 4, 2) := by decide +kernel
theorem dX12_work_342 : decode cX12_work 342 = .ok (.aload_n 0, 1) := by decide +kernel
theorem dX12_work_343 : decode cX12_work 343 = .ok (.getfield 42, 3) := by decide +kernel
theorem dX12_work_346 : decode cX12_work 346 = .ok (.iload 6, 2) := by decide +kernel
theorem dX12_work_348 : decode cX12_work 348 = .ok (.iaload, 1) := by decide +kernel
theorem dX12_work_349 : decode cX12_work 349 = .ok (.laload, 1) := by decide +kernel
theorem dX12_work_350 : decode cX12_work 350 = .ok (.goto 13, 3) := by decide +kernel
theorem dX12_work_275 : decode cX12_work 275 = .ok (.aload_n 0, 1) := by decide +kernel
theorem dX12_work_276 : decode cX12_work 276 = .ok (.getfield 85, 3) := by decide +kernel
theorem dX12_work_279 : decode cX12_work 279 = .ok (.iload 5, 2) := by decide +kernel
theorem dX12_work_281 : decode cX12_work 281 = .ok (.iaload, 1) := by decide +kernel
theorem dX12_work_282 : decode cX12_work 282 = .ok (.iconst 2, 1) := by decide +kernel
theorem dX12_work_283 : decode cX12_work 283 = .ok (.if_icmp .ne 21, 3) := by decide +kernel
theorem dX12_work_286 : decode cX12_work 286 = .ok (.aload_n 0, 1) := by decide +kernel
theorem dX12_work_287 : decode cX12_work 287 = .ok (.getfield 88, 3) := by decide +kernel
theorem dX12_work_290 : decode cX12_work 290 = .ok (.iload 5, 2) := by decide +kernel
theorem dX12_work_292 : decode cX12_work 292 = .ok (.iaload, 1) := by decide +kernel
theorem dX12_work_293 : decode cX12_work 293 = .ok (.ifCond .ne 7, 3) := by decide +kernel
theorem dX12_work_300 : decode cX12_work 300 = .ok (.iconst 0, 1) := by decide +kernel
theorem dX12_work_301 : decode cX12_work 301 = .ok (.goto 32, 3) := by decide +kernel
theorem dX12_work_296 : decode cX12_work 296 = .ok (.iconst 1, 1) := by decide +kernel
theorem dX12_work_297 : decode cX12_work 297 = .ok (.goto 36, 3) := by decide +kernel
theorem dX12_work_56 : decode cX12_work 56 = .ok (.aload_n 0, 1) := by decide +kernel
theorem dX12_work_57 : decode cX12_work 57 = .ok (.iload_n 1, 1) := by decide +kernel
theorem dX12_work_58 : decode cX12_work 58 = .ok (.aload_n 2, 1) := by decide +kernel
theorem dX12_work_59 : decode cX12_work 59 = .ok (.iload_n 3, 1) := by decide +kernel
theorem dX12_work_60 : decode cX12_work 60 = .ok (.iload 5, 2) := by decide +kernel
theorem dX12_work_62 : decode cX12_work 62 = .ok (.invokevirtual 360, 3) := by decide +kernel
theorem dX12_work_65 : decode cX12_work 65 = .ok (.lreturn, 1) := by decide +kernel
theorem dX12_work_66 : decode cX12_work 66 = .ok (.aload 4, 2) := by decide +kernel
theorem dX12_work_68 : decode cX12_work 68 = .ok (.aload_n 0, 1) := by decide +kernel
theorem dX12_work_69 : decode cX12_work 69 = .ok (.getfield 42, 3) := by decide +kernel
theorem dX12_work_72 : decode cX12_work 72 = .ok (.iload 6, 2) := by decide +kernel
theorem dX12_work_74 : decode cX12_work 74 = .ok (.iaload, 1) := by decide +kernel
theorem dX12_work_75 : decode cX12_work 75 = .ok (.laload, 1) := by decide +kernel
theorem dX12_work_76 : decode cX12_work 76 = .ok (.aload 4, 2) := by decide +kernel
theorem dX12_work_78 : decode cX12_work 78 = .ok (.aload_n 0, 1) := by decide +kernel
theorem dX12_work_79 : decode cX12_work 79 = .ok (.getfield 45, 3) := by decide +kernel
theorem dX12_work_82 : decode cX12_work 82 = .ok (.iload 6, 2) := by decide +kernel
theorem dX12_work_84 : decode cX12_work 84 = .ok (.iaload, 1) := by decide +kernel
theorem dX12_work_85 : decode cX12_work 85 = .ok (.laload, 1) := by decide +kernel
theorem dX12_work_86 : decode cX12_work 86 = .ok (.ladd, 1) := by decide +kernel
theorem dX12_work_87 : decode cX12_work 87 = .ok (.lreturn, 1) := by decide +kernel
theorem dX12_work_88 : decode cX12_work 88 = .ok (.aload 4, 2) := by decide +kernel
theorem dX12_work_90 : decode cX12_work 90 = .ok (.aload_n 0, 1) := by decide +kernel
theorem dX12_work_91 : decode cX12_work 91 = .ok (.getfield 42, 3) := by decide +kernel
theorem dX12_work_94 : decode cX12_work 94 = .ok (.iload 6, 2) := by decide +kernel
theorem dX12_work_96 : decode cX12_work 96 = .ok (.iaload, 1) := by decide +kernel
theorem dX12_work_97 : decode cX12_work 97 = .ok (.laload, 1) := by decide +kernel
theorem dX12_work_98 : decode cX12_work 98 = .ok (.aload 4, 2) := by decide +kernel
theorem dX12_work_100 : decode cX12_work 100 = .ok (.aload_n 0, 1) := by decide +kernel
theorem dX12_work_101 : decode cX12_work 101 = .ok (.getfield 45, 3) := by decide +kernel
theorem dX12_work_104 : decode cX12_work 104 = .ok (.iload 6, 2) := by decide +kernel
theorem dX12_work_106 : decode cX12_work 106 = .ok (.iaload, 1) := by decide +kernel
theorem dX12_work_107 : decode cX12_work 107 = .ok (.laload, 1) := by decide +kernel
theorem dX12_work_108 : decode cX12_work 108 = .ok (.lsub, 1) := by decide +kernel
theorem dX12_work_109 : decode cX12_work 109 = .ok (.lreturn, 1) := by decide +kernel
theorem dX12_work_110 : decode cX12_work 110 = .ok (.aload 4, 2) := by decide +kernel
theorem dX12_work_112 : decode cX12_work 112 = .ok (.aload_n 0, 1) := by decide +kernel
theorem dX12_work_113 : decode cX12_work 113 = .ok (.getfield 42, 3) := by decide +kernel
theorem dX12_work_116 : decode cX12_work 116 = .ok (.iload 6, 2) := by decide +kernel
theorem dX12_work_118 : decode cX12_work 118 = .ok (.iaload, 1) := by decide +kernel
theorem dX12_work_119 : decode cX12_work 119 = .ok (.laload, 1) := by decide +kernel
theorem dX12_work_120 : decode cX12_work 120 = .ok (.aload 4, 2) := by decide +kernel
theorem dX12_work_122 : decode cX12_work 122 = .ok (.aload_n 0, 1) := by decide +kernel
theorem dX12_work_123 : decode cX12_work 123 = .ok (.getfield 45, 3) := by decide +kernel
theorem dX12_work_126 : decode cX12_work 126 = .ok (.iload 6, 2) := by decide +kernel
theorem dX12_work_128 : decode cX12_work 128 = .ok (.iaload, 1) := by decide +kernel
theorem dX12_work_129 : decode cX12_work 129 = .ok (.laload, 1) := by decide +kernel
theorem dX12_work_130 : decode cX12_work 130 = .ok (.lmul, 1) := by decide +kernel
theorem dX12_work_131 : decode cX12_work 131 = .ok (.lreturn, 1) := by decide +kernel
theorem dX12_work_132 : decode cX12_work 132 = .ok (.aload 4, 2) := by decide +kernel
theorem dX12_work_134 : decode cX12_work 134 = .ok (.aload_n 0, 1) := by decide +kernel
theorem dX12_work_135 : decode cX12_work 135 = .ok (.getfield 42, 3) := by decide +kernel
theorem dX12_work_138 : decode cX12_work 138 = .ok (.iload 6, 2) := by decide +kernel
theorem dX12_work_140 : decode cX12_work 140 = .ok (.iaload, 1) := by decide +kernel
theorem dX12_work_141 : decode cX12_work 141 = .ok (.laload, 1) := by decide +kernel
theorem dX12_work_142 : decode cX12_work 142 = .ok (.aload_n 0, 1) := by decide +kernel
theorem dX12_work_143 : decode cX12_work 143 = .ok (.getfield 45, 3) := by decide +kernel
theorem dX12_work_146 : decode cX12_work 146 = .ok (.iload 6, 2) := by decide +kernel
theorem dX12_work_148 : decode cX12_work 148 = .ok (.iaload, 1) := by decide +kernel
theorem dX12_work_149 : decode cX12_work 149 = .ok (.i2l, 1) := by decide +kernel
theorem dX12_work_150 : decode cX12_work 150 = .ok (.lmul, 1) := by decide +kernel
theorem dX12_work_151 : decode cX12_work 151 = .ok (.aload_n 0, 1) := by decide +kernel
theorem dX12_work_152 : decode cX12_work 152 = .ok (.getfield 48, 3) := by decide +kernel
theorem dX12_work_155 : decode cX12_work 155 = .ok (.iload 6, 2) := by decide +kernel
theorem dX12_work_157 : decode cX12_work 157 = .ok (.iaload, 1) := by decide +kernel
theorem dX12_work_158 : decode cX12_work 158 = .ok (.i2l, 1) := by decide +kernel
theorem dX12_work_159 : decode cX12_work 159 = .ok (.ldiv, 1) := by decide +kernel
theorem dX12_work_160 : decode cX12_work 160 = .ok (.lreturn, 1) := by decide +kernel
theorem dX12_work_161 : decode cX12_work 161 = .ok (.aload_n 0, 1) := by decide +kernel
theorem dX12_work_162 : decode cX12_work 162 = .ok (.getfield 30, 3) := by decide +kernel
theorem dX12_work_165 : decode cX12_work 165 = .ok (.iconst 2, 1) := by decide +kernel
theorem dX12_work_166 : decode cX12_work 166 = .ok (.aload_n 0, 1) := by decide +kernel
theorem dX12_work_167 : decode cX12_work 167 = .ok (.getfield 240, 3) := by decide +kernel
theorem dX12_work_170 : decode cX12_work 170 = .ok (.imul, 1) := by decide +kernel
theorem dX12_work_171 : decode cX12_work 171 = .ok (.aload_n 0, 1) := by decide +kernel
theorem dX12_work_172 : decode cX12_work 172 = .ok (.getfield 42, 3) := by decide +kernel
theorem dX12_work_175 : decode cX12_work 175 = .ok (.iload 6, 2) := by decide +kernel
theorem dX12_work_177 : decode cX12_work 177 = .ok (.iaload, 1) := by decide +kernel
theorem dX12_work_178 : decode cX12_work 178 = .ok (.iadd, 1) := by decide +kernel
theorem dX12_work_179 : decode cX12_work 179 = .ok (.iaload, 1) := by decide +kernel
theorem dX12_work_180 : decode cX12_work 180 = .ok (.istore 7, 2) := by decide +kernel
theorem dX12_work_182 : decode cX12_work 182 = .ok (.aload 4, 2) := by decide +kernel
theorem dX12_work_184 : decode cX12_work 184 = .ok (.aload_n 0, 1) := by decide +kernel
theorem dX12_work_185 : decode cX12_work 185 = .ok (.getfield 45, 3) := by decide +kernel
theorem dX12_work_188 : decode cX12_work 188 = .ok (.iload 6, 2) := by decide +kernel
theorem dX12_work_190 : decode cX12_work 190 = .ok (.iaload, 1) := by decide +kernel
theorem dX12_work_191 : decode cX12_work 191 = .ok (.laload, 1) := by decide +kernel
theorem dX12_work_192 : decode cX12_work 192 = .ok (.aload 4, 2) := by decide +kernel
theorem dX12_work_194 : decode cX12_work 194 = .ok (.aload_n 0, 1) := by decide +kernel
theorem dX12_work_195 : decode cX12_work 195 = .ok (.getfield 45, 3) := by decide +kernel
theorem dX12_work_198 : decode cX12_work 198 = .ok (.iload 6, 2) := by decide +kernel
theorem dX12_work_200 : decode cX12_work 200 = .ok (.iaload, 1) := by decide +kernel
theorem dX12_work_201 : decode cX12_work 201 = .ok (.laload, 1) := by decide +kernel
theorem dX12_work_202 : decode cX12_work 202 = .ok (.iload 7, 2) := by decide +kernel
theorem dX12_work_204 : decode cX12_work 204 = .ok (.i2l, 1) := by decide +kernel
theorem dX12_work_205 : decode cX12_work 205 = .ok (.invokestatic 337, 3) := by decide +kernel
theorem dX12_work_208 : decode cX12_work 208 = .ok (.iload 7, 2) := by decide +kernel
theorem dX12_work_210 : decode cX12_work 210 = .ok (.i2l, 1) := by decide +kernel
theorem dX12_work_211 : decode cX12_work 211 = .ok (.lmul, 1) := by decide +kernel
theorem dX12_work_212 : decode cX12_work 212 = .ok (.lsub, 1) := by decide +kernel
theorem dX12_work_213 : decode cX12_work 213 = .ok (.lstore 8, 2) := by decide +kernel
theorem dX12_work_215 : decode cX12_work 215 = .ok (.aload_n 0, 1) := by decide +kernel
theorem dX12_work_216 : decode cX12_work 216 = .ok (.aload_n 2, 1) := by decide +kernel
theorem dX12_work_217 : decode cX12_work 217 = .ok (.aload_n 0, 1) := by decide +kernel
theorem dX12_work_218 : decode cX12_work 218 = .ok (.aload_n 2, 1) := by decide +kernel
theorem dX12_work_219 : decode cX12_work 219 = .ok (.iload_n 3, 1) := by decide +kernel
theorem dX12_work_220 : decode cX12_work 220 = .ok (.iload 5, 2) := by decide +kernel
theorem dX12_work_222 : decode cX12_work 222 = .ok (.invokevirtual 344, 3) := by decide +kernel
theorem dX12_work_225 : decode cX12_work 225 = .ok (.aload_n 0, 1) := by decide +kernel
theorem dX12_work_226 : decode cX12_work 226 = .ok (.getfield 42, 3) := by decide +kernel
theorem dX12_work_229 : decode cX12_work 229 = .ok (.iload 6, 2) := by decide +kernel
theorem dX12_work_231 : decode cX12_work 231 = .ok (.iaload, 1) := by decide +kernel
theorem dX12_work_232 : decode cX12_work 232 = .ok (.lload 8, 2) := by decide +kernel
theorem dX12_work_234 : decode cX12_work 234 = .ok (.l2i, 1) := by decide +kernel
theorem dX12_work_235 : decode cX12_work 235 = .ok (.invokevirtual 353, 3) := by decide +kernel
theorem dX12_work_238 : decode cX12_work 238 = .ok (.iload 5, 2) := by decide +kernel
theorem dX12_work_240 : decode cX12_work 240 = .ok (.ifCond .lt 24, 3) := by decide +kernel
theorem dX12_work_264 : decode cX12_work 264 = .ok (.iconst 1, 1) := by decide +kernel
theorem dX12_work_265 : decode cX12_work 265 = .ok (.invokestatic 357, 3) := by decide +kernel
theorem dX12_work_268 : decode cX12_work 268 = .ok (.i2l, 1) := by decide +kernel
theorem dX12_work_269 : decode cX12_work 269 = .ok (.lreturn, 1) := by decide +kernel
theorem dX12_work_243 : decode cX12_work 243 = .ok (.aload_n 0, 1) := by decide +kernel
theorem dX12_work_244 : decode cX12_work 244 = .ok (.getfield 85, 3) := by decide +kernel
theorem dX12_work_247 : decode cX12_work 247 = .ok (.iload 5, 2) := by decide +kernel
theorem dX12_work_249 : decode cX12_work 249 = .ok (.iaload, 1) := by decide +kernel
theorem dX12_work_250 : decode cX12_work 250 = .ok (.iconst 3, 1) := by decide +kernel
theorem dX12_work_251 : decode cX12_work 251 = .ok (.if_icmp .ne 13, 3) := by decide +kernel
theorem dX12_work_254 : decode cX12_work 254 = .ok (.aload_n 0, 1) := by decide +kernel
theorem dX12_work_255 : decode cX12_work 255 = .ok (.getfield 88, 3) := by decide +kernel
theorem dX12_work_258 : decode cX12_work 258 = .ok (.iload 5, 2) := by decide +kernel
theorem dX12_work_260 : decode cX12_work 260 = .ok (.iaload, 1) := by decide +kernel
theorem dX12_work_261 : decode cX12_work 261 = .ok (.goto 4, 3) := by decide +kernel

def ow_n_work_np : List Cond := [.fieldLink RX12 39 "NearEnoughModel" "sKind" "[I", .fieldLink RX12 48 "NearEnoughModel" "sC" "[I", .fieldLink RX12 51 "NearEnoughModel" "sD" "[I", .fieldLink RX12 45 "NearEnoughModel" "sB" "[I", .fieldLink RX12 42 "NearEnoughModel" "sA" "[I", .fieldLink RX12 85 "NearEnoughModel" "cKind" "[I", .fieldLink RX12 88 "NearEnoughModel" "cN" "[I", .fieldLink RX12 30 "NearEnoughModel" "rHas" "[I", .fieldLink RX12 240 "NearEnoughModel" "bank" "I"]
def vs_n_work_np : List Cond := .code yX12_work cX12_work 10 (some .long) :: (ow_n_work_np ++ (([.methodLink RX12 331 yX12_at0, .instanceMethod yX12_at0, .selects RX12 yX12_at0 yX12_at0, .initialized RX12] : List Cond) ++ (vs_n_at0 ++ (([.methodLink RX12 360 yX12_ofRow, .instanceMethod yX12_ofRow, .selects RX12 yX12_ofRow yX12_ofRow, .initialized RX12] : List Cond) ++ (vs_n_ofRow_n ++ (([.methodLink RX12 337 yX12_floorOver, .static yX12_floorOver, .initialized yX12_floorOver.cls] : List Cond) ++ (vs_n_floorOver ++ (([.methodLink RX12 344 yX12_baseOf, .instanceMethod yX12_baseOf, .selects RX12 yX12_baseOf yX12_baseOf, .initialized RX12] : List Cond) ++ (vs_n_baseOf_n ++ (([.methodLink RX12 353 yX12_numberAt, .instanceMethod yX12_numberAt, .selects RX12 yX12_numberAt yX12_numberAt, .initialized RX12] : List Cond) ++ (vs_n_numberAt_n ++ (([.methodLink RX12 357 yX12_coarse, .static yX12_coarse, .initialized yX12_coarse.cls] : List Cond) ++ (vs_n_coarse ++ (wsX120))))))))))))))
theorem vg_n_work_np : vs_n_work_np.all goodWord = true := by decide +kernel
theorem dd_n_work_np : yX12_work.cls = RX12 ∧ yX12_work.cls ≠ "java/lang/invoke/MethodHandle" ∧ yX12_work.cls ≠ "java/lang/invoke/VarHandle" ∧ (parseMethodDescriptor yX12_work.desc).map (fun d => d.parameters.length) = some 5 := by decide +kernel
def rm_n_work_np : Room := { frames := 3, cells := 0, slots := 0, locals := 83 }
theorem gd_n_work_np_331_n_at0 : GoodIn vs_n_work_np (wsV RX12 331 RX12 yX12_at0 vs_n_at0) := goodIn_app (goodIn_sub (fun w h => (List.mem_cons_of_mem _ (List.mem_append_right _ (List.mem_append_left _ h)))) (by decide +kernel)) (goodIn_sub (fun w h => (List.mem_cons_of_mem _ (List.mem_append_right _ (List.mem_append_right _ (List.mem_append_left _ h))))) vg_n_at0)
theorem gd_n_work_np_360_n_ofRow_n : GoodIn vs_n_work_np (wsV RX12 360 RX12 yX12_ofRow vs_n_ofRow_n) := goodIn_app (goodIn_sub (fun w h => (List.mem_cons_of_mem _ (List.mem_append_right _ (List.mem_append_right _ (List.mem_append_right _ (List.mem_append_left _ h)))))) (by decide +kernel)) (goodIn_sub (fun w h => (List.mem_cons_of_mem _ (List.mem_append_right _ (List.mem_append_right _ (List.mem_append_right _ (List.mem_append_right _ (List.mem_append_left _ h))))))) vg_n_ofRow_n)
theorem gd_n_work_np_337_n_floorOver : GoodIn vs_n_work_np (va_wsS RX12 337 yX12_floorOver vs_n_floorOver) := goodIn_app (goodIn_sub (fun w h => (List.mem_cons_of_mem _ (List.mem_append_right _ (List.mem_append_right _ (List.mem_append_right _ (List.mem_append_right _ (List.mem_append_right _ (List.mem_append_left _ h)))))))) (by decide +kernel)) (goodIn_sub (fun w h => (List.mem_cons_of_mem _ (List.mem_append_right _ (List.mem_append_right _ (List.mem_append_right _ (List.mem_append_right _ (List.mem_append_right _ (List.mem_append_right _ (List.mem_append_left _ h))))))))) vg_n_floorOver)
theorem gd_n_work_np_344_n_baseOf_n : GoodIn vs_n_work_np (wsV RX12 344 RX12 yX12_baseOf vs_n_baseOf_n) := goodIn_app (goodIn_sub (fun w h => (List.mem_cons_of_mem _ (List.mem_append_right _ (List.mem_append_right _ (List.mem_append_right _ (List.mem_append_right _ (List.mem_append_right _ (List.mem_append_right _ (List.mem_append_right _ (List.mem_append_left _ h)))))))))) (by decide +kernel)) (goodIn_sub (fun w h => (List.mem_cons_of_mem _ (List.mem_append_right _ (List.mem_append_right _ (List.mem_append_right _ (List.mem_append_right _ (List.mem_append_right _ (List.mem_append_right _ (List.mem_append_right _ (List.mem_append_right _ (List.mem_append_left _ h))))))))))) vg_n_baseOf_n)
theorem gd_n_work_np_353_n_numberAt_n : GoodIn vs_n_work_np (wsV RX12 353 RX12 yX12_numberAt vs_n_numberAt_n) := goodIn_app (goodIn_sub (fun w h => (List.mem_cons_of_mem _ (List.mem_append_right _ (List.mem_append_right _ (List.mem_append_right _ (List.mem_append_right _ (List.mem_append_right _ (List.mem_append_right _ (List.mem_append_right _ (List.mem_append_right _ (List.mem_append_right _ (List.mem_append_left _ h)))))))))))) (by decide +kernel)) (goodIn_sub (fun w h => (List.mem_cons_of_mem _ (List.mem_append_right _ (List.mem_append_right _ (List.mem_append_right _ (List.mem_append_right _ (List.mem_append_right _ (List.mem_append_right _ (List.mem_append_right _ (List.mem_append_right _ (List.mem_append_right _ (List.mem_append_right _ (List.mem_append_left _ h))))))))))))) vg_n_numberAt_n)
theorem gd_n_work_np_357_n_coarse : GoodIn vs_n_work_np (va_wsS RX12 357 yX12_coarse vs_n_coarse) := goodIn_app (goodIn_sub (fun w h => (List.mem_cons_of_mem _ (List.mem_append_right _ (List.mem_append_right _ (List.mem_append_right _ (List.mem_append_right _ (List.mem_append_right _ (List.mem_append_right _ (List.mem_append_right _ (List.mem_append_right _ (List.mem_append_right _ (List.mem_append_right _ (List.mem_append_right _ (List.mem_append_left _ h)))))))))))))) (by decide +kernel)) (goodIn_sub (fun w h => (List.mem_cons_of_mem _ (List.mem_append_right _ (List.mem_append_right _ (List.mem_append_right _ (List.mem_append_right _ (List.mem_append_right _ (List.mem_append_right _ (List.mem_append_right _ (List.mem_append_right _ (List.mem_append_right _ (List.mem_append_right _ (List.mem_append_right _ (List.mem_append_right _ (List.mem_append_left _ h))))))))))))))) vg_n_coarse)
set_option maxHeartbeats 4000000 in
set_option maxRecDepth 100000 in
theorem n_work_np (l : Launch) (dC : Nat → ClassId) (dI : Nat → Nat → Nat) (h : Nat) (ad : Nat → Nat) (cl : Nat → ClassId) (sz : Nat) (σ : MS) (st9 : Int32) (base : Int32) (ch9 : Int32) (hI : Inv σ) (hs : 0 ≤ st9.toInt ∧ st9.toInt ≤ 11) (hba : 0 ≤ base.toInt ∧ base.toInt ≤ 468) (hbm : base.toInt = 0 ∨ 12 ≤ base.toInt) (hch : ChOk σ ch9) (hwk : WkOk σ st9) : Met l yX12_work vs_n_work_np rm_n_work_np (va_Pc [.ref h, .int st9, .ref (ad 31), .int base, .ref (ad 42), .int ch9] (wSt dC dI (mW h ad cl σ) (mT cl) sz)) (va_Ql (fun (r : Int64) (τ : MS) => σ = τ ∧ r = wkF (σ.1 29).toNatClampNeg (cor σ) true (σ.2.1 31) (σ.2.2.1 42) st9.toNatClampNeg base ch9) (fun (τ : MS) => wEn dC dI (va_A (mW h ad cl σ) sz) (mW h ad cl τ) []) (va_A (mW h ad cl σ) sz)) 0 0 (va_A (mW h ad cl σ) sz) := by
  refine Met.ofW (cc := cX12_work) (maxL := 10) (ret := (some .long)) (by decide) rfl ?_
  intro p e s m args below meth c s₁ B hml hv
  obtain ⟨rfl, hsz, hP, hK, hD0, hE⟩ := hv
  have hx := B.exec
  have hb := B.bytes
  have hr := B.returns
  have hts := atoms_spec (ws := vs_n_work_np) B.pre
  have hown : s.vm.findClass RX12 = some m.cls := findClass_of_methodNamed B.named
  have hlocks := B.notSynchronized
  subst hsz
  have hD := hD0.self (sz := s.heap.size)
  generalize hAe : va_A (mW h ad cl σ) s.heap.size = A at hD ⊢
  have hA : ∀ q : Nat, s.heap.size ≤ q → A q := fun q h => by rw [← hAe]; exact Or.inr h
  have hl := lv_entry ([.ref h, .int st9, .ref (ad 31), .int base, .ref (ad 42), .int ch9]) (n := 10) (Nat.le_of_ble_eq_true rfl)
  rw [lg_entry_eq]
  generalize (lg_sl ([.ref h, .int st9, .ref (ad 31), .int base, .ref (ad 42), .int ch9]) ++ List.replicate (10 - (lg_sl ([.ref h, .int st9, .ref (ad 31), .int base, .ref (ad 42), .int ch9])).length) Slot.unset).toArray = ls at hl ⊢
  have hl : lv_has ls 10 [(0, .ref h), (1, .int st9), (2, .ref (ad 31)), (3, .int base), (4, .ref (ad 42)), (5, .int ch9)] := hl
  have ho := fun w (h : w ∈ ow_n_work_np) => hts w (List.mem_cons_of_mem _ (List.mem_append_left _ h))
  have hin12 : ∀ w ∈ u_ws RX12 TX12 59, w ∈ vs_n_work_np := fun w h => (List.mem_cons_of_mem _ (List.mem_append_right _ (List.mem_append_right _ (List.mem_append_right _ (List.mem_append_right _ (List.mem_append_right _ (List.mem_append_right _ (List.mem_append_right _ (List.mem_append_right _ (List.mem_append_right _ (List.mem_append_right _ (List.mem_append_right _ (List.mem_append_right _ (List.mem_append_right _ h))))))))))))))
  refine zQ (fun Q hQ => ?_)
  have hch0 : ChOk σ ch9 := hch
  unfold ChOk at hch
  have hrows : (σ.2.1 11 (σ.1 29).toNatClampNeg).toInt ≤ 2 := (hI.2 11 _ (cl_lt (n := 2) (hI.1 29).1 (Int.lt_of_le_of_lt (hI.1 29).2 (by decide)))).2
  refine zH (A := A) (ws := mW h ad cl σ) (fun H hP hS => ?_) hP
  have bσ_29 : 0 ≤ (σ.1 29).toInt ∧ (σ.1 29).toInt ≤ 1 := hI.1 29
  refine lv_aload_n hx hb dX12_work_0 rfl (lv_at hl 0 rfl) ?_
  refine lv_iload_n hx hb dX12_work_1 rfl (lv_at hl 1 rfl) ?_
  have o1 : 0 ≤ st9.toInt := by omega
  have o2 : st9.toInt ≤ 11 := by omega
  refine zy_i (va_runV (As := [.int st9]) (rest := []) ⟨hx, hb, hml, hown, hts⟩ (n_at0 l dC dI h ad cl H.size σ st9 hI ⟨o1, o2⟩) (cwV 1 hts gd_n_work_np_331_n_at0 rfl rfl rfl dd_n_at0 ⟨Nat.le_of_ble_eq_true rfl, Nat.le_of_ble_eq_true rfl⟩) (preV hP hK hD hE (ci := 12) (q0 := 0) rfl rfl) rfl rfl hl.1 rfl (lv_room (Nat.le_of_ble_eq_true rfl)) dX12_work_2 ⟨Nat.le_of_ble_eq_true rfl, Nat.le_of_ble_eq_true rfl⟩) hD hS hA (fun z2_ τ1_ H locs hq hP hD hS => ?_)
  obtain ⟨rfl, f3_⟩ := hq
  refine W.widen (k := 0) (n := 0) (Nat.le_of_ble_eq_true rfl) (Nat.le_of_ble_eq_true rfl) ?_
  have o3 : z2_.toInt = 12 * (σ.1 29).toInt + st9.toInt := by omega
  have Xz2_ : z2_.toNatClampNeg = 12 * (σ.1 29).toNatClampNeg + st9.toNatClampNeg := at0x (hI.1 29).1 o1 o3
  have hst := hwk.st2 Xz2_
  unfold StOk at hst
  refine lv_istore (lv' := [(6, .int z2_), (0, .ref h), (1, .int st9), (2, .ref (ad 31)), (3, .int base), (4, .ref (ad 42)), (5, .int ch9)]) hx hb dX12_work_5 hl (Nat.le_of_ble_eq_true rfl) rfl (fun ls hl => ?_)
  refine lv_aload_n hx hb dX12_work_7 rfl (lv_at hl 1 rfl) ?_
  refine va_get (D := (dC, dI)) (ci := 12) (v := .ref (ad 17)) (C := RX12) (T := TX12) (N := 59) hx hb hts hin12 hown hK hP 0 rfl rfl 17 (Nat.le_of_ble_eq_true rfl) (ho (.fieldLink RX12 39 "NearEnoughModel" "sKind" "[I") (List.mem_of_getElem? (i := 0) rfl)) (fun _ h9 => h9) rfl dX12_work_8 ?_
  refine lv_iload hx hb dX12_work_11 (lv_at hl 0 rfl) ?_
  have o4 : 0 ≤ z2_.toInt := by omega
  have o5 : z2_.toInt < ((24 : Nat) : Int) := by omega
  refine va_iald hx hb hK hP 9 8 rfl rfl (ti_inx o4 o5) dX12_work_13 ?_
  refine lv_topi (fun z4_ ez4_ => ?_)
  have gz4_ : z4_.toInt = ((σ.2.1 17) (Int32.toNatClampNeg z2_)).toInt := congrArg Int32.toInt (ez4_.trans (congrFun rfl (Int32.toNatClampNeg z2_)))
  have bz4_ : 0 ≤ z4_.toInt ∧ z4_.toInt ≤ 7 := by rw [ez4_]; exact (hI.2 17) _ (cl_lt (n := 24) o4 o5)
  by_cases c_lo : z4_.toInt < 0
  · refine lv_tableOut (tgt := 270) hx hb dX12_work_14 (Or.inl c_lo) rfl ?_
    refine lv_iload hx hb dX12_work_270 (lv_at hl 6 rfl) ?_
    refine lv_if_lt (tgt := 304) hx hb dX12_work_272 rfl (fun c5_ => ?_) (fun c5_ => ?_)
    · have tc5_ := (show ch9.toInt < 0 from ti_lt rfl rg_11 c5_)
      refine lv_aload hx hb dX12_work_304 (lv_at hl 5 rfl) ?_
      refine lv_aload_n hx hb dX12_work_306 rfl (lv_at hl 1 rfl) ?_
      refine va_get (D := (dC, dI)) (ci := 12) (v := .ref (ad 20)) (C := RX12) (T := TX12) (N := 59) hx hb hts hin12 hown hK hP 0 rfl rfl 20 (Nat.le_of_ble_eq_true rfl) (ho (.fieldLink RX12 48 "NearEnoughModel" "sC" "[I") (List.mem_of_getElem? (i := 1) rfl)) (fun _ h9 => h9) rfl dX12_work_307 ?_
      refine lv_iload hx hb dX12_work_310 (lv_at hl 0 rfl) ?_
      refine va_iald hx hb hK hP 12 11 rfl rfl (ti_inx o4 o5) dX12_work_312 ?_
      refine lv_topi (fun z6_ ez6_ => ?_)
      have gz6_ : z6_.toInt = ((σ.2.1 20) (Int32.toNatClampNeg z2_)).toInt := congrArg Int32.toInt (ez6_.trans (congrFun rfl (Int32.toNatClampNeg z2_)))
      have bz6_ : (-1) ≤ z6_.toInt ∧ z6_.toInt ≤ 99 := by rw [ez6_]; exact (hI.2 20) _ (cl_lt (n := 24) o4 o5)
      have o6 : 0 ≤ z6_.toInt := by omega
      have o7 : z6_.toInt < ((12 : Nat) : Int) := by omega
      refine va_lald hx hb hK hP 30 29 rfl rfl (ti_inx o6 o7) dX12_work_313 ?_
      refine lv_topl (fun y7_ ey7_ => ?_)
      refine lv_aload hx hb dX12_work_314 (lv_at hl 5 rfl) ?_
      refine lv_aload_n hx hb dX12_work_316 rfl (lv_at hl 1 rfl) ?_
      refine va_get (D := (dC, dI)) (ci := 12) (v := .ref (ad 21)) (C := RX12) (T := TX12) (N := 59) hx hb hts hin12 hown hK hP 0 rfl rfl 21 (Nat.le_of_ble_eq_true rfl) (ho (.fieldLink RX12 51 "NearEnoughModel" "sD" "[I") (List.mem_of_getElem? (i := 2) rfl)) (fun _ h9 => h9) rfl dX12_work_317 ?_
      refine lv_iload hx hb dX12_work_320 (lv_at hl 0 rfl) ?_
      refine va_iald hx hb hK hP 13 12 rfl rfl (ti_inx o4 o5) dX12_work_322 ?_
      refine lv_topi (fun z8_ ez8_ => ?_)
      have gz8_ : z8_.toInt = ((σ.2.1 21) (Int32.toNatClampNeg z2_)).toInt := congrArg Int32.toInt (ez8_.trans (congrFun rfl (Int32.toNatClampNeg z2_)))
      have bz8_ : (-1) ≤ z8_.toInt ∧ z8_.toInt ≤ 11 := by rw [ez8_]; exact (hI.2 21) _ (cl_lt (n := 24) o4 o5)
      have o8 : 0 ≤ z8_.toInt := by omega
      have o9 : z8_.toInt < ((12 : Nat) : Int) := by omega
      refine va_lald hx hb hK hP 30 29 rfl rfl (ti_inx o8 o9) dX12_work_323 ?_
      refine lv_topl (fun y9_ ey9_ => ?_)
      refine W.lcmp hx hb dX12_work_324 ?_
      refine lv_topi (fun z10_ ez10_ => ?_)
      refine lv_if_ge (tgt := 332) hx hb dX12_work_325 rfl (fun c11_ => ?_) (fun c11_ => ?_)
      · have tc11_ := (show 0 ≤ z10_.toInt from ti_le rg_11 rfl c11_)
        have lc11_ : y9_ ≤ y7_ := (lg_cmp_ge y7_ y9_).mp (by rw [← ez10_]; exact c11_)
        refine lv_iconst (v := 0) hx hb dX12_work_332 rg_0 ?_
        refine lv_istore (lv' := [(7, .int 0), (6, .int z2_), (0, .ref h), (1, .int st9), (2, .ref (ad 31)), (3, .int base), (4, .ref (ad 42)), (5, .int ch9)]) hx hb dX12_work_333 hl (Nat.le_of_ble_eq_true rfl) rfl (fun ls hl => ?_)
        refine lv_iload hx hb dX12_work_335 (lv_at hl 0 rfl) ?_
        refine lv_if_eq (tgt := 353) hx hb dX12_work_337 rfl (fun _ => ?_) (fun cc => absurd (by decide) cc)
        refine lv_aload hx hb dX12_work_353 (lv_at hl 6 rfl) ?_
        refine lv_aload_n hx hb dX12_work_355 rfl (lv_at hl 2 rfl) ?_
        refine va_get (D := (dC, dI)) (ci := 12) (v := .ref (ad 19)) (C := RX12) (T := TX12) (N := 59) hx hb hts hin12 hown hK hP 0 rfl rfl 19 (Nat.le_of_ble_eq_true rfl) (ho (.fieldLink RX12 45 "NearEnoughModel" "sB" "[I") (List.mem_of_getElem? (i := 3) rfl)) (fun _ h9 => h9) rfl dX12_work_356 ?_
        refine lv_iload hx hb dX12_work_359 (lv_at hl 1 rfl) ?_
        refine va_iald hx hb hK hP 11 10 rfl rfl (ti_inx o4 o5) dX12_work_361 ?_
        refine lv_topi (fun z12_ ez12_ => ?_)
        have gz12_ : z12_.toInt = ((σ.2.1 19) (Int32.toNatClampNeg z2_)).toInt := congrArg Int32.toInt (ez12_.trans (congrFun rfl (Int32.toNatClampNeg z2_)))
        have bz12_ : (-99) ≤ z12_.toInt ∧ z12_.toInt ≤ 99 := by rw [ez12_]; exact (hI.2 19) _ (cl_lt (n := 24) o4 o5)
        have o10 : 0 ≤ z12_.toInt := by omega
        have o11 : z12_.toInt < ((12 : Nat) : Int) := by omega
        refine va_lald hx hb hK hP 30 29 rfl rfl (ti_inx o10 o11) dX12_work_362 ?_
        refine lv_topl (fun y13_ ey13_ => ?_)
        rw [hQ]
        have o12 : (σ.2.1 17 (Int32.toNatClampNeg z2_)).toInt = 7 := by omega
        have K14_ : (σ.2.1 17 (12 * (σ.1 29).toNatClampNeg + st9.toNatClampNeg)).toInt = 7 := by rw [← Xz2_]; exact o12
        have o13 : ¬ (0 ≤ ch9.toInt ∧ (σ.2.1 34 (Int32.toNatClampNeg ch9)).toInt = 2) := by omega
        have L16_ : ¬ ((σ.2.2.1 42) (σ.2.1 20 (12 * (σ.1 29).toNatClampNeg + st9.toNatClampNeg)).toNatClampNeg < (σ.2.2.1 42) (σ.2.1 21 (12 * (σ.1 29).toNatClampNeg + st9.toNatClampNeg)).toNatClampNeg) := by rw [← Xz2_, ← ez6_, ← ez8_, ← ey7_, ← ey9_]; exact Int64.not_lt.mpr lc11_
        have R15_ : y13_ = wkF (σ.1 29).toNatClampNeg (cor σ) true (σ.2.1 31) (σ.2.2.1 42) st9.toNatClampNeg base ch9 := by rw [wk_7 (T := cor σ) K14_]; rw [if_neg (show ¬ OnK (cor σ) ch9 2 from o13), if_neg (show ¬ ((σ.2.2.1 42) (cor σ 20 (12 * (σ.1 29).toNatClampNeg + st9.toNatClampNeg)).toNatClampNeg < (σ.2.2.1 42) (cor σ 21 (12 * (σ.1 29).toNatClampNeg + st9.toNatClampNeg)).toNatClampNeg) from L16_)]; simp only [ez4_, ez6_, ey7_, ez8_, ey9_, ez10_, ez12_, ey13_, Xz2_] <;> rfl
        exact W.lret (v := y13_) hx hb hr (fun t ht hW => ⟨⟨y13_, σ, rfl, ⟨rfl, R15_⟩, wEn_of hP (hK.sub [] rfl) hD ht hW⟩, hS.F ht⟩) hS.2.2 dX12_work_363
      · have tc11_ := (show z10_.toInt < 0 from ti_nle rg_11 rfl c11_)
        have lc11_ : ¬ y9_ ≤ y7_ := fun h => c11_ (by rw [ez10_]; exact (lg_cmp_ge y7_ y9_).mpr h)
        refine lv_iconst (v := 1) hx hb dX12_work_328 rg_6 ?_
        refine lv_goto (tgt := 333) hx hb dX12_work_329 rfl ?_
        refine lv_istore (lv' := [(7, .int 1), (6, .int z2_), (0, .ref h), (1, .int st9), (2, .ref (ad 31)), (3, .int base), (4, .ref (ad 42)), (5, .int ch9)]) hx hb dX12_work_333 hl (Nat.le_of_ble_eq_true rfl) rfl (fun ls hl => ?_)
        refine lv_iload hx hb dX12_work_335 (lv_at hl 0 rfl) ?_
        refine lv_if_eq (tgt := 353) hx hb dX12_work_337 rfl (fun cc => absurd cc (by decide)) (fun _ => ?_)
        refine lv_aload hx hb dX12_work_340 (lv_at hl 6 rfl) ?_
        refine lv_aload_n hx hb dX12_work_342 rfl (lv_at hl 2 rfl) ?_
        refine va_get (D := (dC, dI)) (ci := 12) (v := .ref (ad 18)) (C := RX12) (T := TX12) (N := 59) hx hb hts hin12 hown hK hP 0 rfl rfl 18 (Nat.le_of_ble_eq_true rfl) (ho (.fieldLink RX12 42 "NearEnoughModel" "sA" "[I") (List.mem_of_getElem? (i := 4) rfl)) (fun _ h9 => h9) rfl dX12_work_343 ?_
        refine lv_iload hx hb dX12_work_346 (lv_at hl 1 rfl) ?_
        refine va_iald hx hb hK hP 10 9 rfl rfl (ti_inx o4 o5) dX12_work_348 ?_
        refine lv_topi (fun z17_ ez17_ => ?_)
        have gz17_ : z17_.toInt = ((σ.2.1 18) (Int32.toNatClampNeg z2_)).toInt := congrArg Int32.toInt (ez17_.trans (congrFun rfl (Int32.toNatClampNeg z2_)))
        have bz17_ : (-1) ≤ z17_.toInt ∧ z17_.toInt ≤ 11 := by rw [ez17_]; exact (hI.2 18) _ (cl_lt (n := 24) o4 o5)
        have o14 : 0 ≤ z17_.toInt := by omega
        have o15 : z17_.toInt < ((12 : Nat) : Int) := by omega
        refine va_lald hx hb hK hP 30 29 rfl rfl (ti_inx o14 o15) dX12_work_349 ?_
        refine lv_topl (fun y18_ ey18_ => ?_)
        refine lv_goto (tgt := 363) hx hb dX12_work_350 rfl ?_
        rw [hQ]
        have o16 : (σ.2.1 17 (Int32.toNatClampNeg z2_)).toInt = 7 := by omega
        have K19_ : (σ.2.1 17 (12 * (σ.1 29).toNatClampNeg + st9.toNatClampNeg)).toInt = 7 := by rw [← Xz2_]; exact o16
        have o17 : ¬ (0 ≤ ch9.toInt ∧ (σ.2.1 34 (Int32.toNatClampNeg ch9)).toInt = 2) := by omega
        have L21_ : (σ.2.2.1 42) (σ.2.1 20 (12 * (σ.1 29).toNatClampNeg + st9.toNatClampNeg)).toNatClampNeg < (σ.2.2.1 42) (σ.2.1 21 (12 * (σ.1 29).toNatClampNeg + st9.toNatClampNeg)).toNatClampNeg := by rw [← Xz2_, ← ez6_, ← ez8_, ← ey7_, ← ey9_]; exact Int64.not_le.mp lc11_
        have R20_ : y18_ = wkF (σ.1 29).toNatClampNeg (cor σ) true (σ.2.1 31) (σ.2.2.1 42) st9.toNatClampNeg base ch9 := by rw [wk_7 (T := cor σ) K19_]; rw [if_neg (show ¬ OnK (cor σ) ch9 2 from o17), if_pos (show (σ.2.2.1 42) (cor σ 20 (12 * (σ.1 29).toNatClampNeg + st9.toNatClampNeg)).toNatClampNeg < (σ.2.2.1 42) (cor σ 21 (12 * (σ.1 29).toNatClampNeg + st9.toNatClampNeg)).toNatClampNeg from L21_)]; simp only [ez4_, ez6_, ey7_, ez8_, ey9_, ez10_, ez17_, ey18_, Xz2_] <;> rfl
        exact W.lret (v := y18_) hx hb hr (fun t ht hW => ⟨⟨y18_, σ, rfl, ⟨rfl, R20_⟩, wEn_of hP (hK.sub [] rfl) hD ht hW⟩, hS.F ht⟩) hS.2.2 dX12_work_363
    · have tc5_ := (show 0 ≤ ch9.toInt from ti_nlt rfl rg_11 c5_)
      refine lv_aload_n hx hb dX12_work_275 rfl (lv_at hl 1 rfl) ?_
      refine va_get (D := (dC, dI)) (ci := 12) (v := .ref (ad 34)) (C := RX12) (T := TX12) (N := 59) hx hb hts hin12 hown hK hP 0 rfl rfl 34 (Nat.le_of_ble_eq_true rfl) (ho (.fieldLink RX12 85 "NearEnoughModel" "cKind" "[I") (List.mem_of_getElem? (i := 5) rfl)) (fun _ h9 => h9) rfl dX12_work_276 ?_
      refine lv_iload hx hb dX12_work_279 (lv_at hl 6 rfl) ?_
      have o18 : 0 ≤ ch9.toInt := by omega
      have o19 : ch9.toInt < ((12 : Nat) : Int) := by omega
      refine va_iald hx hb hK hP 24 23 rfl rfl (ti_inx o18 o19) dX12_work_281 ?_
      refine lv_topi (fun z22_ ez22_ => ?_)
      have gz22_ : z22_.toInt = ((σ.2.1 34) (Int32.toNatClampNeg ch9)).toInt := congrArg Int32.toInt (ez22_.trans (congrFun rfl (Int32.toNatClampNeg ch9)))
      have bz22_ : 0 ≤ z22_.toInt ∧ z22_.toInt ≤ 6 := by rw [ez22_]; exact (hI.2 34) _ (cl_lt (n := 12) o18 o19)
      refine lv_iconst (v := 2) hx hb dX12_work_282 rg_19 ?_
      refine lv_icmp_ne (tgt := 304) hx hb dX12_work_283 rfl (fun c23_ => ?_) (fun c23_ => ?_)
      · have tc23_ := (show z22_.toInt ≠ 2 from ti_ne rfl rg_20 c23_)
        refine lv_aload hx hb dX12_work_304 (lv_at hl 5 rfl) ?_
        refine lv_aload_n hx hb dX12_work_306 rfl (lv_at hl 1 rfl) ?_
        refine va_get (D := (dC, dI)) (ci := 12) (v := .ref (ad 20)) (C := RX12) (T := TX12) (N := 59) hx hb hts hin12 hown hK hP 0 rfl rfl 20 (Nat.le_of_ble_eq_true rfl) (ho (.fieldLink RX12 48 "NearEnoughModel" "sC" "[I") (List.mem_of_getElem? (i := 1) rfl)) (fun _ h9 => h9) rfl dX12_work_307 ?_
        refine lv_iload hx hb dX12_work_310 (lv_at hl 0 rfl) ?_
        refine va_iald hx hb hK hP 12 11 rfl rfl (ti_inx o4 o5) dX12_work_312 ?_
        refine lv_topi (fun z24_ ez24_ => ?_)
        have gz24_ : z24_.toInt = ((σ.2.1 20) (Int32.toNatClampNeg z2_)).toInt := congrArg Int32.toInt (ez24_.trans (congrFun rfl (Int32.toNatClampNeg z2_)))
        have bz24_ : (-1) ≤ z24_.toInt ∧ z24_.toInt ≤ 99 := by rw [ez24_]; exact (hI.2 20) _ (cl_lt (n := 24) o4 o5)
        have o20 : 0 ≤ z24_.toInt := by omega
        have o21 : z24_.toInt < ((12 : Nat) : Int) := by omega
        refine va_lald hx hb hK hP 30 29 rfl rfl (ti_inx o20 o21) dX12_work_313 ?_
        refine lv_topl (fun y25_ ey25_ => ?_)
        refine lv_aload hx hb dX12_work_314 (lv_at hl 5 rfl) ?_
        refine lv_aload_n hx hb dX12_work_316 rfl (lv_at hl 1 rfl) ?_
        refine va_get (D := (dC, dI)) (ci := 12) (v := .ref (ad 21)) (C := RX12) (T := TX12) (N := 59) hx hb hts hin12 hown hK hP 0 rfl rfl 21 (Nat.le_of_ble_eq_true rfl) (ho (.fieldLink RX12 51 "NearEnoughModel" "sD" "[I") (List.mem_of_getElem? (i := 2) rfl)) (fun _ h9 => h9) rfl dX12_work_317 ?_
        refine lv_iload hx hb dX12_work_320 (lv_at hl 0 rfl) ?_
        refine va_iald hx hb hK hP 13 12 rfl rfl (ti_inx o4 o5) dX12_work_322 ?_
        refine lv_topi (fun z26_ ez26_ => ?_)
        have gz26_ : z26_.toInt = ((σ.2.1 21) (Int32.toNatClampNeg z2_)).toInt := congrArg Int32.toInt (ez26_.trans (congrFun rfl (Int32.toNatClampNeg z2_)))
        have bz26_ : (-1) ≤ z26_.toInt ∧ z26_.toInt ≤ 11 := by rw [ez26_]; exact (hI.2 21) _ (cl_lt (n := 24) o4 o5)
        have o22 : 0 ≤ z26_.toInt := by omega
        have o23 : z26_.toInt < ((12 : Nat) : Int) := by omega
        refine va_lald hx hb hK hP 30 29 rfl rfl (ti_inx o22 o23) dX12_work_323 ?_
        refine lv_topl (fun y27_ ey27_ => ?_)
        refine W.lcmp hx hb dX12_work_324 ?_
        refine lv_topi (fun z28_ ez28_ => ?_)
        refine lv_if_ge (tgt := 332) hx hb dX12_work_325 rfl (fun c29_ => ?_) (fun c29_ => ?_)
        · have tc29_ := (show 0 ≤ z28_.toInt from ti_le rg_11 rfl c29_)
          have lc29_ : y27_ ≤ y25_ := (lg_cmp_ge y25_ y27_).mp (by rw [← ez28_]; exact c29_)
          refine lv_iconst (v := 0) hx hb dX12_work_332 rg_0 ?_
          refine lv_istore (lv' := [(7, .int 0), (6, .int z2_), (0, .ref h), (1, .int st9), (2, .ref (ad 31)), (3, .int base), (4, .ref (ad 42)), (5, .int ch9)]) hx hb dX12_work_333 hl (Nat.le_of_ble_eq_true rfl) rfl (fun ls hl => ?_)
          refine lv_iload hx hb dX12_work_335 (lv_at hl 0 rfl) ?_
          refine lv_if_eq (tgt := 353) hx hb dX12_work_337 rfl (fun _ => ?_) (fun cc => absurd (by decide) cc)
          refine lv_aload hx hb dX12_work_353 (lv_at hl 6 rfl) ?_
          refine lv_aload_n hx hb dX12_work_355 rfl (lv_at hl 2 rfl) ?_
          refine va_get (D := (dC, dI)) (ci := 12) (v := .ref (ad 19)) (C := RX12) (T := TX12) (N := 59) hx hb hts hin12 hown hK hP 0 rfl rfl 19 (Nat.le_of_ble_eq_true rfl) (ho (.fieldLink RX12 45 "NearEnoughModel" "sB" "[I") (List.mem_of_getElem? (i := 3) rfl)) (fun _ h9 => h9) rfl dX12_work_356 ?_
          refine lv_iload hx hb dX12_work_359 (lv_at hl 1 rfl) ?_
          refine va_iald hx hb hK hP 11 10 rfl rfl (ti_inx o4 o5) dX12_work_361 ?_
          refine lv_topi (fun z30_ ez30_ => ?_)
          have gz30_ : z30_.toInt = ((σ.2.1 19) (Int32.toNatClampNeg z2_)).toInt := congrArg Int32.toInt (ez30_.trans (congrFun rfl (Int32.toNatClampNeg z2_)))
          have bz30_ : (-99) ≤ z30_.toInt ∧ z30_.toInt ≤ 99 := by rw [ez30_]; exact (hI.2 19) _ (cl_lt (n := 24) o4 o5)
          have o24 : 0 ≤ z30_.toInt := by omega
          have o25 : z30_.toInt < ((12 : Nat) : Int) := by omega
          refine va_lald hx hb hK hP 30 29 rfl rfl (ti_inx o24 o25) dX12_work_362 ?_
          refine lv_topl (fun y31_ ey31_ => ?_)
          rw [hQ]
          have o26 : (σ.2.1 17 (Int32.toNatClampNeg z2_)).toInt = 7 := by omega
          have K32_ : (σ.2.1 17 (12 * (σ.1 29).toNatClampNeg + st9.toNatClampNeg)).toInt = 7 := by rw [← Xz2_]; exact o26
          have o27 : ¬ (0 ≤ ch9.toInt ∧ (σ.2.1 34 (Int32.toNatClampNeg ch9)).toInt = 2) := by omega
          have L34_ : ¬ ((σ.2.2.1 42) (σ.2.1 20 (12 * (σ.1 29).toNatClampNeg + st9.toNatClampNeg)).toNatClampNeg < (σ.2.2.1 42) (σ.2.1 21 (12 * (σ.1 29).toNatClampNeg + st9.toNatClampNeg)).toNatClampNeg) := by rw [← Xz2_, ← ez24_, ← ez26_, ← ey25_, ← ey27_]; exact Int64.not_lt.mpr lc29_
          have R33_ : y31_ = wkF (σ.1 29).toNatClampNeg (cor σ) true (σ.2.1 31) (σ.2.2.1 42) st9.toNatClampNeg base ch9 := by rw [wk_7 (T := cor σ) K32_]; rw [if_neg (show ¬ OnK (cor σ) ch9 2 from o27), if_neg (show ¬ ((σ.2.2.1 42) (cor σ 20 (12 * (σ.1 29).toNatClampNeg + st9.toNatClampNeg)).toNatClampNeg < (σ.2.2.1 42) (cor σ 21 (12 * (σ.1 29).toNatClampNeg + st9.toNatClampNeg)).toNatClampNeg) from L34_)]; simp only [ez4_, ez22_, ez24_, ey25_, ez26_, ey27_, ez28_, ez30_, ey31_, Xz2_] <;> rfl
          exact W.lret (v := y31_) hx hb hr (fun t ht hW => ⟨⟨y31_, σ, rfl, ⟨rfl, R33_⟩, wEn_of hP (hK.sub [] rfl) hD ht hW⟩, hS.F ht⟩) hS.2.2 dX12_work_363
        · have tc29_ := (show z28_.toInt < 0 from ti_nle rg_11 rfl c29_)
          have lc29_ : ¬ y27_ ≤ y25_ := fun h => c29_ (by rw [ez28_]; exact (lg_cmp_ge y25_ y27_).mpr h)
          refine lv_iconst (v := 1) hx hb dX12_work_328 rg_6 ?_
          refine lv_goto (tgt := 333) hx hb dX12_work_329 rfl ?_
          refine lv_istore (lv' := [(7, .int 1), (6, .int z2_), (0, .ref h), (1, .int st9), (2, .ref (ad 31)), (3, .int base), (4, .ref (ad 42)), (5, .int ch9)]) hx hb dX12_work_333 hl (Nat.le_of_ble_eq_true rfl) rfl (fun ls hl => ?_)
          refine lv_iload hx hb dX12_work_335 (lv_at hl 0 rfl) ?_
          refine lv_if_eq (tgt := 353) hx hb dX12_work_337 rfl (fun cc => absurd cc (by decide)) (fun _ => ?_)
          refine lv_aload hx hb dX12_work_340 (lv_at hl 6 rfl) ?_
          refine lv_aload_n hx hb dX12_work_342 rfl (lv_at hl 2 rfl) ?_
          refine va_get (D := (dC, dI)) (ci := 12) (v := .ref (ad 18)) (C := RX12) (T := TX12) (N := 59) hx hb hts hin12 hown hK hP 0 rfl rfl 18 (Nat.le_of_ble_eq_true rfl) (ho (.fieldLink RX12 42 "NearEnoughModel" "sA" "[I") (List.mem_of_getElem? (i := 4) rfl)) (fun _ h9 => h9) rfl dX12_work_343 ?_
          refine lv_iload hx hb dX12_work_346 (lv_at hl 1 rfl) ?_
          refine va_iald hx hb hK hP 10 9 rfl rfl (ti_inx o4 o5) dX12_work_348 ?_
          refine lv_topi (fun z35_ ez35_ => ?_)
          have gz35_ : z35_.toInt = ((σ.2.1 18) (Int32.toNatClampNeg z2_)).toInt := congrArg Int32.toInt (ez35_.trans (congrFun rfl (Int32.toNatClampNeg z2_)))
          have bz35_ : (-1) ≤ z35_.toInt ∧ z35_.toInt ≤ 11 := by rw [ez35_]; exact (hI.2 18) _ (cl_lt (n := 24) o4 o5)
          have o28 : 0 ≤ z35_.toInt := by omega
          have o29 : z35_.toInt < ((12 : Nat) : Int) := by omega
          refine va_lald hx hb hK hP 30 29 rfl rfl (ti_inx o28 o29) dX12_work_349 ?_
          refine lv_topl (fun y36_ ey36_ => ?_)
          refine lv_goto (tgt := 363) hx hb dX12_work_350 rfl ?_
          rw [hQ]
          have o30 : (σ.2.1 17 (Int32.toNatClampNeg z2_)).toInt = 7 := by omega
          have K37_ : (σ.2.1 17 (12 * (σ.1 29).toNatClampNeg + st9.toNatClampNeg)).toInt = 7 := by rw [← Xz2_]; exact o30
          have o31 : ¬ (0 ≤ ch9.toInt ∧ (σ.2.1 34 (Int32.toNatClampNeg ch9)).toInt = 2) := by omega
          have L39_ : (σ.2.2.1 42) (σ.2.1 20 (12 * (σ.1 29).toNatClampNeg + st9.toNatClampNeg)).toNatClampNeg < (σ.2.2.1 42) (σ.2.1 21 (12 * (σ.1 29).toNatClampNeg + st9.toNatClampNeg)).toNatClampNeg := by rw [← Xz2_, ← ez24_, ← ez26_, ← ey25_, ← ey27_]; exact Int64.not_le.mp lc29_
          have R38_ : y36_ = wkF (σ.1 29).toNatClampNeg (cor σ) true (σ.2.1 31) (σ.2.2.1 42) st9.toNatClampNeg base ch9 := by rw [wk_7 (T := cor σ) K37_]; rw [if_neg (show ¬ OnK (cor σ) ch9 2 from o31), if_pos (show (σ.2.2.1 42) (cor σ 20 (12 * (σ.1 29).toNatClampNeg + st9.toNatClampNeg)).toNatClampNeg < (σ.2.2.1 42) (cor σ 21 (12 * (σ.1 29).toNatClampNeg + st9.toNatClampNeg)).toNatClampNeg from L39_)]; simp only [ez4_, ez22_, ez24_, ey25_, ez26_, ey27_, ez28_, ez35_, ey36_, Xz2_] <;> rfl
          exact W.lret (v := y36_) hx hb hr (fun t ht hW => ⟨⟨y36_, σ, rfl, ⟨rfl, R38_⟩, wEn_of hP (hK.sub [] rfl) hD ht hW⟩, hS.F ht⟩) hS.2.2 dX12_work_363
      · have tc23_ := (show z22_.toInt = 2 from ti_eq rfl rg_20 c23_)
        refine lv_aload_n hx hb dX12_work_286 rfl (lv_at hl 1 rfl) ?_
        refine va_get (D := (dC, dI)) (ci := 12) (v := .ref (ad 35)) (C := RX12) (T := TX12) (N := 59) hx hb hts hin12 hown hK hP 0 rfl rfl 35 (Nat.le_of_ble_eq_true rfl) (ho (.fieldLink RX12 88 "NearEnoughModel" "cN" "[I") (List.mem_of_getElem? (i := 6) rfl)) (fun _ h9 => h9) rfl dX12_work_287 ?_
        refine lv_iload hx hb dX12_work_290 (lv_at hl 6 rfl) ?_
        refine va_iald hx hb hK hP 25 24 rfl rfl (ti_inx o18 o19) dX12_work_292 ?_
        refine lv_topi (fun z40_ ez40_ => ?_)
        have gz40_ : z40_.toInt = ((σ.2.1 35) (Int32.toNatClampNeg ch9)).toInt := congrArg Int32.toInt (ez40_.trans (congrFun rfl (Int32.toNatClampNeg ch9)))
        have bz40_ : 0 ≤ z40_.toInt ∧ z40_.toInt ≤ 99 := by rw [ez40_]; exact (hI.2 35) _ (cl_lt (n := 12) o18 o19)
        refine lv_if_ne (tgt := 300) hx hb dX12_work_293 rfl (fun c41_ => ?_) (fun c41_ => ?_)
        · have tc41_ := (show z40_.toInt ≠ 0 from ti_ne rfl rg_11 c41_)
          refine lv_iconst (v := 0) hx hb dX12_work_300 rg_0 ?_
          refine lv_goto (tgt := 333) hx hb dX12_work_301 rfl ?_
          refine lv_istore (lv' := [(7, .int 0), (6, .int z2_), (0, .ref h), (1, .int st9), (2, .ref (ad 31)), (3, .int base), (4, .ref (ad 42)), (5, .int ch9)]) hx hb dX12_work_333 hl (Nat.le_of_ble_eq_true rfl) rfl (fun ls hl => ?_)
          refine lv_iload hx hb dX12_work_335 (lv_at hl 0 rfl) ?_
          refine lv_if_eq (tgt := 353) hx hb dX12_work_337 rfl (fun _ => ?_) (fun cc => absurd (by decide) cc)
          refine lv_aload hx hb dX12_work_353 (lv_at hl 6 rfl) ?_
          refine lv_aload_n hx hb dX12_work_355 rfl (lv_at hl 2 rfl) ?_
          refine va_get (D := (dC, dI)) (ci := 12) (v := .ref (ad 19)) (C := RX12) (T := TX12) (N := 59) hx hb hts hin12 hown hK hP 0 rfl rfl 19 (Nat.le_of_ble_eq_true rfl) (ho (.fieldLink RX12 45 "NearEnoughModel" "sB" "[I") (List.mem_of_getElem? (i := 3) rfl)) (fun _ h9 => h9) rfl dX12_work_356 ?_
          refine lv_iload hx hb dX12_work_359 (lv_at hl 1 rfl) ?_
          refine va_iald hx hb hK hP 11 10 rfl rfl (ti_inx o4 o5) dX12_work_361 ?_
          refine lv_topi (fun z42_ ez42_ => ?_)
          have gz42_ : z42_.toInt = ((σ.2.1 19) (Int32.toNatClampNeg z2_)).toInt := congrArg Int32.toInt (ez42_.trans (congrFun rfl (Int32.toNatClampNeg z2_)))
          have bz42_ : (-99) ≤ z42_.toInt ∧ z42_.toInt ≤ 99 := by rw [ez42_]; exact (hI.2 19) _ (cl_lt (n := 24) o4 o5)
          have o32 : 0 ≤ z42_.toInt := by omega
          have o33 : z42_.toInt < ((12 : Nat) : Int) := by omega
          refine va_lald hx hb hK hP 30 29 rfl rfl (ti_inx o32 o33) dX12_work_362 ?_
          refine lv_topl (fun y43_ ey43_ => ?_)
          rw [hQ]
          have o34 : (σ.2.1 17 (Int32.toNatClampNeg z2_)).toInt = 7 := by omega
          have K44_ : (σ.2.1 17 (12 * (σ.1 29).toNatClampNeg + st9.toNatClampNeg)).toInt = 7 := by rw [← Xz2_]; exact o34
          have o35 : 0 ≤ ch9.toInt ∧ (σ.2.1 34 (Int32.toNatClampNeg ch9)).toInt = 2 := by omega
          have o36 : ¬ (σ.2.1 35 (Int32.toNatClampNeg ch9)).toInt = 0 := by omega
          have R45_ : y43_ = wkF (σ.1 29).toNatClampNeg (cor σ) true (σ.2.1 31) (σ.2.2.1 42) st9.toNatClampNeg base ch9 := by rw [wk_7 (T := cor σ) K44_]; rw [if_pos (show OnK (cor σ) ch9 2 from o35), if_neg (show ¬ (cor σ 35 (Int32.toNatClampNeg ch9)).toInt = 0 from o36)]; simp only [ez4_, ez22_, ez40_, ez42_, ey43_, Xz2_] <;> rfl
          exact W.lret (v := y43_) hx hb hr (fun t ht hW => ⟨⟨y43_, σ, rfl, ⟨rfl, R45_⟩, wEn_of hP (hK.sub [] rfl) hD ht hW⟩, hS.F ht⟩) hS.2.2 dX12_work_363
        · have tc41_ := (show z40_.toInt = 0 from ti_eq rfl rg_11 c41_)
          refine lv_iconst (v := 1) hx hb dX12_work_296 rg_6 ?_
          refine lv_goto (tgt := 333) hx hb dX12_work_297 rfl ?_
          refine lv_istore (lv' := [(7, .int 1), (6, .int z2_), (0, .ref h), (1, .int st9), (2, .ref (ad 31)), (3, .int base), (4, .ref (ad 42)), (5, .int ch9)]) hx hb dX12_work_333 hl (Nat.le_of_ble_eq_true rfl) rfl (fun ls hl => ?_)
          refine lv_iload hx hb dX12_work_335 (lv_at hl 0 rfl) ?_
          refine lv_if_eq (tgt := 353) hx hb dX12_work_337 rfl (fun cc => absurd cc (by decide)) (fun _ => ?_)
          refine lv_aload hx hb dX12_work_340 (lv_at hl 6 rfl) ?_
          refine lv_aload_n hx hb dX12_work_342 rfl (lv_at hl 2 rfl) ?_
          refine va_get (D := (dC, dI)) (ci := 12) (v := .ref (ad 18)) (C := RX12) (T := TX12) (N := 59) hx hb hts hin12 hown hK hP 0 rfl rfl 18 (Nat.le_of_ble_eq_true rfl) (ho (.fieldLink RX12 42 "NearEnoughModel" "sA" "[I") (List.mem_of_getElem? (i := 4) rfl)) (fun _ h9 => h9) rfl dX12_work_343 ?_
          refine lv_iload hx hb dX12_work_346 (lv_at hl 1 rfl) ?_
          refine va_iald hx hb hK hP 10 9 rfl rfl (ti_inx o4 o5) dX12_work_348 ?_
          refine lv_topi (fun z46_ ez46_ => ?_)
          have gz46_ : z46_.toInt = ((σ.2.1 18) (Int32.toNatClampNeg z2_)).toInt := congrArg Int32.toInt (ez46_.trans (congrFun rfl (Int32.toNatClampNeg z2_)))
          have bz46_ : (-1) ≤ z46_.toInt ∧ z46_.toInt ≤ 11 := by rw [ez46_]; exact (hI.2 18) _ (cl_lt (n := 24) o4 o5)
          have o37 : 0 ≤ z46_.toInt := by omega
          have o38 : z46_.toInt < ((12 : Nat) : Int) := by omega
          refine va_lald hx hb hK hP 30 29 rfl rfl (ti_inx o37 o38) dX12_work_349 ?_
          refine lv_topl (fun y47_ ey47_ => ?_)
          refine lv_goto (tgt := 363) hx hb dX12_work_350 rfl ?_
          rw [hQ]
          have o39 : (σ.2.1 17 (Int32.toNatClampNeg z2_)).toInt = 7 := by omega
          have K48_ : (σ.2.1 17 (12 * (σ.1 29).toNatClampNeg + st9.toNatClampNeg)).toInt = 7 := by rw [← Xz2_]; exact o39
          have o40 : 0 ≤ ch9.toInt ∧ (σ.2.1 34 (Int32.toNatClampNeg ch9)).toInt = 2 := by omega
          have o41 : (σ.2.1 35 (Int32.toNatClampNeg ch9)).toInt = 0 := by omega
          have R49_ : y47_ = wkF (σ.1 29).toNatClampNeg (cor σ) true (σ.2.1 31) (σ.2.2.1 42) st9.toNatClampNeg base ch9 := by rw [wk_7 (T := cor σ) K48_]; rw [if_pos (show OnK (cor σ) ch9 2 from o40), if_pos (show (cor σ 35 (Int32.toNatClampNeg ch9)).toInt = 0 from o41)]; simp only [ez4_, ez22_, ez40_, ez46_, ey47_, Xz2_] <;> rfl
          exact W.lret (v := y47_) hx hb hr (fun t ht hW => ⟨⟨y47_, σ, rfl, ⟨rfl, R49_⟩, wEn_of hP (hK.sub [] rfl) hD ht hW⟩, hS.F ht⟩) hS.2.2 dX12_work_363
  · by_cases c_hi : 6 < z4_.toInt
    · refine lv_tableOut (tgt := 270) hx hb dX12_work_14 (Or.inr c_hi) rfl ?_
      refine lv_iload hx hb dX12_work_270 (lv_at hl 6 rfl) ?_
      refine lv_if_lt (tgt := 304) hx hb dX12_work_272 rfl (fun c50_ => ?_) (fun c50_ => ?_)
      · have tc50_ := (show ch9.toInt < 0 from ti_lt rfl rg_11 c50_)
        refine lv_aload hx hb dX12_work_304 (lv_at hl 5 rfl) ?_
        refine lv_aload_n hx hb dX12_work_306 rfl (lv_at hl 1 rfl) ?_
        refine va_get (D := (dC, dI)) (ci := 12) (v := .ref (ad 20)) (C := RX12) (T := TX12) (N := 59) hx hb hts hin12 hown hK hP 0 rfl rfl 20 (Nat.le_of_ble_eq_true rfl) (ho (.fieldLink RX12 48 "NearEnoughModel" "sC" "[I") (List.mem_of_getElem? (i := 1) rfl)) (fun _ h9 => h9) rfl dX12_work_307 ?_
        refine lv_iload hx hb dX12_work_310 (lv_at hl 0 rfl) ?_
        refine va_iald hx hb hK hP 12 11 rfl rfl (ti_inx o4 o5) dX12_work_312 ?_
        refine lv_topi (fun z51_ ez51_ => ?_)
        have gz51_ : z51_.toInt = ((σ.2.1 20) (Int32.toNatClampNeg z2_)).toInt := congrArg Int32.toInt (ez51_.trans (congrFun rfl (Int32.toNatClampNeg z2_)))
        have bz51_ : (-1) ≤ z51_.toInt ∧ z51_.toInt ≤ 99 := by rw [ez51_]; exact (hI.2 20) _ (cl_lt (n := 24) o4 o5)
        have o42 : 0 ≤ z51_.toInt := by omega
        have o43 : z51_.toInt < ((12 : Nat) : Int) := by omega
        refine va_lald hx hb hK hP 30 29 rfl rfl (ti_inx o42 o43) dX12_work_313 ?_
        refine lv_topl (fun y52_ ey52_ => ?_)
        refine lv_aload hx hb dX12_work_314 (lv_at hl 5 rfl) ?_
        refine lv_aload_n hx hb dX12_work_316 rfl (lv_at hl 1 rfl) ?_
        refine va_get (D := (dC, dI)) (ci := 12) (v := .ref (ad 21)) (C := RX12) (T := TX12) (N := 59) hx hb hts hin12 hown hK hP 0 rfl rfl 21 (Nat.le_of_ble_eq_true rfl) (ho (.fieldLink RX12 51 "NearEnoughModel" "sD" "[I") (List.mem_of_getElem? (i := 2) rfl)) (fun _ h9 => h9) rfl dX12_work_317 ?_
        refine lv_iload hx hb dX12_work_320 (lv_at hl 0 rfl) ?_
        refine va_iald hx hb hK hP 13 12 rfl rfl (ti_inx o4 o5) dX12_work_322 ?_
        refine lv_topi (fun z53_ ez53_ => ?_)
        have gz53_ : z53_.toInt = ((σ.2.1 21) (Int32.toNatClampNeg z2_)).toInt := congrArg Int32.toInt (ez53_.trans (congrFun rfl (Int32.toNatClampNeg z2_)))
        have bz53_ : (-1) ≤ z53_.toInt ∧ z53_.toInt ≤ 11 := by rw [ez53_]; exact (hI.2 21) _ (cl_lt (n := 24) o4 o5)
        have o44 : 0 ≤ z53_.toInt := by omega
        have o45 : z53_.toInt < ((12 : Nat) : Int) := by omega
        refine va_lald hx hb hK hP 30 29 rfl rfl (ti_inx o44 o45) dX12_work_323 ?_
        refine lv_topl (fun y54_ ey54_ => ?_)
        refine W.lcmp hx hb dX12_work_324 ?_
        refine lv_topi (fun z55_ ez55_ => ?_)
        refine lv_if_ge (tgt := 332) hx hb dX12_work_325 rfl (fun c56_ => ?_) (fun c56_ => ?_)
        · have tc56_ := (show 0 ≤ z55_.toInt from ti_le rg_11 rfl c56_)
          have lc56_ : y54_ ≤ y52_ := (lg_cmp_ge y52_ y54_).mp (by rw [← ez55_]; exact c56_)
          refine lv_iconst (v := 0) hx hb dX12_work_332 rg_0 ?_
          refine lv_istore (lv' := [(7, .int 0), (6, .int z2_), (0, .ref h), (1, .int st9), (2, .ref (ad 31)), (3, .int base), (4, .ref (ad 42)), (5, .int ch9)]) hx hb dX12_work_333 hl (Nat.le_of_ble_eq_true rfl) rfl (fun ls hl => ?_)
          refine lv_iload hx hb dX12_work_335 (lv_at hl 0 rfl) ?_
          refine lv_if_eq (tgt := 353) hx hb dX12_work_337 rfl (fun _ => ?_) (fun cc => absurd (by decide) cc)
          refine lv_aload hx hb dX12_work_353 (lv_at hl 6 rfl) ?_
          refine lv_aload_n hx hb dX12_work_355 rfl (lv_at hl 2 rfl) ?_
          refine va_get (D := (dC, dI)) (ci := 12) (v := .ref (ad 19)) (C := RX12) (T := TX12) (N := 59) hx hb hts hin12 hown hK hP 0 rfl rfl 19 (Nat.le_of_ble_eq_true rfl) (ho (.fieldLink RX12 45 "NearEnoughModel" "sB" "[I") (List.mem_of_getElem? (i := 3) rfl)) (fun _ h9 => h9) rfl dX12_work_356 ?_
          refine lv_iload hx hb dX12_work_359 (lv_at hl 1 rfl) ?_
          refine va_iald hx hb hK hP 11 10 rfl rfl (ti_inx o4 o5) dX12_work_361 ?_
          refine lv_topi (fun z57_ ez57_ => ?_)
          have gz57_ : z57_.toInt = ((σ.2.1 19) (Int32.toNatClampNeg z2_)).toInt := congrArg Int32.toInt (ez57_.trans (congrFun rfl (Int32.toNatClampNeg z2_)))
          have bz57_ : (-99) ≤ z57_.toInt ∧ z57_.toInt ≤ 99 := by rw [ez57_]; exact (hI.2 19) _ (cl_lt (n := 24) o4 o5)
          have o46 : 0 ≤ z57_.toInt := by omega
          have o47 : z57_.toInt < ((12 : Nat) : Int) := by omega
          refine va_lald hx hb hK hP 30 29 rfl rfl (ti_inx o46 o47) dX12_work_362 ?_
          refine lv_topl (fun y58_ ey58_ => ?_)
          rw [hQ]
          have o48 : (σ.2.1 17 (Int32.toNatClampNeg z2_)).toInt = 7 := by omega
          have K59_ : (σ.2.1 17 (12 * (σ.1 29).toNatClampNeg + st9.toNatClampNeg)).toInt = 7 := by rw [← Xz2_]; exact o48
          have o49 : ¬ (0 ≤ ch9.toInt ∧ (σ.2.1 34 (Int32.toNatClampNeg ch9)).toInt = 2) := by omega
          have L61_ : ¬ ((σ.2.2.1 42) (σ.2.1 20 (12 * (σ.1 29).toNatClampNeg + st9.toNatClampNeg)).toNatClampNeg < (σ.2.2.1 42) (σ.2.1 21 (12 * (σ.1 29).toNatClampNeg + st9.toNatClampNeg)).toNatClampNeg) := by rw [← Xz2_, ← ez51_, ← ez53_, ← ey52_, ← ey54_]; exact Int64.not_lt.mpr lc56_
          have R60_ : y58_ = wkF (σ.1 29).toNatClampNeg (cor σ) true (σ.2.1 31) (σ.2.2.1 42) st9.toNatClampNeg base ch9 := by rw [wk_7 (T := cor σ) K59_]; rw [if_neg (show ¬ OnK (cor σ) ch9 2 from o49), if_neg (show ¬ ((σ.2.2.1 42) (cor σ 20 (12 * (σ.1 29).toNatClampNeg + st9.toNatClampNeg)).toNatClampNeg < (σ.2.2.1 42) (cor σ 21 (12 * (σ.1 29).toNatClampNeg + st9.toNatClampNeg)).toNatClampNeg) from L61_)]; simp only [ez4_, ez51_, ey52_, ez53_, ey54_, ez55_, ez57_, ey58_, Xz2_] <;> rfl
          exact W.lret (v := y58_) hx hb hr (fun t ht hW => ⟨⟨y58_, σ, rfl, ⟨rfl, R60_⟩, wEn_of hP (hK.sub [] rfl) hD ht hW⟩, hS.F ht⟩) hS.2.2 dX12_work_363
        · have tc56_ := (show z55_.toInt < 0 from ti_nle rg_11 rfl c56_)
          have lc56_ : ¬ y54_ ≤ y52_ := fun h => c56_ (by rw [ez55_]; exact (lg_cmp_ge y52_ y54_).mpr h)
          refine lv_iconst (v := 1) hx hb dX12_work_328 rg_6 ?_
          refine lv_goto (tgt := 333) hx hb dX12_work_329 rfl ?_
          refine lv_istore (lv' := [(7, .int 1), (6, .int z2_), (0, .ref h), (1, .int st9), (2, .ref (ad 31)), (3, .int base), (4, .ref (ad 42)), (5, .int ch9)]) hx hb dX12_work_333 hl (Nat.le_of_ble_eq_true rfl) rfl (fun ls hl => ?_)
          refine lv_iload hx hb dX12_work_335 (lv_at hl 0 rfl) ?_
          refine lv_if_eq (tgt := 353) hx hb dX12_work_337 rfl (fun cc => absurd cc (by decide)) (fun _ => ?_)
          refine lv_aload hx hb dX12_work_340 (lv_at hl 6 rfl) ?_
          refine lv_aload_n hx hb dX12_work_342 rfl (lv_at hl 2 rfl) ?_
          refine va_get (D := (dC, dI)) (ci := 12) (v := .ref (ad 18)) (C := RX12) (T := TX12) (N := 59) hx hb hts hin12 hown hK hP 0 rfl rfl 18 (Nat.le_of_ble_eq_true rfl) (ho (.fieldLink RX12 42 "NearEnoughModel" "sA" "[I") (List.mem_of_getElem? (i := 4) rfl)) (fun _ h9 => h9) rfl dX12_work_343 ?_
          refine lv_iload hx hb dX12_work_346 (lv_at hl 1 rfl) ?_
          refine va_iald hx hb hK hP 10 9 rfl rfl (ti_inx o4 o5) dX12_work_348 ?_
          refine lv_topi (fun z62_ ez62_ => ?_)
          have gz62_ : z62_.toInt = ((σ.2.1 18) (Int32.toNatClampNeg z2_)).toInt := congrArg Int32.toInt (ez62_.trans (congrFun rfl (Int32.toNatClampNeg z2_)))
          have bz62_ : (-1) ≤ z62_.toInt ∧ z62_.toInt ≤ 11 := by rw [ez62_]; exact (hI.2 18) _ (cl_lt (n := 24) o4 o5)
          have o50 : 0 ≤ z62_.toInt := by omega
          have o51 : z62_.toInt < ((12 : Nat) : Int) := by omega
          refine va_lald hx hb hK hP 30 29 rfl rfl (ti_inx o50 o51) dX12_work_349 ?_
          refine lv_topl (fun y63_ ey63_ => ?_)
          refine lv_goto (tgt := 363) hx hb dX12_work_350 rfl ?_
          rw [hQ]
          have o52 : (σ.2.1 17 (Int32.toNatClampNeg z2_)).toInt = 7 := by omega
          have K64_ : (σ.2.1 17 (12 * (σ.1 29).toNatClampNeg + st9.toNatClampNeg)).toInt = 7 := by rw [← Xz2_]; exact o52
          have o53 : ¬ (0 ≤ ch9.toInt ∧ (σ.2.1 34 (Int32.toNatClampNeg ch9)).toInt = 2) := by omega
          have L66_ : (σ.2.2.1 42) (σ.2.1 20 (12 * (σ.1 29).toNatClampNeg + st9.toNatClampNeg)).toNatClampNeg < (σ.2.2.1 42) (σ.2.1 21 (12 * (σ.1 29).toNatClampNeg + st9.toNatClampNeg)).toNatClampNeg := by rw [← Xz2_, ← ez51_, ← ez53_, ← ey52_, ← ey54_]; exact Int64.not_le.mp lc56_
          have R65_ : y63_ = wkF (σ.1 29).toNatClampNeg (cor σ) true (σ.2.1 31) (σ.2.2.1 42) st9.toNatClampNeg base ch9 := by rw [wk_7 (T := cor σ) K64_]; rw [if_neg (show ¬ OnK (cor σ) ch9 2 from o53), if_pos (show (σ.2.2.1 42) (cor σ 20 (12 * (σ.1 29).toNatClampNeg + st9.toNatClampNeg)).toNatClampNeg < (σ.2.2.1 42) (cor σ 21 (12 * (σ.1 29).toNatClampNeg + st9.toNatClampNeg)).toNatClampNeg from L66_)]; simp only [ez4_, ez51_, ey52_, ez53_, ey54_, ez55_, ez62_, ey63_, Xz2_] <;> rfl
          exact W.lret (v := y63_) hx hb hr (fun t ht hW => ⟨⟨y63_, σ, rfl, ⟨rfl, R65_⟩, wEn_of hP (hK.sub [] rfl) hD ht hW⟩, hS.F ht⟩) hS.2.2 dX12_work_363
      · have tc50_ := (show 0 ≤ ch9.toInt from ti_nlt rfl rg_11 c50_)
        refine lv_aload_n hx hb dX12_work_275 rfl (lv_at hl 1 rfl) ?_
        refine va_get (D := (dC, dI)) (ci := 12) (v := .ref (ad 34)) (C := RX12) (T := TX12) (N := 59) hx hb hts hin12 hown hK hP 0 rfl rfl 34 (Nat.le_of_ble_eq_true rfl) (ho (.fieldLink RX12 85 "NearEnoughModel" "cKind" "[I") (List.mem_of_getElem? (i := 5) rfl)) (fun _ h9 => h9) rfl dX12_work_276 ?_
        refine lv_iload hx hb dX12_work_279 (lv_at hl 6 rfl) ?_
        have o54 : 0 ≤ ch9.toInt := by omega
        have o55 : ch9.toInt < ((12 : Nat) : Int) := by omega
        refine va_iald hx hb hK hP 24 23 rfl rfl (ti_inx o54 o55) dX12_work_281 ?_
        refine lv_topi (fun z67_ ez67_ => ?_)
        have gz67_ : z67_.toInt = ((σ.2.1 34) (Int32.toNatClampNeg ch9)).toInt := congrArg Int32.toInt (ez67_.trans (congrFun rfl (Int32.toNatClampNeg ch9)))
        have bz67_ : 0 ≤ z67_.toInt ∧ z67_.toInt ≤ 6 := by rw [ez67_]; exact (hI.2 34) _ (cl_lt (n := 12) o54 o55)
        refine lv_iconst (v := 2) hx hb dX12_work_282 rg_19 ?_
        refine lv_icmp_ne (tgt := 304) hx hb dX12_work_283 rfl (fun c68_ => ?_) (fun c68_ => ?_)
        · have tc68_ := (show z67_.toInt ≠ 2 from ti_ne rfl rg_20 c68_)
          refine lv_aload hx hb dX12_work_304 (lv_at hl 5 rfl) ?_
          refine lv_aload_n hx hb dX12_work_306 rfl (lv_at hl 1 rfl) ?_
          refine va_get (D := (dC, dI)) (ci := 12) (v := .ref (ad 20)) (C := RX12) (T := TX12) (N := 59) hx hb hts hin12 hown hK hP 0 rfl rfl 20 (Nat.le_of_ble_eq_true rfl) (ho (.fieldLink RX12 48 "NearEnoughModel" "sC" "[I") (List.mem_of_getElem? (i := 1) rfl)) (fun _ h9 => h9) rfl dX12_work_307 ?_
          refine lv_iload hx hb dX12_work_310 (lv_at hl 0 rfl) ?_
          refine va_iald hx hb hK hP 12 11 rfl rfl (ti_inx o4 o5) dX12_work_312 ?_
          refine lv_topi (fun z69_ ez69_ => ?_)
          have gz69_ : z69_.toInt = ((σ.2.1 20) (Int32.toNatClampNeg z2_)).toInt := congrArg Int32.toInt (ez69_.trans (congrFun rfl (Int32.toNatClampNeg z2_)))
          have bz69_ : (-1) ≤ z69_.toInt ∧ z69_.toInt ≤ 99 := by rw [ez69_]; exact (hI.2 20) _ (cl_lt (n := 24) o4 o5)
          have o56 : 0 ≤ z69_.toInt := by omega
          have o57 : z69_.toInt < ((12 : Nat) : Int) := by omega
          refine va_lald hx hb hK hP 30 29 rfl rfl (ti_inx o56 o57) dX12_work_313 ?_
          refine lv_topl (fun y70_ ey70_ => ?_)
          refine lv_aload hx hb dX12_work_314 (lv_at hl 5 rfl) ?_
          refine lv_aload_n hx hb dX12_work_316 rfl (lv_at hl 1 rfl) ?_
          refine va_get (D := (dC, dI)) (ci := 12) (v := .ref (ad 21)) (C := RX12) (T := TX12) (N := 59) hx hb hts hin12 hown hK hP 0 rfl rfl 21 (Nat.le_of_ble_eq_true rfl) (ho (.fieldLink RX12 51 "NearEnoughModel" "sD" "[I") (List.mem_of_getElem? (i := 2) rfl)) (fun _ h9 => h9) rfl dX12_work_317 ?_
          refine lv_iload hx hb dX12_work_320 (lv_at hl 0 rfl) ?_
          refine va_iald hx hb hK hP 13 12 rfl rfl (ti_inx o4 o5) dX12_work_322 ?_
          refine lv_topi (fun z71_ ez71_ => ?_)
          have gz71_ : z71_.toInt = ((σ.2.1 21) (Int32.toNatClampNeg z2_)).toInt := congrArg Int32.toInt (ez71_.trans (congrFun rfl (Int32.toNatClampNeg z2_)))
          have bz71_ : (-1) ≤ z71_.toInt ∧ z71_.toInt ≤ 11 := by rw [ez71_]; exact (hI.2 21) _ (cl_lt (n := 24) o4 o5)
          have o58 : 0 ≤ z71_.toInt := by omega
          have o59 : z71_.toInt < ((12 : Nat) : Int) := by omega
          refine va_lald hx hb hK hP 30 29 rfl rfl (ti_inx o58 o59) dX12_work_323 ?_
          refine lv_topl (fun y72_ ey72_ => ?_)
          refine W.lcmp hx hb dX12_work_324 ?_
          refine lv_topi (fun z73_ ez73_ => ?_)
          refine lv_if_ge (tgt := 332) hx hb dX12_work_325 rfl (fun c74_ => ?_) (fun c74_ => ?_)
          · have tc74_ := (show 0 ≤ z73_.toInt from ti_le rg_11 rfl c74_)
            have lc74_ : y72_ ≤ y70_ := (lg_cmp_ge y70_ y72_).mp (by rw [← ez73_]; exact c74_)
            refine lv_iconst (v := 0) hx hb dX12_work_332 rg_0 ?_
            refine lv_istore (lv' := [(7, .int 0), (6, .int z2_), (0, .ref h), (1, .int st9), (2, .ref (ad 31)), (3, .int base), (4, .ref (ad 42)), (5, .int ch9)]) hx hb dX12_work_333 hl (Nat.le_of_ble_eq_true rfl) rfl (fun ls hl => ?_)
            refine lv_iload hx hb dX12_work_335 (lv_at hl 0 rfl) ?_
            refine lv_if_eq (tgt := 353) hx hb dX12_work_337 rfl (fun _ => ?_) (fun cc => absurd (by decide) cc)
            refine lv_aload hx hb dX12_work_353 (lv_at hl 6 rfl) ?_
            refine lv_aload_n hx hb dX12_work_355 rfl (lv_at hl 2 rfl) ?_
            refine va_get (D := (dC, dI)) (ci := 12) (v := .ref (ad 19)) (C := RX12) (T := TX12) (N := 59) hx hb hts hin12 hown hK hP 0 rfl rfl 19 (Nat.le_of_ble_eq_true rfl) (ho (.fieldLink RX12 45 "NearEnoughModel" "sB" "[I") (List.mem_of_getElem? (i := 3) rfl)) (fun _ h9 => h9) rfl dX12_work_356 ?_
            refine lv_iload hx hb dX12_work_359 (lv_at hl 1 rfl) ?_
            refine va_iald hx hb hK hP 11 10 rfl rfl (ti_inx o4 o5) dX12_work_361 ?_
            refine lv_topi (fun z75_ ez75_ => ?_)
            have gz75_ : z75_.toInt = ((σ.2.1 19) (Int32.toNatClampNeg z2_)).toInt := congrArg Int32.toInt (ez75_.trans (congrFun rfl (Int32.toNatClampNeg z2_)))
            have bz75_ : (-99) ≤ z75_.toInt ∧ z75_.toInt ≤ 99 := by rw [ez75_]; exact (hI.2 19) _ (cl_lt (n := 24) o4 o5)
            have o60 : 0 ≤ z75_.toInt := by omega
            have o61 : z75_.toInt < ((12 : Nat) : Int) := by omega
            refine va_lald hx hb hK hP 30 29 rfl rfl (ti_inx o60 o61) dX12_work_362 ?_
            refine lv_topl (fun y76_ ey76_ => ?_)
            rw [hQ]
            have o62 : (σ.2.1 17 (Int32.toNatClampNeg z2_)).toInt = 7 := by omega
            have K77_ : (σ.2.1 17 (12 * (σ.1 29).toNatClampNeg + st9.toNatClampNeg)).toInt = 7 := by rw [← Xz2_]; exact o62
            have o63 : ¬ (0 ≤ ch9.toInt ∧ (σ.2.1 34 (Int32.toNatClampNeg ch9)).toInt = 2) := by omega
            have L79_ : ¬ ((σ.2.2.1 42) (σ.2.1 20 (12 * (σ.1 29).toNatClampNeg + st9.toNatClampNeg)).toNatClampNeg < (σ.2.2.1 42) (σ.2.1 21 (12 * (σ.1 29).toNatClampNeg + st9.toNatClampNeg)).toNatClampNeg) := by rw [← Xz2_, ← ez69_, ← ez71_, ← ey70_, ← ey72_]; exact Int64.not_lt.mpr lc74_
            have R78_ : y76_ = wkF (σ.1 29).toNatClampNeg (cor σ) true (σ.2.1 31) (σ.2.2.1 42) st9.toNatClampNeg base ch9 := by rw [wk_7 (T := cor σ) K77_]; rw [if_neg (show ¬ OnK (cor σ) ch9 2 from o63), if_neg (show ¬ ((σ.2.2.1 42) (cor σ 20 (12 * (σ.1 29).toNatClampNeg + st9.toNatClampNeg)).toNatClampNeg < (σ.2.2.1 42) (cor σ 21 (12 * (σ.1 29).toNatClampNeg + st9.toNatClampNeg)).toNatClampNeg) from L79_)]; simp only [ez4_, ez67_, ez69_, ey70_, ez71_, ey72_, ez73_, ez75_, ey76_, Xz2_] <;> rfl
            exact W.lret (v := y76_) hx hb hr (fun t ht hW => ⟨⟨y76_, σ, rfl, ⟨rfl, R78_⟩, wEn_of hP (hK.sub [] rfl) hD ht hW⟩, hS.F ht⟩) hS.2.2 dX12_work_363
          · have tc74_ := (show z73_.toInt < 0 from ti_nle rg_11 rfl c74_)
            have lc74_ : ¬ y72_ ≤ y70_ := fun h => c74_ (by rw [ez73_]; exact (lg_cmp_ge y70_ y72_).mpr h)
            refine lv_iconst (v := 1) hx hb dX12_work_328 rg_6 ?_
            refine lv_goto (tgt := 333) hx hb dX12_work_329 rfl ?_
            refine lv_istore (lv' := [(7, .int 1), (6, .int z2_), (0, .ref h), (1, .int st9), (2, .ref (ad 31)), (3, .int base), (4, .ref (ad 42)), (5, .int ch9)]) hx hb dX12_work_333 hl (Nat.le_of_ble_eq_true rfl) rfl (fun ls hl => ?_)
            refine lv_iload hx hb dX12_work_335 (lv_at hl 0 rfl) ?_
            refine lv_if_eq (tgt := 353) hx hb dX12_work_337 rfl (fun cc => absurd cc (by decide)) (fun _ => ?_)
            refine lv_aload hx hb dX12_work_340 (lv_at hl 6 rfl) ?_
            refine lv_aload_n hx hb dX12_work_342 rfl (lv_at hl 2 rfl) ?_
            refine va_get (D := (dC, dI)) (ci := 12) (v := .ref (ad 18)) (C := RX12) (T := TX12) (N := 59) hx hb hts hin12 hown hK hP 0 rfl rfl 18 (Nat.le_of_ble_eq_true rfl) (ho (.fieldLink RX12 42 "NearEnoughModel" "sA" "[I") (List.mem_of_getElem? (i := 4) rfl)) (fun _ h9 => h9) rfl dX12_work_343 ?_
            refine lv_iload hx hb dX12_work_346 (lv_at hl 1 rfl) ?_
            refine va_iald hx hb hK hP 10 9 rfl rfl (ti_inx o4 o5) dX12_work_348 ?_
            refine lv_topi (fun z80_ ez80_ => ?_)
            have gz80_ : z80_.toInt = ((σ.2.1 18) (Int32.toNatClampNeg z2_)).toInt := congrArg Int32.toInt (ez80_.trans (congrFun rfl (Int32.toNatClampNeg z2_)))
            have bz80_ : (-1) ≤ z80_.toInt ∧ z80_.toInt ≤ 11 := by rw [ez80_]; exact (hI.2 18) _ (cl_lt (n := 24) o4 o5)
            have o64 : 0 ≤ z80_.toInt := by omega
            have o65 : z80_.toInt < ((12 : Nat) : Int) := by omega
            refine va_lald hx hb hK hP 30 29 rfl rfl (ti_inx o64 o65) dX12_work_349 ?_
            refine lv_topl (fun y81_ ey81_ => ?_)
            refine lv_goto (tgt := 363) hx hb dX12_work_350 rfl ?_
            rw [hQ]
            have o66 : (σ.2.1 17 (Int32.toNatClampNeg z2_)).toInt = 7 := by omega
            have K82_ : (σ.2.1 17 (12 * (σ.1 29).toNatClampNeg + st9.toNatClampNeg)).toInt = 7 := by rw [← Xz2_]; exact o66
            have o67 : ¬ (0 ≤ ch9.toInt ∧ (σ.2.1 34 (Int32.toNatClampNeg ch9)).toInt = 2) := by omega
            have L84_ : (σ.2.2.1 42) (σ.2.1 20 (12 * (σ.1 29).toNatClampNeg + st9.toNatClampNeg)).toNatClampNeg < (σ.2.2.1 42) (σ.2.1 21 (12 * (σ.1 29).toNatClampNeg + st9.toNatClampNeg)).toNatClampNeg := by rw [← Xz2_, ← ez69_, ← ez71_, ← ey70_, ← ey72_]; exact Int64.not_le.mp lc74_
            have R83_ : y81_ = wkF (σ.1 29).toNatClampNeg (cor σ) true (σ.2.1 31) (σ.2.2.1 42) st9.toNatClampNeg base ch9 := by rw [wk_7 (T := cor σ) K82_]; rw [if_neg (show ¬ OnK (cor σ) ch9 2 from o67), if_pos (show (σ.2.2.1 42) (cor σ 20 (12 * (σ.1 29).toNatClampNeg + st9.toNatClampNeg)).toNatClampNeg < (σ.2.2.1 42) (cor σ 21 (12 * (σ.1 29).toNatClampNeg + st9.toNatClampNeg)).toNatClampNeg from L84_)]; simp only [ez4_, ez67_, ez69_, ey70_, ez71_, ey72_, ez73_, ez80_, ey81_, Xz2_] <;> rfl
            exact W.lret (v := y81_) hx hb hr (fun t ht hW => ⟨⟨y81_, σ, rfl, ⟨rfl, R83_⟩, wEn_of hP (hK.sub [] rfl) hD ht hW⟩, hS.F ht⟩) hS.2.2 dX12_work_363
        · have tc68_ := (show z67_.toInt = 2 from ti_eq rfl rg_20 c68_)
          refine lv_aload_n hx hb dX12_work_286 rfl (lv_at hl 1 rfl) ?_
          refine va_get (D := (dC, dI)) (ci := 12) (v := .ref (ad 35)) (C := RX12) (T := TX12) (N := 59) hx hb hts hin12 hown hK hP 0 rfl rfl 35 (Nat.le_of_ble_eq_true rfl) (ho (.fieldLink RX12 88 "NearEnoughModel" "cN" "[I") (List.mem_of_getElem? (i := 6) rfl)) (fun _ h9 => h9) rfl dX12_work_287 ?_
          refine lv_iload hx hb dX12_work_290 (lv_at hl 6 rfl) ?_
          refine va_iald hx hb hK hP 25 24 rfl rfl (ti_inx o54 o55) dX12_work_292 ?_
          refine lv_topi (fun z85_ ez85_ => ?_)
          have gz85_ : z85_.toInt = ((σ.2.1 35) (Int32.toNatClampNeg ch9)).toInt := congrArg Int32.toInt (ez85_.trans (congrFun rfl (Int32.toNatClampNeg ch9)))
          have bz85_ : 0 ≤ z85_.toInt ∧ z85_.toInt ≤ 99 := by rw [ez85_]; exact (hI.2 35) _ (cl_lt (n := 12) o54 o55)
          refine lv_if_ne (tgt := 300) hx hb dX12_work_293 rfl (fun c86_ => ?_) (fun c86_ => ?_)
          · have tc86_ := (show z85_.toInt ≠ 0 from ti_ne rfl rg_11 c86_)
            refine lv_iconst (v := 0) hx hb dX12_work_300 rg_0 ?_
            refine lv_goto (tgt := 333) hx hb dX12_work_301 rfl ?_
            refine lv_istore (lv' := [(7, .int 0), (6, .int z2_), (0, .ref h), (1, .int st9), (2, .ref (ad 31)), (3, .int base), (4, .ref (ad 42)), (5, .int ch9)]) hx hb dX12_work_333 hl (Nat.le_of_ble_eq_true rfl) rfl (fun ls hl => ?_)
            refine lv_iload hx hb dX12_work_335 (lv_at hl 0 rfl) ?_
            refine lv_if_eq (tgt := 353) hx hb dX12_work_337 rfl (fun _ => ?_) (fun cc => absurd (by decide) cc)
            refine lv_aload hx hb dX12_work_353 (lv_at hl 6 rfl) ?_
            refine lv_aload_n hx hb dX12_work_355 rfl (lv_at hl 2 rfl) ?_
            refine va_get (D := (dC, dI)) (ci := 12) (v := .ref (ad 19)) (C := RX12) (T := TX12) (N := 59) hx hb hts hin12 hown hK hP 0 rfl rfl 19 (Nat.le_of_ble_eq_true rfl) (ho (.fieldLink RX12 45 "NearEnoughModel" "sB" "[I") (List.mem_of_getElem? (i := 3) rfl)) (fun _ h9 => h9) rfl dX12_work_356 ?_
            refine lv_iload hx hb dX12_work_359 (lv_at hl 1 rfl) ?_
            refine va_iald hx hb hK hP 11 10 rfl rfl (ti_inx o4 o5) dX12_work_361 ?_
            refine lv_topi (fun z87_ ez87_ => ?_)
            have gz87_ : z87_.toInt = ((σ.2.1 19) (Int32.toNatClampNeg z2_)).toInt := congrArg Int32.toInt (ez87_.trans (congrFun rfl (Int32.toNatClampNeg z2_)))
            have bz87_ : (-99) ≤ z87_.toInt ∧ z87_.toInt ≤ 99 := by rw [ez87_]; exact (hI.2 19) _ (cl_lt (n := 24) o4 o5)
            have o68 : 0 ≤ z87_.toInt := by omega
            have o69 : z87_.toInt < ((12 : Nat) : Int) := by omega
            refine va_lald hx hb hK hP 30 29 rfl rfl (ti_inx o68 o69) dX12_work_362 ?_
            refine lv_topl (fun y88_ ey88_ => ?_)
            rw [hQ]
            have o70 : (σ.2.1 17 (Int32.toNatClampNeg z2_)).toInt = 7 := by omega
            have K89_ : (σ.2.1 17 (12 * (σ.1 29).toNatClampNeg + st9.toNatClampNeg)).toInt = 7 := by rw [← Xz2_]; exact o70
            have o71 : 0 ≤ ch9.toInt ∧ (σ.2.1 34 (Int32.toNatClampNeg ch9)).toInt = 2 := by omega
            have o72 : ¬ (σ.2.1 35 (Int32.toNatClampNeg ch9)).toInt = 0 := by omega
            have R90_ : y88_ = wkF (σ.1 29).toNatClampNeg (cor σ) true (σ.2.1 31) (σ.2.2.1 42) st9.toNatClampNeg base ch9 := by rw [wk_7 (T := cor σ) K89_]; rw [if_pos (show OnK (cor σ) ch9 2 from o71), if_neg (show ¬ (cor σ 35 (Int32.toNatClampNeg ch9)).toInt = 0 from o72)]; simp only [ez4_, ez67_, ez85_, ez87_, ey88_, Xz2_] <;> rfl
            exact W.lret (v := y88_) hx hb hr (fun t ht hW => ⟨⟨y88_, σ, rfl, ⟨rfl, R90_⟩, wEn_of hP (hK.sub [] rfl) hD ht hW⟩, hS.F ht⟩) hS.2.2 dX12_work_363
          · have tc86_ := (show z85_.toInt = 0 from ti_eq rfl rg_11 c86_)
            refine lv_iconst (v := 1) hx hb dX12_work_296 rg_6 ?_
            refine lv_goto (tgt := 333) hx hb dX12_work_297 rfl ?_
            refine lv_istore (lv' := [(7, .int 1), (6, .int z2_), (0, .ref h), (1, .int st9), (2, .ref (ad 31)), (3, .int base), (4, .ref (ad 42)), (5, .int ch9)]) hx hb dX12_work_333 hl (Nat.le_of_ble_eq_true rfl) rfl (fun ls hl => ?_)
            refine lv_iload hx hb dX12_work_335 (lv_at hl 0 rfl) ?_
            refine lv_if_eq (tgt := 353) hx hb dX12_work_337 rfl (fun cc => absurd cc (by decide)) (fun _ => ?_)
            refine lv_aload hx hb dX12_work_340 (lv_at hl 6 rfl) ?_
            refine lv_aload_n hx hb dX12_work_342 rfl (lv_at hl 2 rfl) ?_
            refine va_get (D := (dC, dI)) (ci := 12) (v := .ref (ad 18)) (C := RX12) (T := TX12) (N := 59) hx hb hts hin12 hown hK hP 0 rfl rfl 18 (Nat.le_of_ble_eq_true rfl) (ho (.fieldLink RX12 42 "NearEnoughModel" "sA" "[I") (List.mem_of_getElem? (i := 4) rfl)) (fun _ h9 => h9) rfl dX12_work_343 ?_
            refine lv_iload hx hb dX12_work_346 (lv_at hl 1 rfl) ?_
            refine va_iald hx hb hK hP 10 9 rfl rfl (ti_inx o4 o5) dX12_work_348 ?_
            refine lv_topi (fun z91_ ez91_ => ?_)
            have gz91_ : z91_.toInt = ((σ.2.1 18) (Int32.toNatClampNeg z2_)).toInt := congrArg Int32.toInt (ez91_.trans (congrFun rfl (Int32.toNatClampNeg z2_)))
            have bz91_ : (-1) ≤ z91_.toInt ∧ z91_.toInt ≤ 11 := by rw [ez91_]; exact (hI.2 18) _ (cl_lt (n := 24) o4 o5)
            have o73 : 0 ≤ z91_.toInt := by omega
            have o74 : z91_.toInt < ((12 : Nat) : Int) := by omega
            refine va_lald hx hb hK hP 30 29 rfl rfl (ti_inx o73 o74) dX12_work_349 ?_
            refine lv_topl (fun y92_ ey92_ => ?_)
            refine lv_goto (tgt := 363) hx hb dX12_work_350 rfl ?_
            rw [hQ]
            have o75 : (σ.2.1 17 (Int32.toNatClampNeg z2_)).toInt = 7 := by omega
            have K93_ : (σ.2.1 17 (12 * (σ.1 29).toNatClampNeg + st9.toNatClampNeg)).toInt = 7 := by rw [← Xz2_]; exact o75
            have o76 : 0 ≤ ch9.toInt ∧ (σ.2.1 34 (Int32.toNatClampNeg ch9)).toInt = 2 := by omega
            have o77 : (σ.2.1 35 (Int32.toNatClampNeg ch9)).toInt = 0 := by omega
            have R94_ : y92_ = wkF (σ.1 29).toNatClampNeg (cor σ) true (σ.2.1 31) (σ.2.2.1 42) st9.toNatClampNeg base ch9 := by rw [wk_7 (T := cor σ) K93_]; rw [if_pos (show OnK (cor σ) ch9 2 from o76), if_pos (show (cor σ 35 (Int32.toNatClampNeg ch9)).toInt = 0 from o77)]; simp only [ez4_, ez67_, ez85_, ez91_, ey92_, Xz2_] <;> rfl
            exact W.lret (v := y92_) hx hb hr (fun t ht hW => ⟨⟨y92_, σ, rfl, ⟨rfl, R94_⟩, wEn_of hP (hK.sub [] rfl) hD ht hW⟩, hS.F ht⟩) hS.2.2 dX12_work_363
    · rcases (show z4_.toInt = 0 ∨ z4_.toInt = 1 ∨ z4_.toInt = 2 ∨ z4_.toInt = 3 ∨ z4_.toInt = 4 ∨ z4_.toInt = 5 ∨ z4_.toInt = 6 by omega) with t_sw | t_sw | t_sw | t_sw | t_sw | t_sw | t_sw
      · refine lv_tableIn (tgt := 56) (off := 42) hx hb dX12_work_14 (by rw [t_sw]; decide) (by rw [t_sw]; decide) (by rw [t_sw]; decide) (by decide) ?_
        refine lv_aload_n hx hb dX12_work_56 rfl (lv_at hl 1 rfl) ?_
        refine lv_iload_n hx hb dX12_work_57 rfl (lv_at hl 2 rfl) ?_
        refine lv_aload_n hx hb dX12_work_58 rfl (lv_at hl 3 rfl) ?_
        refine lv_iload_n hx hb dX12_work_59 rfl (lv_at hl 4 rfl) ?_
        refine lv_iload hx hb dX12_work_60 (lv_at hl 6 rfl) ?_
        have o78 : 0 ≤ base.toInt := by omega
        have o79 : base.toInt ≤ 468 := by omega
        have o80 : (σ.2.1 17 (Int32.toNatClampNeg z2_)).toInt = 0 ∨ (σ.2.1 17 (Int32.toNatClampNeg z2_)).toInt = 1 ∨ (σ.2.1 17 (Int32.toNatClampNeg z2_)).toInt = 6 := by omega
        have K95_ : (σ.2.1 17 (12 * (σ.1 29).toNatClampNeg + st9.toNatClampNeg)).toInt = 0 ∨ (σ.2.1 17 (12 * (σ.1 29).toNatClampNeg + st9.toNatClampNeg)).toInt = 1 ∨ (σ.2.1 17 (12 * (σ.1 29).toNatClampNeg + st9.toNatClampNeg)).toInt = 6 := by rw [← Xz2_]; exact o80
        have o81 : base.toInt = 0 ∨ 12 ≤ base.toInt := by omega
        refine zy_l (va_runV (As := [.int st9, .ref (ad 31), .int base, .int ch9]) (rest := []) ⟨hx, hb, hml, hown, hts⟩ (n_ofRow_n l dC dI h ad cl H.size σ st9 base ch9 hI ⟨o1, o2⟩ ⟨o78, o79⟩ (show base.toInt = 0 ∨ 12 ≤ base.toInt from o81) hch0 (WkOk.row hI hwk K95_)) (cwV 4 hts gd_n_work_np_360_n_ofRow_n rfl rfl rfl dd_n_ofRow_n ⟨Nat.le_of_ble_eq_true rfl, Nat.le_of_ble_eq_true rfl⟩) (preV hP hK hD hE (ci := 12) (q0 := 0) rfl rfl) rfl rfl hl.1 rfl (lv_room (Nat.le_of_ble_eq_true rfl)) dX12_work_62 ⟨Nat.le_of_ble_eq_true rfl, Nat.le_of_ble_eq_true rfl⟩) hD hS hA (fun y97_ τ96_ H locs hq hP hD hS => ?_)
        obtain ⟨rfl, f98_⟩ := hq
        refine W.widen (k := 0) (n := 0) (Nat.le_of_ble_eq_true rfl) (Nat.le_of_ble_eq_true rfl) ?_
        rw [hQ]
        have o82 : (σ.2.1 17 (Int32.toNatClampNeg z2_)).toInt = 0 ∨ (σ.2.1 17 (Int32.toNatClampNeg z2_)).toInt = 1 := by omega
        have K99_ : (σ.2.1 17 (12 * (σ.1 29).toNatClampNeg + st9.toNatClampNeg)).toInt = 0 ∨ (σ.2.1 17 (12 * (σ.1 29).toNatClampNeg + st9.toNatClampNeg)).toInt = 1 := by rw [← Xz2_]; exact o82
        exact W.lret (v := y97_) hx hb hr (fun t ht hW => ⟨⟨y97_, σ, rfl, ⟨rfl, (f98_.trans (wk_0 (T := cor σ) K99_).symm)⟩, wEn_of hP (hK.sub [] rfl) hD ht hW⟩, hS.F ht⟩) hS.2.2 dX12_work_65
      · refine lv_tableIn (tgt := 56) (off := 42) hx hb dX12_work_14 (by rw [t_sw]; decide) (by rw [t_sw]; decide) (by rw [t_sw]; decide) (by decide) ?_
        refine lv_aload_n hx hb dX12_work_56 rfl (lv_at hl 1 rfl) ?_
        refine lv_iload_n hx hb dX12_work_57 rfl (lv_at hl 2 rfl) ?_
        refine lv_aload_n hx hb dX12_work_58 rfl (lv_at hl 3 rfl) ?_
        refine lv_iload_n hx hb dX12_work_59 rfl (lv_at hl 4 rfl) ?_
        refine lv_iload hx hb dX12_work_60 (lv_at hl 6 rfl) ?_
        have o83 : 0 ≤ base.toInt := by omega
        have o84 : base.toInt ≤ 468 := by omega
        have o85 : (σ.2.1 17 (Int32.toNatClampNeg z2_)).toInt = 0 ∨ (σ.2.1 17 (Int32.toNatClampNeg z2_)).toInt = 1 ∨ (σ.2.1 17 (Int32.toNatClampNeg z2_)).toInt = 6 := by omega
        have K100_ : (σ.2.1 17 (12 * (σ.1 29).toNatClampNeg + st9.toNatClampNeg)).toInt = 0 ∨ (σ.2.1 17 (12 * (σ.1 29).toNatClampNeg + st9.toNatClampNeg)).toInt = 1 ∨ (σ.2.1 17 (12 * (σ.1 29).toNatClampNeg + st9.toNatClampNeg)).toInt = 6 := by rw [← Xz2_]; exact o85
        have o86 : base.toInt = 0 ∨ 12 ≤ base.toInt := by omega
        refine zy_l (va_runV (As := [.int st9, .ref (ad 31), .int base, .int ch9]) (rest := []) ⟨hx, hb, hml, hown, hts⟩ (n_ofRow_n l dC dI h ad cl H.size σ st9 base ch9 hI ⟨o1, o2⟩ ⟨o83, o84⟩ (show base.toInt = 0 ∨ 12 ≤ base.toInt from o86) hch0 (WkOk.row hI hwk K100_)) (cwV 4 hts gd_n_work_np_360_n_ofRow_n rfl rfl rfl dd_n_ofRow_n ⟨Nat.le_of_ble_eq_true rfl, Nat.le_of_ble_eq_true rfl⟩) (preV hP hK hD hE (ci := 12) (q0 := 0) rfl rfl) rfl rfl hl.1 rfl (lv_room (Nat.le_of_ble_eq_true rfl)) dX12_work_62 ⟨Nat.le_of_ble_eq_true rfl, Nat.le_of_ble_eq_true rfl⟩) hD hS hA (fun y102_ τ101_ H locs hq hP hD hS => ?_)
        obtain ⟨rfl, f103_⟩ := hq
        refine W.widen (k := 0) (n := 0) (Nat.le_of_ble_eq_true rfl) (Nat.le_of_ble_eq_true rfl) ?_
        rw [hQ]
        have o87 : (σ.2.1 17 (Int32.toNatClampNeg z2_)).toInt = 0 ∨ (σ.2.1 17 (Int32.toNatClampNeg z2_)).toInt = 1 := by omega
        have K104_ : (σ.2.1 17 (12 * (σ.1 29).toNatClampNeg + st9.toNatClampNeg)).toInt = 0 ∨ (σ.2.1 17 (12 * (σ.1 29).toNatClampNeg + st9.toNatClampNeg)).toInt = 1 := by rw [← Xz2_]; exact o87
        exact W.lret (v := y102_) hx hb hr (fun t ht hW => ⟨⟨y102_, σ, rfl, ⟨rfl, (f103_.trans (wk_0 (T := cor σ) K104_).symm)⟩, wEn_of hP (hK.sub [] rfl) hD ht hW⟩, hS.F ht⟩) hS.2.2 dX12_work_65
      · refine lv_tableIn (tgt := 66) (off := 52) hx hb dX12_work_14 (by rw [t_sw]; decide) (by rw [t_sw]; decide) (by rw [t_sw]; decide) (by decide) ?_
        refine lv_aload hx hb dX12_work_66 (lv_at hl 5 rfl) ?_
        refine lv_aload_n hx hb dX12_work_68 rfl (lv_at hl 1 rfl) ?_
        refine va_get (D := (dC, dI)) (ci := 12) (v := .ref (ad 18)) (C := RX12) (T := TX12) (N := 59) hx hb hts hin12 hown hK hP 0 rfl rfl 18 (Nat.le_of_ble_eq_true rfl) (ho (.fieldLink RX12 42 "NearEnoughModel" "sA" "[I") (List.mem_of_getElem? (i := 4) rfl)) (fun _ h9 => h9) rfl dX12_work_69 ?_
        refine lv_iload hx hb dX12_work_72 (lv_at hl 0 rfl) ?_
        refine va_iald hx hb hK hP 10 9 rfl rfl (ti_inx o4 o5) dX12_work_74 ?_
        refine lv_topi (fun z105_ ez105_ => ?_)
        have gz105_ : z105_.toInt = ((σ.2.1 18) (Int32.toNatClampNeg z2_)).toInt := congrArg Int32.toInt (ez105_.trans (congrFun rfl (Int32.toNatClampNeg z2_)))
        have bz105_ : (-1) ≤ z105_.toInt ∧ z105_.toInt ≤ 11 := by rw [ez105_]; exact (hI.2 18) _ (cl_lt (n := 24) o4 o5)
        have o88 : 0 ≤ z105_.toInt := by omega
        have o89 : z105_.toInt < ((12 : Nat) : Int) := by omega
        refine va_lald hx hb hK hP 30 29 rfl rfl (ti_inx o88 o89) dX12_work_75 ?_
        refine lv_topl (fun y106_ ey106_ => ?_)
        refine lv_aload hx hb dX12_work_76 (lv_at hl 5 rfl) ?_
        refine lv_aload_n hx hb dX12_work_78 rfl (lv_at hl 1 rfl) ?_
        refine va_get (D := (dC, dI)) (ci := 12) (v := .ref (ad 19)) (C := RX12) (T := TX12) (N := 59) hx hb hts hin12 hown hK hP 0 rfl rfl 19 (Nat.le_of_ble_eq_true rfl) (ho (.fieldLink RX12 45 "NearEnoughModel" "sB" "[I") (List.mem_of_getElem? (i := 3) rfl)) (fun _ h9 => h9) rfl dX12_work_79 ?_
        refine lv_iload hx hb dX12_work_82 (lv_at hl 0 rfl) ?_
        refine va_iald hx hb hK hP 11 10 rfl rfl (ti_inx o4 o5) dX12_work_84 ?_
        refine lv_topi (fun z107_ ez107_ => ?_)
        have gz107_ : z107_.toInt = ((σ.2.1 19) (Int32.toNatClampNeg z2_)).toInt := congrArg Int32.toInt (ez107_.trans (congrFun rfl (Int32.toNatClampNeg z2_)))
        have bz107_ : (-99) ≤ z107_.toInt ∧ z107_.toInt ≤ 99 := by rw [ez107_]; exact (hI.2 19) _ (cl_lt (n := 24) o4 o5)
        have o90 : 0 ≤ z107_.toInt := by omega
        have o91 : z107_.toInt < ((12 : Nat) : Int) := by omega
        refine va_lald hx hb hK hP 30 29 rfl rfl (ti_inx o90 o91) dX12_work_85 ?_
        refine lv_topl (fun y108_ ey108_ => ?_)
        refine lv_ladd hx hb dX12_work_86 ?_
        refine lv_topl (fun y109_ ey109_ => ?_)
        rw [hQ]
        have o92 : (σ.2.1 17 (Int32.toNatClampNeg z2_)).toInt = 2 := by omega
        have K110_ : (σ.2.1 17 (12 * (σ.1 29).toNatClampNeg + st9.toNatClampNeg)).toInt = 2 := by rw [← Xz2_]; exact o92
        have R111_ : y109_ = wkF (σ.1 29).toNatClampNeg (cor σ) true (σ.2.1 31) (σ.2.2.1 42) st9.toNatClampNeg base ch9 := by rw [wk_2 (T := cor σ) K110_]; simp only [ez4_, ez105_, ey106_, ez107_, ey108_, ey109_, Xz2_] <;> rfl
        exact W.lret (v := y109_) hx hb hr (fun t ht hW => ⟨⟨y109_, σ, rfl, ⟨rfl, R111_⟩, wEn_of hP (hK.sub [] rfl) hD ht hW⟩, hS.F ht⟩) hS.2.2 dX12_work_87
      · refine lv_tableIn (tgt := 88) (off := 74) hx hb dX12_work_14 (by rw [t_sw]; decide) (by rw [t_sw]; decide) (by rw [t_sw]; decide) (by decide) ?_
        refine lv_aload hx hb dX12_work_88 (lv_at hl 5 rfl) ?_
        refine lv_aload_n hx hb dX12_work_90 rfl (lv_at hl 1 rfl) ?_
        refine va_get (D := (dC, dI)) (ci := 12) (v := .ref (ad 18)) (C := RX12) (T := TX12) (N := 59) hx hb hts hin12 hown hK hP 0 rfl rfl 18 (Nat.le_of_ble_eq_true rfl) (ho (.fieldLink RX12 42 "NearEnoughModel" "sA" "[I") (List.mem_of_getElem? (i := 4) rfl)) (fun _ h9 => h9) rfl dX12_work_91 ?_
        refine lv_iload hx hb dX12_work_94 (lv_at hl 0 rfl) ?_
        refine va_iald hx hb hK hP 10 9 rfl rfl (ti_inx o4 o5) dX12_work_96 ?_
        refine lv_topi (fun z112_ ez112_ => ?_)
        have gz112_ : z112_.toInt = ((σ.2.1 18) (Int32.toNatClampNeg z2_)).toInt := congrArg Int32.toInt (ez112_.trans (congrFun rfl (Int32.toNatClampNeg z2_)))
        have bz112_ : (-1) ≤ z112_.toInt ∧ z112_.toInt ≤ 11 := by rw [ez112_]; exact (hI.2 18) _ (cl_lt (n := 24) o4 o5)
        have o93 : 0 ≤ z112_.toInt := by omega
        have o94 : z112_.toInt < ((12 : Nat) : Int) := by omega
        refine va_lald hx hb hK hP 30 29 rfl rfl (ti_inx o93 o94) dX12_work_97 ?_
        refine lv_topl (fun y113_ ey113_ => ?_)
        refine lv_aload hx hb dX12_work_98 (lv_at hl 5 rfl) ?_
        refine lv_aload_n hx hb dX12_work_100 rfl (lv_at hl 1 rfl) ?_
        refine va_get (D := (dC, dI)) (ci := 12) (v := .ref (ad 19)) (C := RX12) (T := TX12) (N := 59) hx hb hts hin12 hown hK hP 0 rfl rfl 19 (Nat.le_of_ble_eq_true rfl) (ho (.fieldLink RX12 45 "NearEnoughModel" "sB" "[I") (List.mem_of_getElem? (i := 3) rfl)) (fun _ h9 => h9) rfl dX12_work_101 ?_
        refine lv_iload hx hb dX12_work_104 (lv_at hl 0 rfl) ?_
        refine va_iald hx hb hK hP 11 10 rfl rfl (ti_inx o4 o5) dX12_work_106 ?_
        refine lv_topi (fun z114_ ez114_ => ?_)
        have gz114_ : z114_.toInt = ((σ.2.1 19) (Int32.toNatClampNeg z2_)).toInt := congrArg Int32.toInt (ez114_.trans (congrFun rfl (Int32.toNatClampNeg z2_)))
        have bz114_ : (-99) ≤ z114_.toInt ∧ z114_.toInt ≤ 99 := by rw [ez114_]; exact (hI.2 19) _ (cl_lt (n := 24) o4 o5)
        have o95 : 0 ≤ z114_.toInt := by omega
        have o96 : z114_.toInt < ((12 : Nat) : Int) := by omega
        refine va_lald hx hb hK hP 30 29 rfl rfl (ti_inx o95 o96) dX12_work_107 ?_
        refine lv_topl (fun y115_ ey115_ => ?_)
        refine lv_lsub hx hb dX12_work_108 ?_
        refine lv_topl (fun y116_ ey116_ => ?_)
        rw [hQ]
        have o97 : (σ.2.1 17 (Int32.toNatClampNeg z2_)).toInt = 3 := by omega
        have K117_ : (σ.2.1 17 (12 * (σ.1 29).toNatClampNeg + st9.toNatClampNeg)).toInt = 3 := by rw [← Xz2_]; exact o97
        have R118_ : y116_ = wkF (σ.1 29).toNatClampNeg (cor σ) true (σ.2.1 31) (σ.2.2.1 42) st9.toNatClampNeg base ch9 := by rw [wk_3 (T := cor σ) K117_]; simp only [ez4_, ez112_, ey113_, ez114_, ey115_, ey116_, Xz2_] <;> rfl
        exact W.lret (v := y116_) hx hb hr (fun t ht hW => ⟨⟨y116_, σ, rfl, ⟨rfl, R118_⟩, wEn_of hP (hK.sub [] rfl) hD ht hW⟩, hS.F ht⟩) hS.2.2 dX12_work_109
      · refine lv_tableIn (tgt := 110) (off := 96) hx hb dX12_work_14 (by rw [t_sw]; decide) (by rw [t_sw]; decide) (by rw [t_sw]; decide) (by decide) ?_
        refine lv_aload hx hb dX12_work_110 (lv_at hl 5 rfl) ?_
        refine lv_aload_n hx hb dX12_work_112 rfl (lv_at hl 1 rfl) ?_
        refine va_get (D := (dC, dI)) (ci := 12) (v := .ref (ad 18)) (C := RX12) (T := TX12) (N := 59) hx hb hts hin12 hown hK hP 0 rfl rfl 18 (Nat.le_of_ble_eq_true rfl) (ho (.fieldLink RX12 42 "NearEnoughModel" "sA" "[I") (List.mem_of_getElem? (i := 4) rfl)) (fun _ h9 => h9) rfl dX12_work_113 ?_
        refine lv_iload hx hb dX12_work_116 (lv_at hl 0 rfl) ?_
        refine va_iald hx hb hK hP 10 9 rfl rfl (ti_inx o4 o5) dX12_work_118 ?_
        refine lv_topi (fun z119_ ez119_ => ?_)
        have gz119_ : z119_.toInt = ((σ.2.1 18) (Int32.toNatClampNeg z2_)).toInt := congrArg Int32.toInt (ez119_.trans (congrFun rfl (Int32.toNatClampNeg z2_)))
        have bz119_ : (-1) ≤ z119_.toInt ∧ z119_.toInt ≤ 11 := by rw [ez119_]; exact (hI.2 18) _ (cl_lt (n := 24) o4 o5)
        have o98 : 0 ≤ z119_.toInt := by omega
        have o99 : z119_.toInt < ((12 : Nat) : Int) := by omega
        refine va_lald hx hb hK hP 30 29 rfl rfl (ti_inx o98 o99) dX12_work_119 ?_
        refine lv_topl (fun y120_ ey120_ => ?_)
        refine lv_aload hx hb dX12_work_120 (lv_at hl 5 rfl) ?_
        refine lv_aload_n hx hb dX12_work_122 rfl (lv_at hl 1 rfl) ?_
        refine va_get (D := (dC, dI)) (ci := 12) (v := .ref (ad 19)) (C := RX12) (T := TX12) (N := 59) hx hb hts hin12 hown hK hP 0 rfl rfl 19 (Nat.le_of_ble_eq_true rfl) (ho (.fieldLink RX12 45 "NearEnoughModel" "sB" "[I") (List.mem_of_getElem? (i := 3) rfl)) (fun _ h9 => h9) rfl dX12_work_123 ?_
        refine lv_iload hx hb dX12_work_126 (lv_at hl 0 rfl) ?_
        refine va_iald hx hb hK hP 11 10 rfl rfl (ti_inx o4 o5) dX12_work_128 ?_
        refine lv_topi (fun z121_ ez121_ => ?_)
        have gz121_ : z121_.toInt = ((σ.2.1 19) (Int32.toNatClampNeg z2_)).toInt := congrArg Int32.toInt (ez121_.trans (congrFun rfl (Int32.toNatClampNeg z2_)))
        have bz121_ : (-99) ≤ z121_.toInt ∧ z121_.toInt ≤ 99 := by rw [ez121_]; exact (hI.2 19) _ (cl_lt (n := 24) o4 o5)
        have o100 : 0 ≤ z121_.toInt := by omega
        have o101 : z121_.toInt < ((12 : Nat) : Int) := by omega
        refine va_lald hx hb hK hP 30 29 rfl rfl (ti_inx o100 o101) dX12_work_129 ?_
        refine lv_topl (fun y122_ ey122_ => ?_)
        refine lv_lmul hx hb dX12_work_130 ?_
        refine lv_topl (fun y123_ ey123_ => ?_)
        rw [hQ]
        have o102 : (σ.2.1 17 (Int32.toNatClampNeg z2_)).toInt = 4 := by omega
        have K124_ : (σ.2.1 17 (12 * (σ.1 29).toNatClampNeg + st9.toNatClampNeg)).toInt = 4 := by rw [← Xz2_]; exact o102
        have R125_ : y123_ = wkF (σ.1 29).toNatClampNeg (cor σ) true (σ.2.1 31) (σ.2.2.1 42) st9.toNatClampNeg base ch9 := by rw [wk_4 (T := cor σ) K124_]; simp only [ez4_, ez119_, ey120_, ez121_, ey122_, ey123_, Xz2_] <;> rfl
        exact W.lret (v := y123_) hx hb hr (fun t ht hW => ⟨⟨y123_, σ, rfl, ⟨rfl, R125_⟩, wEn_of hP (hK.sub [] rfl) hD ht hW⟩, hS.F ht⟩) hS.2.2 dX12_work_131
      · refine lv_tableIn (tgt := 132) (off := 118) hx hb dX12_work_14 (by rw [t_sw]; decide) (by rw [t_sw]; decide) (by rw [t_sw]; decide) (by decide) ?_
        refine lv_aload hx hb dX12_work_132 (lv_at hl 5 rfl) ?_
        refine lv_aload_n hx hb dX12_work_134 rfl (lv_at hl 1 rfl) ?_
        refine va_get (D := (dC, dI)) (ci := 12) (v := .ref (ad 18)) (C := RX12) (T := TX12) (N := 59) hx hb hts hin12 hown hK hP 0 rfl rfl 18 (Nat.le_of_ble_eq_true rfl) (ho (.fieldLink RX12 42 "NearEnoughModel" "sA" "[I") (List.mem_of_getElem? (i := 4) rfl)) (fun _ h9 => h9) rfl dX12_work_135 ?_
        refine lv_iload hx hb dX12_work_138 (lv_at hl 0 rfl) ?_
        refine va_iald hx hb hK hP 10 9 rfl rfl (ti_inx o4 o5) dX12_work_140 ?_
        refine lv_topi (fun z126_ ez126_ => ?_)
        have gz126_ : z126_.toInt = ((σ.2.1 18) (Int32.toNatClampNeg z2_)).toInt := congrArg Int32.toInt (ez126_.trans (congrFun rfl (Int32.toNatClampNeg z2_)))
        have bz126_ : (-1) ≤ z126_.toInt ∧ z126_.toInt ≤ 11 := by rw [ez126_]; exact (hI.2 18) _ (cl_lt (n := 24) o4 o5)
        have o103 : 0 ≤ z126_.toInt := by omega
        have o104 : z126_.toInt < ((12 : Nat) : Int) := by omega
        refine va_lald hx hb hK hP 30 29 rfl rfl (ti_inx o103 o104) dX12_work_141 ?_
        refine lv_topl (fun y127_ ey127_ => ?_)
        refine lv_aload_n hx hb dX12_work_142 rfl (lv_at hl 1 rfl) ?_
        refine va_get (D := (dC, dI)) (ci := 12) (v := .ref (ad 19)) (C := RX12) (T := TX12) (N := 59) hx hb hts hin12 hown hK hP 0 rfl rfl 19 (Nat.le_of_ble_eq_true rfl) (ho (.fieldLink RX12 45 "NearEnoughModel" "sB" "[I") (List.mem_of_getElem? (i := 3) rfl)) (fun _ h9 => h9) rfl dX12_work_143 ?_
        refine lv_iload hx hb dX12_work_146 (lv_at hl 0 rfl) ?_
        refine va_iald hx hb hK hP 11 10 rfl rfl (ti_inx o4 o5) dX12_work_148 ?_
        refine lv_topi (fun z128_ ez128_ => ?_)
        have gz128_ : z128_.toInt = ((σ.2.1 19) (Int32.toNatClampNeg z2_)).toInt := congrArg Int32.toInt (ez128_.trans (congrFun rfl (Int32.toNatClampNeg z2_)))
        have bz128_ : (-99) ≤ z128_.toInt ∧ z128_.toInt ≤ 99 := by rw [ez128_]; exact (hI.2 19) _ (cl_lt (n := 24) o4 o5)
        refine lv_i2l hx hb dX12_work_149 rfl ?_
        refine lv_topl (fun y129_ ey129_ => ?_)
        refine lv_lmul hx hb dX12_work_150 ?_
        refine lv_topl (fun y130_ ey130_ => ?_)
        refine lv_aload_n hx hb dX12_work_151 rfl (lv_at hl 1 rfl) ?_
        refine va_get (D := (dC, dI)) (ci := 12) (v := .ref (ad 20)) (C := RX12) (T := TX12) (N := 59) hx hb hts hin12 hown hK hP 0 rfl rfl 20 (Nat.le_of_ble_eq_true rfl) (ho (.fieldLink RX12 48 "NearEnoughModel" "sC" "[I") (List.mem_of_getElem? (i := 1) rfl)) (fun _ h9 => h9) rfl dX12_work_152 ?_
        refine lv_iload hx hb dX12_work_155 (lv_at hl 0 rfl) ?_
        refine va_iald hx hb hK hP 12 11 rfl rfl (ti_inx o4 o5) dX12_work_157 ?_
        refine lv_topi (fun z131_ ez131_ => ?_)
        have gz131_ : z131_.toInt = ((σ.2.1 20) (Int32.toNatClampNeg z2_)).toInt := congrArg Int32.toInt (ez131_.trans (congrFun rfl (Int32.toNatClampNeg z2_)))
        have bz131_ : (-1) ≤ z131_.toInt ∧ z131_.toInt ≤ 99 := by rw [ez131_]; exact (hI.2 20) _ (cl_lt (n := 24) o4 o5)
        refine lv_i2l hx hb dX12_work_158 rfl ?_
        refine lv_topl (fun y132_ ey132_ => ?_)
        have o105 : z131_.toInt ≠ 0 := by omega
        refine lv_ldiv hx hb dX12_work_159 (i2l_ne ey132_ o105) ?_
        refine lv_topl (fun y133_ ey133_ => ?_)
        rw [hQ]
        have o106 : (σ.2.1 17 (Int32.toNatClampNeg z2_)).toInt = 5 := by omega
        have K134_ : (σ.2.1 17 (12 * (σ.1 29).toNatClampNeg + st9.toNatClampNeg)).toInt = 5 := by rw [← Xz2_]; exact o106
        have R135_ : y133_ = wkF (σ.1 29).toNatClampNeg (cor σ) true (σ.2.1 31) (σ.2.2.1 42) st9.toNatClampNeg base ch9 := by rw [wk_5 (T := cor σ) K134_]; simp only [ez4_, ez126_, ey127_, ez128_, ey129_, ey130_, ez131_, ey132_, ey133_, Xz2_] <;> rfl
        exact W.lret (v := y133_) hx hb hr (fun t ht hW => ⟨⟨y133_, σ, rfl, ⟨rfl, R135_⟩, wEn_of hP (hK.sub [] rfl) hD ht hW⟩, hS.F ht⟩) hS.2.2 dX12_work_160
      · refine lv_tableIn (tgt := 161) (off := 147) hx hb dX12_work_14 (by rw [t_sw]; decide) (by rw [t_sw]; decide) (by rw [t_sw]; decide) (by decide) ?_
        refine lv_aload_n hx hb dX12_work_161 rfl (lv_at hl 1 rfl) ?_
        refine va_get (D := (dC, dI)) (ci := 12) (v := .ref (ad 14)) (C := RX12) (T := TX12) (N := 59) hx hb hts hin12 hown hK hP 0 rfl rfl 14 (Nat.le_of_ble_eq_true rfl) (ho (.fieldLink RX12 30 "NearEnoughModel" "rHas" "[I") (List.mem_of_getElem? (i := 7) rfl)) (fun _ h9 => h9) rfl dX12_work_162 ?_
        refine lv_iconst (v := 2) hx hb dX12_work_165 rg_19 ?_
        refine lv_aload_n hx hb dX12_work_166 rfl (lv_at hl 1 rfl) ?_
        refine va_get (D := (dC, dI)) (ci := 12) (v := .int (σ.1 29)) (C := RX12) (T := TX12) (N := 59) hx hb hts hin12 hown hK hP 0 rfl rfl 29 (Nat.le_of_ble_eq_true rfl) (ho (.fieldLink RX12 240 "NearEnoughModel" "bank" "I") (List.mem_of_getElem? (i := 8) rfl)) (fun _ h9 => h9) rfl dX12_work_167 ?_
        have bσ_29 : 0 ≤ (σ.1 29).toInt ∧ (σ.1 29).toInt ≤ 1 := hI.1 29
        refine lv_imul hx hb dX12_work_170 ?_
        refine lv_topi (fun z136_ ez136_ => ?_)
        have o107 : -2147483648 ≤ 2 * (σ.1 29).toInt := by omega
        have o108 : 2 * (σ.1 29).toInt ≤ 2147483647 := by omega
        have tz136_ : z136_.toInt = 2 * (σ.1 29).toInt := ti_mul ez136_ rg_20 rfl o107 o108
        refine lv_aload_n hx hb dX12_work_171 rfl (lv_at hl 1 rfl) ?_
        refine va_get (D := (dC, dI)) (ci := 12) (v := .ref (ad 18)) (C := RX12) (T := TX12) (N := 59) hx hb hts hin12 hown hK hP 0 rfl rfl 18 (Nat.le_of_ble_eq_true rfl) (ho (.fieldLink RX12 42 "NearEnoughModel" "sA" "[I") (List.mem_of_getElem? (i := 4) rfl)) (fun _ h9 => h9) rfl dX12_work_172 ?_
        refine lv_iload hx hb dX12_work_175 (lv_at hl 0 rfl) ?_
        refine va_iald hx hb hK hP 10 9 rfl rfl (ti_inx o4 o5) dX12_work_177 ?_
        refine lv_topi (fun z137_ ez137_ => ?_)
        have gz137_ : z137_.toInt = ((σ.2.1 18) (Int32.toNatClampNeg z2_)).toInt := congrArg Int32.toInt (ez137_.trans (congrFun rfl (Int32.toNatClampNeg z2_)))
        have bz137_ : (-1) ≤ z137_.toInt ∧ z137_.toInt ≤ 11 := by rw [ez137_]; exact (hI.2 18) _ (cl_lt (n := 24) o4 o5)
        refine lv_iadd hx hb dX12_work_178 ?_
        refine lv_topi (fun z138_ ez138_ => ?_)
        have o109 : -2147483648 ≤ z136_.toInt + z137_.toInt := by omega
        have o110 : z136_.toInt + z137_.toInt ≤ 2147483647 := by omega
        have tz138_ : z138_.toInt = z136_.toInt + z137_.toInt := ti_add ez138_ rfl rfl o109 o110
        have o111 : 0 ≤ z138_.toInt := by omega
        have o112 : z138_.toInt < ((4 : Nat) : Int) := by omega
        refine va_iald hx hb hK hP 6 5 rfl rfl (ti_inx o111 o112) dX12_work_179 ?_
        refine lv_topi (fun z139_ ez139_ => ?_)
        have gz139_ : z139_.toInt = ((σ.2.1 14) (Int32.toNatClampNeg z138_)).toInt := congrArg Int32.toInt (ez139_.trans (congrFun rfl (Int32.toNatClampNeg z138_)))
        have bz139_ : 0 ≤ z139_.toInt ∧ z139_.toInt ≤ 6 := by rw [ez139_]; exact (hI.2 14) _ (cl_lt (n := 4) o111 o112)
        refine lv_istore (lv' := [(7, .int z139_), (6, .int z2_), (0, .ref h), (1, .int st9), (2, .ref (ad 31)), (3, .int base), (4, .ref (ad 42)), (5, .int ch9)]) hx hb dX12_work_180 hl (Nat.le_of_ble_eq_true rfl) rfl (fun ls hl => ?_)
        refine lv_aload hx hb dX12_work_182 (lv_at hl 6 rfl) ?_
        refine lv_aload_n hx hb dX12_work_184 rfl (lv_at hl 2 rfl) ?_
        refine va_get (D := (dC, dI)) (ci := 12) (v := .ref (ad 19)) (C := RX12) (T := TX12) (N := 59) hx hb hts hin12 hown hK hP 0 rfl rfl 19 (Nat.le_of_ble_eq_true rfl) (ho (.fieldLink RX12 45 "NearEnoughModel" "sB" "[I") (List.mem_of_getElem? (i := 3) rfl)) (fun _ h9 => h9) rfl dX12_work_185 ?_
        refine lv_iload hx hb dX12_work_188 (lv_at hl 1 rfl) ?_
        refine va_iald hx hb hK hP 11 10 rfl rfl (ti_inx o4 o5) dX12_work_190 ?_
        refine lv_topi (fun z140_ ez140_ => ?_)
        have gz140_ : z140_.toInt = ((σ.2.1 19) (Int32.toNatClampNeg z2_)).toInt := congrArg Int32.toInt (ez140_.trans (congrFun rfl (Int32.toNatClampNeg z2_)))
        have bz140_ : (-99) ≤ z140_.toInt ∧ z140_.toInt ≤ 99 := by rw [ez140_]; exact (hI.2 19) _ (cl_lt (n := 24) o4 o5)
        have o113 : 0 ≤ z140_.toInt := by omega
        have o114 : z140_.toInt < ((12 : Nat) : Int) := by omega
        refine va_lald hx hb hK hP 30 29 rfl rfl (ti_inx o113 o114) dX12_work_191 ?_
        refine lv_topl (fun y141_ ey141_ => ?_)
        refine lv_aload hx hb dX12_work_192 (lv_at hl 6 rfl) ?_
        refine lv_aload_n hx hb dX12_work_194 rfl (lv_at hl 2 rfl) ?_
        refine va_get (D := (dC, dI)) (ci := 12) (v := .ref (ad 19)) (C := RX12) (T := TX12) (N := 59) hx hb hts hin12 hown hK hP 0 rfl rfl 19 (Nat.le_of_ble_eq_true rfl) (ho (.fieldLink RX12 45 "NearEnoughModel" "sB" "[I") (List.mem_of_getElem? (i := 3) rfl)) (fun _ h9 => h9) rfl dX12_work_195 ?_
        refine lv_iload hx hb dX12_work_198 (lv_at hl 1 rfl) ?_
        refine va_iald hx hb hK hP 11 10 rfl rfl (ti_inx o4 o5) dX12_work_200 ?_
        refine lv_topi (fun z142_ ez142_ => ?_)
        have qq143_ : z142_.toInt = z140_.toInt := congrArg Int32.toInt ((ez142_.trans (congrFun rfl (Int32.toNatClampNeg z2_))).trans ((ez140_.trans (congrFun rfl (Int32.toNatClampNeg z2_)))).symm)
        have gz142_ : z142_.toInt = ((σ.2.1 19) (Int32.toNatClampNeg z2_)).toInt := congrArg Int32.toInt (ez142_.trans (congrFun rfl (Int32.toNatClampNeg z2_)))
        have bz142_ : (-99) ≤ z142_.toInt ∧ z142_.toInt ≤ 99 := by rw [ez142_]; exact (hI.2 19) _ (cl_lt (n := 24) o4 o5)
        have o115 : 0 ≤ z142_.toInt := by omega
        have o116 : z142_.toInt < ((12 : Nat) : Int) := by omega
        refine va_lald hx hb hK hP 30 29 rfl rfl (ti_inx o115 o116) dX12_work_201 ?_
        refine lv_topl (fun y144_ ey144_ => ?_)
        refine lv_iload hx hb dX12_work_202 (lv_at hl 0 rfl) ?_
        refine lv_i2l hx hb dX12_work_204 rfl ?_
        refine lv_topl (fun y145_ ey145_ => ?_)
        have o117 : (σ.2.1 17 (Int32.toNatClampNeg z2_)).toInt = 0 ∨ (σ.2.1 17 (Int32.toNatClampNeg z2_)).toInt = 1 ∨ (σ.2.1 17 (Int32.toNatClampNeg z2_)).toInt = 6 := by omega
        have K147_ : (σ.2.1 17 (12 * (σ.1 29).toNatClampNeg + st9.toNatClampNeg)).toInt = 0 ∨ (σ.2.1 17 (12 * (σ.1 29).toNatClampNeg + st9.toNatClampNeg)).toInt = 1 ∨ (σ.2.1 17 (12 * (σ.1 29).toNatClampNeg + st9.toNatClampNeg)).toInt = 6 := by rw [← Xz2_]; exact o117
        have hrw : RwOk σ st9 := (WkOk.row hI hwk K147_)
        have o118 : 0 ≤ z137_.toInt := by omega
        have o119 : z138_.toInt = 2 * (σ.1 29).toInt + z137_.toInt := by omega
        have QN146_ : z138_.toNatClampNeg = 2 * (σ.1 29).toNatClampNeg + (σ.2.1 18 (12 * (σ.1 29).toNatClampNeg + st9.toNatClampNeg)).toNatClampNeg := by rw [← Xz2_, ← ez137_]; exact row_x (hI.1 29).1 o118 o119
        have N146_ : z139_ = ofA (σ.1 29).toNatClampNeg (cor σ) st9.toNatClampNeg := by rw [ez139_, QN146_]; rfl
        have BN146_ : 1 ≤ z139_.toInt := by rw [N146_]; exact hrw.2.2
        have o120 : z139_.toInt ≠ 0 := by omega
        refine zs_l (va_runS (As := [.long y144_, .long y145_]) (rest := [.long y141_]) ⟨hx, hb, hml, hown, hts⟩ (n_floorOver l dC dI y144_ y145_ (i2l_ne ey145_ o120) H.size) (va_cwS 2 hts gd_n_work_np_337_n_floorOver rfl rfl rfl dd_n_floorOver ⟨Nat.le_of_ble_eq_true rfl, Nat.le_of_ble_eq_true rfl⟩) (preS (A := A) empP (hK.sub (tys' := []) [] rfl) empD hE) rfl rfl hl.1 rfl (lv_room (Nat.le_of_ble_eq_true rfl)) dX12_work_205 ⟨Nat.le_of_ble_eq_true rfl, Nat.le_of_ble_eq_true rfl⟩) hP hD hS hA (fun y148_ H locs hq hP hD hS => ?_)
        have f149_ := hq
        refine W.widen (k := 0) (n := 0) (Nat.le_of_ble_eq_true rfl) (Nat.le_of_ble_eq_true rfl) ?_
        refine lv_iload hx hb dX12_work_208 (lv_at hl 0 rfl) ?_
        refine lv_i2l hx hb dX12_work_210 rfl ?_
        refine lv_topl (fun y150_ ey150_ => ?_)
        refine lv_lmul hx hb dX12_work_211 ?_
        refine lv_topl (fun y151_ ey151_ => ?_)
        refine lv_lsub hx hb dX12_work_212 ?_
        refine lv_topl (fun y152_ ey152_ => ?_)
        refine lv_lstore (lv' := [(8, .long y152_), (7, .int z139_), (6, .int z2_), (0, .ref h), (1, .int st9), (2, .ref (ad 31)), (3, .int base), (4, .ref (ad 42)), (5, .int ch9)]) hx hb dX12_work_213 hl (Nat.le_of_ble_eq_true rfl) rfl (fun ls hl => ?_)
        refine lv_aload_n hx hb dX12_work_215 rfl (lv_at hl 3 rfl) ?_
        refine lv_aload_n hx hb dX12_work_216 rfl (lv_at hl 5 rfl) ?_
        refine lv_aload_n hx hb dX12_work_217 rfl (lv_at hl 3 rfl) ?_
        refine lv_aload_n hx hb dX12_work_218 rfl (lv_at hl 5 rfl) ?_
        refine lv_iload_n hx hb dX12_work_219 rfl (lv_at hl 6 rfl) ?_
        refine lv_iload hx hb dX12_work_220 (lv_at hl 8 rfl) ?_
        have o121 : 0 ≤ base.toInt := by omega
        have o122 : base.toInt ≤ 468 := by omega
        have o123 : -1 ≤ ch9.toInt := by omega
        have o124 : ch9.toInt ≤ 11 := by omega
        have o125 : base.toInt = 0 ∨ 12 ≤ base.toInt := by omega
        refine zy_i (va_runV (As := [.ref (ad 31), .int base, .int ch9]) (rest := [.ref (ad 31), .ref h]) ⟨hx, hb, hml, hown, hts⟩ (n_baseOf_n l dC dI h ad cl H.size σ base ch9 hI ⟨o121, o122⟩ (show base.toInt = 0 ∨ 12 ≤ base.toInt from o125) ⟨o123, o124⟩) (cwV 3 hts gd_n_work_np_344_n_baseOf_n rfl rfl rfl dd_n_baseOf_n ⟨Nat.le_of_ble_eq_true rfl, Nat.le_of_ble_eq_true rfl⟩) (preV hP hK hD hE (ci := 12) (q0 := 0) rfl rfl) rfl rfl hl.1 rfl (lv_room (Nat.le_of_ble_eq_true rfl)) dX12_work_222 ⟨Nat.le_of_ble_eq_true rfl, Nat.le_of_ble_eq_true rfl⟩) hD hS hA (fun z154_ τ153_ H locs hq hP hD hS => ?_)
        obtain ⟨rfl, f155_, f156_, f157_⟩ := hq
        refine W.widen (k := 0) (n := 0) (Nat.le_of_ble_eq_true rfl) (Nat.le_of_ble_eq_true rfl) ?_
        refine lv_aload_n hx hb dX12_work_225 rfl (lv_at hl 3 rfl) ?_
        refine va_get (D := (dC, dI)) (ci := 12) (v := .ref (ad 18)) (C := RX12) (T := TX12) (N := 59) hx hb hts hin12 hown hK hP 0 rfl rfl 18 (Nat.le_of_ble_eq_true rfl) (ho (.fieldLink RX12 42 "NearEnoughModel" "sA" "[I") (List.mem_of_getElem? (i := 4) rfl)) (fun _ h9 => h9) rfl dX12_work_226 ?_
        refine lv_iload hx hb dX12_work_229 (lv_at hl 2 rfl) ?_
        refine va_iald hx hb hK hP 10 9 rfl rfl (ti_inx o4 o5) dX12_work_231 ?_
        refine lv_topi (fun z158_ ez158_ => ?_)
        have qq159_ : z158_.toInt = z137_.toInt := congrArg Int32.toInt ((ez158_.trans (congrFun rfl (Int32.toNatClampNeg z2_))).trans ((ez137_.trans (congrFun rfl (Int32.toNatClampNeg z2_)))).symm)
        have gz158_ : z158_.toInt = ((σ.2.1 18) (Int32.toNatClampNeg z2_)).toInt := congrArg Int32.toInt (ez158_.trans (congrFun rfl (Int32.toNatClampNeg z2_)))
        have bz158_ : (-1) ≤ z158_.toInt ∧ z158_.toInt ≤ 11 := by rw [ez158_]; exact (hI.2 18) _ (cl_lt (n := 24) o4 o5)
        refine lv_lload hx hb dX12_work_232 (lv_at hl 0 rfl) ?_
        refine lv_l2i hx hb dX12_work_234 rfl ?_
        refine lv_topi (fun z160_ ez160_ => ?_)
        have o126 : 1 ≤ z139_.toInt := by omega
        have o127 : z139_.toInt ≤ 6 := by omega
        have tz160_ := mod_rng (h := z139_) (v := (σ.2.2.1 42) (Int32.toNatClampNeg (σ.2.1 19 (Int32.toNatClampNeg z2_)))) (y := y152_) (z := z160_) o126 o127 (by simp only [ez4_, ez136_, ez137_, ez138_, ez139_, ez140_, ey141_, ez142_, ey144_, ey145_, f149_, ey150_, ey151_, ey152_, ez158_]) ez160_
        have o128 : 0 ≤ z154_.toInt := by omega
        have o129 : z154_.toInt ≤ 468 := by omega
        have o130 : 0 ≤ z158_.toInt := by omega
        have o131 : z158_.toInt ≤ 1 := by omega
        have o132 : 0 ≤ z160_.toInt := by omega
        have o133 : z160_.toInt ≤ 5 := by omega
        refine zy_i (va_runV (As := [.ref (ad 31), .int z154_, .int z158_, .int z160_]) (rest := []) ⟨hx, hb, hml, hown, hts⟩ (n_numberAt_n l dC dI h ad cl H.size σ z154_ z158_ z160_ hI ⟨o128, o129⟩ ⟨o130, o131⟩ ⟨o132, o133⟩) (cwV 4 hts gd_n_work_np_353_n_numberAt_n rfl rfl rfl dd_n_numberAt_n ⟨Nat.le_of_ble_eq_true rfl, Nat.le_of_ble_eq_true rfl⟩) (preV hP hK hD hE (ci := 12) (q0 := 0) rfl rfl) rfl rfl hl.1 rfl (lv_room (Nat.le_of_ble_eq_true rfl)) dX12_work_235 ⟨Nat.le_of_ble_eq_true rfl, Nat.le_of_ble_eq_true rfl⟩) hD hS hA (fun z162_ τ161_ H locs hq hP hD hS => ?_)
        obtain ⟨rfl, f163_⟩ := hq
        refine W.widen (k := 0) (n := 0) (Nat.le_of_ble_eq_true rfl) (Nat.le_of_ble_eq_true rfl) ?_
        refine lv_iload hx hb dX12_work_238 (lv_at hl 8 rfl) ?_
        refine lv_if_lt (tgt := 264) hx hb dX12_work_240 rfl (fun c164_ => ?_) (fun c164_ => ?_)
        · have tc164_ := (show ch9.toInt < 0 from ti_lt rfl rg_11 c164_)
          refine lv_iconst (v := 1) hx hb dX12_work_264 rg_6 ?_
          have kk165_ : (1 : Int32).toInt = 1 := rg_18
          have o134 : (1 : Int32).toInt ≠ 0 := by omega
          refine zs_i (va_runS (As := [.int z162_, .int 1]) (rest := []) ⟨hx, hb, hml, hown, hts⟩ (n_coarse l dC dI z162_ 1 o134 H.size) (va_cwS 2 hts gd_n_work_np_357_n_coarse rfl rfl rfl dd_n_coarse ⟨Nat.le_of_ble_eq_true rfl, Nat.le_of_ble_eq_true rfl⟩) (preS (A := A) empP (hK.sub (tys' := []) [] rfl) empD hE) rfl rfl hl.1 rfl (lv_room (Nat.le_of_ble_eq_true rfl)) dX12_work_265 ⟨Nat.le_of_ble_eq_true rfl, Nat.le_of_ble_eq_true rfl⟩) hP hD hS hA (fun z166_ H locs hq hP hD hS => ?_)
          have f167_ := hq
          refine W.widen (k := 0) (n := 0) (Nat.le_of_ble_eq_true rfl) (Nat.le_of_ble_eq_true rfl) ?_
          refine lv_i2l hx hb dX12_work_268 rfl ?_
          refine lv_topl (fun y168_ ey168_ => ?_)
          rw [hQ]
          have o135 : (σ.2.1 17 (Int32.toNatClampNeg z2_)).toInt = 6 := by omega
          have K169_ : (σ.2.1 17 (12 * (σ.1 29).toNatClampNeg + st9.toNatClampNeg)).toInt = 6 := by rw [← Xz2_]; exact o135
          have o136 : ¬ (0 ≤ ch9.toInt ∧ (σ.2.1 34 (Int32.toNatClampNeg ch9)).toInt = 3) := by omega
          have HR170_ := (by_n (T := cor σ) (show ¬ (0 ≤ ch9.toInt ∧ (σ.2.1 34 (Int32.toNatClampNeg ch9)).toInt = 3) from o136))
          have R170_ : y168_ = wkF (σ.1 29).toNatClampNeg (cor σ) true (σ.2.1 31) (σ.2.2.1 42) st9.toNatClampNeg base ch9 := by rw [wk_6 (T := cor σ) K169_]; rw [← f155_, ← N146_, ← HR170_]; simp only [ez4_, ez136_, ez137_, ez138_, ez139_, ez140_, ey141_, ez142_, ey144_, ey145_, f149_, ey150_, ey151_, ey152_, ez158_, ez160_, f163_, f167_, ey168_, Xz2_] <;> rfl
          exact W.lret (v := y168_) hx hb hr (fun t ht hW => ⟨⟨y168_, σ, rfl, ⟨rfl, R170_⟩, wEn_of hP (hK.sub [] rfl) hD ht hW⟩, hS.F ht⟩) hS.2.2 dX12_work_269
        · have tc164_ := (show 0 ≤ ch9.toInt from ti_nlt rfl rg_11 c164_)
          refine lv_aload_n hx hb dX12_work_243 rfl (lv_at hl 3 rfl) ?_
          refine va_get (D := (dC, dI)) (ci := 12) (v := .ref (ad 34)) (C := RX12) (T := TX12) (N := 59) hx hb hts hin12 hown hK hP 0 rfl rfl 34 (Nat.le_of_ble_eq_true rfl) (ho (.fieldLink RX12 85 "NearEnoughModel" "cKind" "[I") (List.mem_of_getElem? (i := 5) rfl)) (fun _ h9 => h9) rfl dX12_work_244 ?_
          refine lv_iload hx hb dX12_work_247 (lv_at hl 8 rfl) ?_
          have o137 : 0 ≤ ch9.toInt := by omega
          have o138 : ch9.toInt < ((12 : Nat) : Int) := by omega
          refine va_iald hx hb hK hP 24 23 rfl rfl (ti_inx o137 o138) dX12_work_249 ?_
          refine lv_topi (fun z171_ ez171_ => ?_)
          have gz171_ : z171_.toInt = ((σ.2.1 34) (Int32.toNatClampNeg ch9)).toInt := congrArg Int32.toInt (ez171_.trans (congrFun rfl (Int32.toNatClampNeg ch9)))
          have bz171_ : 0 ≤ z171_.toInt ∧ z171_.toInt ≤ 6 := by rw [ez171_]; exact (hI.2 34) _ (cl_lt (n := 12) o137 o138)
          refine lv_iconst (v := 3) hx hb dX12_work_250 rg_16 ?_
          refine lv_icmp_ne (tgt := 264) hx hb dX12_work_251 rfl (fun c172_ => ?_) (fun c172_ => ?_)
          · have tc172_ := (show z171_.toInt ≠ 3 from ti_ne rfl rg_17 c172_)
            refine lv_iconst (v := 1) hx hb dX12_work_264 rg_6 ?_
            have kk173_ : (1 : Int32).toInt = 1 := rg_18
            have o139 : (1 : Int32).toInt ≠ 0 := by omega
            refine zs_i (va_runS (As := [.int z162_, .int 1]) (rest := []) ⟨hx, hb, hml, hown, hts⟩ (n_coarse l dC dI z162_ 1 o139 H.size) (va_cwS 2 hts gd_n_work_np_357_n_coarse rfl rfl rfl dd_n_coarse ⟨Nat.le_of_ble_eq_true rfl, Nat.le_of_ble_eq_true rfl⟩) (preS (A := A) empP (hK.sub (tys' := []) [] rfl) empD hE) rfl rfl hl.1 rfl (lv_room (Nat.le_of_ble_eq_true rfl)) dX12_work_265 ⟨Nat.le_of_ble_eq_true rfl, Nat.le_of_ble_eq_true rfl⟩) hP hD hS hA (fun z174_ H locs hq hP hD hS => ?_)
            have f175_ := hq
            refine W.widen (k := 0) (n := 0) (Nat.le_of_ble_eq_true rfl) (Nat.le_of_ble_eq_true rfl) ?_
            refine lv_i2l hx hb dX12_work_268 rfl ?_
            refine lv_topl (fun y176_ ey176_ => ?_)
            rw [hQ]
            have o140 : (σ.2.1 17 (Int32.toNatClampNeg z2_)).toInt = 6 := by omega
            have K177_ : (σ.2.1 17 (12 * (σ.1 29).toNatClampNeg + st9.toNatClampNeg)).toInt = 6 := by rw [← Xz2_]; exact o140
            have o141 : ¬ (0 ≤ ch9.toInt ∧ (σ.2.1 34 (Int32.toNatClampNeg ch9)).toInt = 3) := by omega
            have HR178_ := (by_n (T := cor σ) (show ¬ (0 ≤ ch9.toInt ∧ (σ.2.1 34 (Int32.toNatClampNeg ch9)).toInt = 3) from o141))
            have R178_ : y176_ = wkF (σ.1 29).toNatClampNeg (cor σ) true (σ.2.1 31) (σ.2.2.1 42) st9.toNatClampNeg base ch9 := by rw [wk_6 (T := cor σ) K177_]; rw [← f155_, ← N146_, ← HR178_]; simp only [ez4_, ez136_, ez137_, ez138_, ez139_, ez140_, ey141_, ez142_, ey144_, ey145_, f149_, ey150_, ey151_, ey152_, ez158_, ez160_, f163_, ez171_, f175_, ey176_, Xz2_] <;> rfl
            exact W.lret (v := y176_) hx hb hr (fun t ht hW => ⟨⟨y176_, σ, rfl, ⟨rfl, R178_⟩, wEn_of hP (hK.sub [] rfl) hD ht hW⟩, hS.F ht⟩) hS.2.2 dX12_work_269
          · have tc172_ := (show z171_.toInt = 3 from ti_eq rfl rg_17 c172_)
            refine lv_aload_n hx hb dX12_work_254 rfl (lv_at hl 3 rfl) ?_
            refine va_get (D := (dC, dI)) (ci := 12) (v := .ref (ad 35)) (C := RX12) (T := TX12) (N := 59) hx hb hts hin12 hown hK hP 0 rfl rfl 35 (Nat.le_of_ble_eq_true rfl) (ho (.fieldLink RX12 88 "NearEnoughModel" "cN" "[I") (List.mem_of_getElem? (i := 6) rfl)) (fun _ h9 => h9) rfl dX12_work_255 ?_
            refine lv_iload hx hb dX12_work_258 (lv_at hl 8 rfl) ?_
            refine va_iald hx hb hK hP 25 24 rfl rfl (ti_inx o137 o138) dX12_work_260 ?_
            refine lv_topi (fun z179_ ez179_ => ?_)
            have gz179_ : z179_.toInt = ((σ.2.1 35) (Int32.toNatClampNeg ch9)).toInt := congrArg Int32.toInt (ez179_.trans (congrFun rfl (Int32.toNatClampNeg ch9)))
            have bz179_ : 0 ≤ z179_.toInt ∧ z179_.toInt ≤ 99 := by rw [ez179_]; exact (hI.2 35) _ (cl_lt (n := 12) o137 o138)
            refine lv_goto (tgt := 265) hx hb dX12_work_261 rfl ?_
            have o142 : z179_.toInt ≠ 0 := by omega
            refine zs_i (va_runS (As := [.int z162_, .int z179_]) (rest := []) ⟨hx, hb, hml, hown, hts⟩ (n_coarse l dC dI z162_ z179_ o142 H.size) (va_cwS 2 hts gd_n_work_np_357_n_coarse rfl rfl rfl dd_n_coarse ⟨Nat.le_of_ble_eq_true rfl, Nat.le_of_ble_eq_true rfl⟩) (preS (A := A) empP (hK.sub (tys' := []) [] rfl) empD hE) rfl rfl hl.1 rfl (lv_room (Nat.le_of_ble_eq_true rfl)) dX12_work_265 ⟨Nat.le_of_ble_eq_true rfl, Nat.le_of_ble_eq_true rfl⟩) hP hD hS hA (fun z180_ H locs hq hP hD hS => ?_)
            have f181_ := hq
            refine W.widen (k := 0) (n := 0) (Nat.le_of_ble_eq_true rfl) (Nat.le_of_ble_eq_true rfl) ?_
            refine lv_i2l hx hb dX12_work_268 rfl ?_
            refine lv_topl (fun y182_ ey182_ => ?_)
            rw [hQ]
            have o143 : (σ.2.1 17 (Int32.toNatClampNeg z2_)).toInt = 6 := by omega
            have K183_ : (σ.2.1 17 (12 * (σ.1 29).toNatClampNeg + st9.toNatClampNeg)).toInt = 6 := by rw [← Xz2_]; exact o143
            have o144 : 0 ≤ ch9.toInt ∧ (σ.2.1 34 (Int32.toNatClampNeg ch9)).toInt = 3 := by omega
            have HR184_ := (by_y (T := cor σ) (show 0 ≤ ch9.toInt ∧ (σ.2.1 34 (Int32.toNatClampNeg ch9)).toInt = 3 from o144) ez179_)
            have R184_ : y182_ = wkF (σ.1 29).toNatClampNeg (cor σ) true (σ.2.1 31) (σ.2.2.1 42) st9.toNatClampNeg base ch9 := by rw [wk_6 (T := cor σ) K183_]; rw [← f155_, ← N146_, ← HR184_]; simp only [ez4_, ez136_, ez137_, ez138_, ez139_, ez140_, ey141_, ez142_, ey144_, ey145_, f149_, ey150_, ey151_, ey152_, ez158_, ez160_, f163_, ez171_, ez179_, f181_, ey182_, Xz2_] <;> rfl
            exact W.lret (v := y182_) hx hb hr (fun t ht hW => ⟨⟨y182_, σ, rfl, ⟨rfl, R184_⟩, wEn_of hP (hK.sub [] rfl) hD ht hW⟩, hS.F ht⟩) hS.2.2 dX12_work_269
def ow_n_work_nc : List Cond := [.fieldLink RX12 39 "NearEnoughModel" "sKind" "[I", .fieldLink RX12 48 "NearEnoughModel" "sC" "[I", .fieldLink RX12 51 "NearEnoughModel" "sD" "[I", .fieldLink RX12 45 "NearEnoughModel" "sB" "[I", .fieldLink RX12 42 "NearEnoughModel" "sA" "[I", .fieldLink RX12 85 "NearEnoughModel" "cKind" "[I", .fieldLink RX12 88 "NearEnoughModel" "cN" "[I", .fieldLink RX12 30 "NearEnoughModel" "rHas" "[I", .fieldLink RX12 240 "NearEnoughModel" "bank" "I"]
def vs_n_work_nc : List Cond := .code yX12_work cX12_work 10 (some .long) :: (ow_n_work_nc ++ (([.methodLink RX12 331 yX12_at0, .instanceMethod yX12_at0, .selects RX12 yX12_at0 yX12_at0, .initialized RX12] : List Cond) ++ (vs_n_at0 ++ (([.methodLink RX12 360 yX12_ofRow, .instanceMethod yX12_ofRow, .selects RX12 yX12_ofRow yX12_ofRow, .initialized RX12] : List Cond) ++ (vs_n_ofRow_n ++ (([.methodLink RX12 337 yX12_floorOver, .static yX12_floorOver, .initialized yX12_floorOver.cls] : List Cond) ++ (vs_n_floorOver ++ (([.methodLink RX12 344 yX12_baseOf, .instanceMethod yX12_baseOf, .selects RX12 yX12_baseOf yX12_baseOf, .initialized RX12] : List Cond) ++ (vs_n_baseOf_n ++ (([.methodLink RX12 353 yX12_numberAt, .instanceMethod yX12_numberAt, .selects RX12 yX12_numberAt yX12_numberAt, .initialized RX12] : List Cond) ++ (vs_n_numberAt_n ++ (([.methodLink RX12 357 yX12_coarse, .static yX12_coarse, .initialized yX12_coarse.cls] : List Cond) ++ (vs_n_coarse ++ (wsX120))))))))))))))
theorem vg_n_work_nc : vs_n_work_nc.all goodWord = true := by decide +kernel
theorem dd_n_work_nc : yX12_work.cls = RX12 ∧ yX12_work.cls ≠ "java/lang/invoke/MethodHandle" ∧ yX12_work.cls ≠ "java/lang/invoke/VarHandle" ∧ (parseMethodDescriptor yX12_work.desc).map (fun d => d.parameters.length) = some 5 := by decide +kernel
def rm_n_work_nc : Room := { frames := 3, cells := 0, slots := 0, locals := 83 }
theorem gd_n_work_nc_331_n_at0 : GoodIn vs_n_work_nc (wsV RX12 331 RX12 yX12_at0 vs_n_at0) := goodIn_app (goodIn_sub (fun w h => (List.mem_cons_of_mem _ (List.mem_append_right _ (List.mem_append_left _ h)))) (by decide +kernel)) (goodIn_sub (fun w h => (List.mem_cons_of_mem _ (List.mem_append_right _ (List.mem_append_right _ (List.mem_append_left _ h))))) vg_n_at0)
theorem gd_n_work_nc_360_n_ofRow_n : GoodIn vs_n_work_nc (wsV RX12 360 RX12 yX12_ofRow vs_n_ofRow_n) := goodIn_app (goodIn_sub (fun w h => (List.mem_cons_of_mem _ (List.mem_append_right _ (List.mem_append_right _ (List.mem_append_right _ (List.mem_append_left _ h)))))) (by decide +kernel)) (goodIn_sub (fun w h => (List.mem_cons_of_mem _ (List.mem_append_right _ (List.mem_append_right _ (List.mem_append_right _ (List.mem_append_right _ (List.mem_append_left _ h))))))) vg_n_ofRow_n)
theorem gd_n_work_nc_337_n_floorOver : GoodIn vs_n_work_nc (va_wsS RX12 337 yX12_floorOver vs_n_floorOver) := goodIn_app (goodIn_sub (fun w h => (List.mem_cons_of_mem _ (List.mem_append_right _ (List.mem_append_right _ (List.mem_append_right _ (List.mem_append_right _ (List.mem_append_right _ (List.mem_append_left _ h)))))))) (by decide +kernel)) (goodIn_sub (fun w h => (List.mem_cons_of_mem _ (List.mem_append_right _ (List.mem_append_right _ (List.mem_append_right _ (List.mem_append_right _ (List.mem_append_right _ (List.mem_append_right _ (List.mem_append_left _ h))))))))) vg_n_floorOver)
theorem gd_n_work_nc_344_n_baseOf_n : GoodIn vs_n_work_nc (wsV RX12 344 RX12 yX12_baseOf vs_n_baseOf_n) := goodIn_app (goodIn_sub (fun w h => (List.mem_cons_of_mem _ (List.mem_append_right _ (List.mem_append_right _ (List.mem_append_right _ (List.mem_append_right _ (List.mem_append_right _ (List.mem_append_right _ (List.mem_append_right _ (List.mem_append_left _ h)))))))))) (by decide +kernel)) (goodIn_sub (fun w h => (List.mem_cons_of_mem _ (List.mem_append_right _ (List.mem_append_right _ (List.mem_append_right _ (List.mem_append_right _ (List.mem_append_right _ (List.mem_append_right _ (List.mem_append_right _ (List.mem_append_right _ (List.mem_append_left _ h))))))))))) vg_n_baseOf_n)
theorem gd_n_work_nc_353_n_numberAt_n : GoodIn vs_n_work_nc (wsV RX12 353 RX12 yX12_numberAt vs_n_numberAt_n) := goodIn_app (goodIn_sub (fun w h => (List.mem_cons_of_mem _ (List.mem_append_right _ (List.mem_append_right _ (List.mem_append_right _ (List.mem_append_right _ (List.mem_append_right _ (List.mem_append_right _ (List.mem_append_right _ (List.mem_append_right _ (List.mem_append_right _ (List.mem_append_left _ h)))))))))))) (by decide +kernel)) (goodIn_sub (fun w h => (List.mem_cons_of_mem _ (List.mem_append_right _ (List.mem_append_right _ (List.mem_append_right _ (List.mem_append_right _ (List.mem_append_right _ (List.mem_append_right _ (List.mem_append_right _ (List.mem_append_right _ (List.mem_append_right _ (List.mem_append_right _ (List.mem_append_left _ h))))))))))))) vg_n_numberAt_n)
theorem gd_n_work_nc_357_n_coarse : GoodIn vs_n_work_nc (va_wsS RX12 357 yX12_coarse vs_n_coarse) := goodIn_app (goodIn_sub (fun w h => (List.mem_cons_of_mem _ (List.mem_append_right _ (List.mem_append_right _ (List.mem_append_right _ (List.mem_append_right _ (List.mem_append_right _ (List.mem_append_right _ (List.mem_append_right _ (List.mem_append_right _ (List.mem_append_right _ (List.mem_append_right _ (List.mem_append_right _ (List.mem_append_left _ h)))))))))))))) (by decide +kernel)) (goodIn_sub (fun w h => (List.mem_cons_of_mem _ (List.mem_append_right _ (List.mem_append_right _ (List.mem_append_right _ (List.mem_append_right _ (List.mem_append_right _ (List.mem_append_right _ (List.mem_append_right _ (List.mem_append_right _ (List.mem_append_right _ (List.mem_append_right _ (List.mem_append_right _ (List.mem_append_right _ (List.mem_append_left _ h))))))))))))))) vg_n_coarse)
set_option maxHeartbeats 4000000 in
set_option maxRecDepth 100000 in
theorem n_work_nc (l : Launch) (dC : Nat → ClassId) (dI : Nat → Nat → Nat) (h : Nat) (ad : Nat → Nat) (cl : Nat → ClassId) (sz : Nat) (σ : MS) (st9 : Int32) (base : Int32) (ch9 : Int32) (hI : Inv σ) (hs : 0 ≤ st9.toInt ∧ st9.toInt ≤ 11) (hba : 0 ≤ base.toInt ∧ base.toInt ≤ 468) (hbm : base.toInt = 0 ∨ 12 ≤ base.toInt) (hch : ChOk σ ch9) (hwk : WkOk σ st9) : Met l yX12_work vs_n_work_nc rm_n_work_nc (va_Pc [.ref h, .int st9, .ref (ad 31), .int base, .ref (ad 41), .int ch9] (wSt dC dI (mW h ad cl σ) (mT cl) sz)) (va_Ql (fun (r : Int64) (τ : MS) => σ = τ ∧ r = wkF (σ.1 29).toNatClampNeg (cor σ) true (σ.2.1 31) (σ.2.2.1 41) st9.toNatClampNeg base ch9) (fun (τ : MS) => wEn dC dI (va_A (mW h ad cl σ) sz) (mW h ad cl τ) []) (va_A (mW h ad cl σ) sz)) 0 0 (va_A (mW h ad cl σ) sz) := by
  refine Met.ofW (cc := cX12_work) (maxL := 10) (ret := (some .long)) (by decide) rfl ?_
  intro p e s m args below meth c s₁ B hml hv
  obtain ⟨rfl, hsz, hP, hK, hD0, hE⟩ := hv
  have hx := B.exec
  have hb := B.bytes
  have hr := B.returns
  have hts := atoms_spec (ws := vs_n_work_nc) B.pre
  have hown : s.vm.findClass RX12 = some m.cls := findClass_of_methodNamed B.named
  have hlocks := B.notSynchronized
  subst hsz
  have hD := hD0.self (sz := s.heap.size)
  generalize hAe : va_A (mW h ad cl σ) s.heap.size = A at hD ⊢
  have hA : ∀ q : Nat, s.heap.size ≤ q → A q := fun q h => by rw [← hAe]; exact Or.inr h
  have hl := lv_entry ([.ref h, .int st9, .ref (ad 31), .int base, .ref (ad 41), .int ch9]) (n := 10) (Nat.le_of_ble_eq_true rfl)
  rw [lg_entry_eq]
  generalize (lg_sl ([.ref h, .int st9, .ref (ad 31), .int base, .ref (ad 41), .int ch9]) ++ List.replicate (10 - (lg_sl ([.ref h, .int st9, .ref (ad 31), .int base, .ref (ad 41), .int ch9])).length) Slot.unset).toArray = ls at hl ⊢
  have hl : lv_has ls 10 [(0, .ref h), (1, .int st9), (2, .ref (ad 31)), (3, .int base), (4, .ref (ad 41)), (5, .int ch9)] := hl
  have ho := fun w (h : w ∈ ow_n_work_nc) => hts w (List.mem_cons_of_mem _ (List.mem_append_left _ h))
  have hin12 : ∀ w ∈ u_ws RX12 TX12 59, w ∈ vs_n_work_nc := fun w h => (List.mem_cons_of_mem _ (List.mem_append_right _ (List.mem_append_right _ (List.mem_append_right _ (List.mem_append_right _ (List.mem_append_right _ (List.mem_append_right _ (List.mem_append_right _ (List.mem_append_right _ (List.mem_append_right _ (List.mem_append_right _ (List.mem_append_right _ (List.mem_append_right _ (List.mem_append_right _ h))))))))))))))
  refine zQ (fun Q hQ => ?_)
  have hch0 : ChOk σ ch9 := hch
  unfold ChOk at hch
  have hrows : (σ.2.1 11 (σ.1 29).toNatClampNeg).toInt ≤ 2 := (hI.2 11 _ (cl_lt (n := 2) (hI.1 29).1 (Int.lt_of_le_of_lt (hI.1 29).2 (by decide)))).2
  refine zH (A := A) (ws := mW h ad cl σ) (fun H hP hS => ?_) hP
  have bσ_29 : 0 ≤ (σ.1 29).toInt ∧ (σ.1 29).toInt ≤ 1 := hI.1 29
  refine lv_aload_n hx hb dX12_work_0 rfl (lv_at hl 0 rfl) ?_
  refine lv_iload_n hx hb dX12_work_1 rfl (lv_at hl 1 rfl) ?_
  have o1 : 0 ≤ st9.toInt := by omega
  have o2 : st9.toInt ≤ 11 := by omega
  refine zy_i (va_runV (As := [.int st9]) (rest := []) ⟨hx, hb, hml, hown, hts⟩ (n_at0 l dC dI h ad cl H.size σ st9 hI ⟨o1, o2⟩) (cwV 1 hts gd_n_work_nc_331_n_at0 rfl rfl rfl dd_n_at0 ⟨Nat.le_of_ble_eq_true rfl, Nat.le_of_ble_eq_true rfl⟩) (preV hP hK hD hE (ci := 12) (q0 := 0) rfl rfl) rfl rfl hl.1 rfl (lv_room (Nat.le_of_ble_eq_true rfl)) dX12_work_2 ⟨Nat.le_of_ble_eq_true rfl, Nat.le_of_ble_eq_true rfl⟩) hD hS hA (fun z2_ τ1_ H locs hq hP hD hS => ?_)
  obtain ⟨rfl, f3_⟩ := hq
  refine W.widen (k := 0) (n := 0) (Nat.le_of_ble_eq_true rfl) (Nat.le_of_ble_eq_true rfl) ?_
  have o3 : z2_.toInt = 12 * (σ.1 29).toInt + st9.toInt := by omega
  have Xz2_ : z2_.toNatClampNeg = 12 * (σ.1 29).toNatClampNeg + st9.toNatClampNeg := at0x (hI.1 29).1 o1 o3
  have hst := hwk.st2 Xz2_
  unfold StOk at hst
  refine lv_istore (lv' := [(6, .int z2_), (0, .ref h), (1, .int st9), (2, .ref (ad 31)), (3, .int base), (4, .ref (ad 41)), (5, .int ch9)]) hx hb dX12_work_5 hl (Nat.le_of_ble_eq_true rfl) rfl (fun ls hl => ?_)
  refine lv_aload_n hx hb dX12_work_7 rfl (lv_at hl 1 rfl) ?_
  refine va_get (D := (dC, dI)) (ci := 12) (v := .ref (ad 17)) (C := RX12) (T := TX12) (N := 59) hx hb hts hin12 hown hK hP 0 rfl rfl 17 (Nat.le_of_ble_eq_true rfl) (ho (.fieldLink RX12 39 "NearEnoughModel" "sKind" "[I") (List.mem_of_getElem? (i := 0) rfl)) (fun _ h9 => h9) rfl dX12_work_8 ?_
  refine lv_iload hx hb dX12_work_11 (lv_at hl 0 rfl) ?_
  have o4 : 0 ≤ z2_.toInt := by omega
  have o5 : z2_.toInt < ((24 : Nat) : Int) := by omega
  refine va_iald hx hb hK hP 9 8 rfl rfl (ti_inx o4 o5) dX12_work_13 ?_
  refine lv_topi (fun z4_ ez4_ => ?_)
  have gz4_ : z4_.toInt = ((σ.2.1 17) (Int32.toNatClampNeg z2_)).toInt := congrArg Int32.toInt (ez4_.trans (congrFun rfl (Int32.toNatClampNeg z2_)))
  have bz4_ : 0 ≤ z4_.toInt ∧ z4_.toInt ≤ 7 := by rw [ez4_]; exact (hI.2 17) _ (cl_lt (n := 24) o4 o5)
  by_cases c_lo : z4_.toInt < 0
  · refine lv_tableOut (tgt := 270) hx hb dX12_work_14 (Or.inl c_lo) rfl ?_
    refine lv_iload hx hb dX12_work_270 (lv_at hl 6 rfl) ?_
    refine lv_if_lt (tgt := 304) hx hb dX12_work_272 rfl (fun c5_ => ?_) (fun c5_ => ?_)
    · have tc5_ := (show ch9.toInt < 0 from ti_lt rfl rg_11 c5_)
      refine lv_aload hx hb dX12_work_304 (lv_at hl 5 rfl) ?_
      refine lv_aload_n hx hb dX12_work_306 rfl (lv_at hl 1 rfl) ?_
      refine va_get (D := (dC, dI)) (ci := 12) (v := .ref (ad 20)) (C := RX12) (T := TX12) (N := 59) hx hb hts hin12 hown hK hP 0 rfl rfl 20 (Nat.le_of_ble_eq_true rfl) (ho (.fieldLink RX12 48 "NearEnoughModel" "sC" "[I") (List.mem_of_getElem? (i := 1) rfl)) (fun _ h9 => h9) rfl dX12_work_307 ?_
      refine lv_iload hx hb dX12_work_310 (lv_at hl 0 rfl) ?_
      refine va_iald hx hb hK hP 12 11 rfl rfl (ti_inx o4 o5) dX12_work_312 ?_
      refine lv_topi (fun z6_ ez6_ => ?_)
      have gz6_ : z6_.toInt = ((σ.2.1 20) (Int32.toNatClampNeg z2_)).toInt := congrArg Int32.toInt (ez6_.trans (congrFun rfl (Int32.toNatClampNeg z2_)))
      have bz6_ : (-1) ≤ z6_.toInt ∧ z6_.toInt ≤ 99 := by rw [ez6_]; exact (hI.2 20) _ (cl_lt (n := 24) o4 o5)
      have o6 : 0 ≤ z6_.toInt := by omega
      have o7 : z6_.toInt < ((12 : Nat) : Int) := by omega
      refine va_lald hx hb hK hP 29 28 rfl rfl (ti_inx o6 o7) dX12_work_313 ?_
      refine lv_topl (fun y7_ ey7_ => ?_)
      refine lv_aload hx hb dX12_work_314 (lv_at hl 5 rfl) ?_
      refine lv_aload_n hx hb dX12_work_316 rfl (lv_at hl 1 rfl) ?_
      refine va_get (D := (dC, dI)) (ci := 12) (v := .ref (ad 21)) (C := RX12) (T := TX12) (N := 59) hx hb hts hin12 hown hK hP 0 rfl rfl 21 (Nat.le_of_ble_eq_true rfl) (ho (.fieldLink RX12 51 "NearEnoughModel" "sD" "[I") (List.mem_of_getElem? (i := 2) rfl)) (fun _ h9 => h9) rfl dX12_work_317 ?_
      refine lv_iload hx hb dX12_work_320 (lv_at hl 0 rfl) ?_
      refine va_iald hx hb hK hP 13 12 rfl rfl (ti_inx o4 o5) dX12_work_322 ?_
      refine lv_topi (fun z8_ ez8_ => ?_)
      have gz8_ : z8_.toInt = ((σ.2.1 21) (Int32.toNatClampNeg z2_)).toInt := congrArg Int32.toInt (ez8_.trans (congrFun rfl (Int32.toNatClampNeg z2_)))
      have bz8_ : (-1) ≤ z8_.toInt ∧ z8_.toInt ≤ 11 := by rw [ez8_]; exact (hI.2 21) _ (cl_lt (n := 24) o4 o5)
      have o8 : 0 ≤ z8_.toInt := by omega
      have o9 : z8_.toInt < ((12 : Nat) : Int) := by omega
      refine va_lald hx hb hK hP 29 28 rfl rfl (ti_inx o8 o9) dX12_work_323 ?_
      refine lv_topl (fun y9_ ey9_ => ?_)
      refine W.lcmp hx hb dX12_work_324 ?_
      refine lv_topi (fun z10_ ez10_ => ?_)
      refine lv_if_ge (tgt := 332) hx hb dX12_work_325 rfl (fun c11_ => ?_) (fun c11_ => ?_)
      · have tc11_ := (show 0 ≤ z10_.toInt from ti_le rg_11 rfl c11_)
        have lc11_ : y9_ ≤ y7_ := (lg_cmp_ge y7_ y9_).mp (by rw [← ez10_]; exact c11_)
        refine lv_iconst (v := 0) hx hb dX12_work_332 rg_0 ?_
        refine lv_istore (lv' := [(7, .int 0), (6, .int z2_), (0, .ref h), (1, .int st9), (2, .ref (ad 31)), (3, .int base), (4, .ref (ad 41)), (5, .int ch9)]) hx hb dX12_work_333 hl (Nat.le_of_ble_eq_true rfl) rfl (fun ls hl => ?_)
        refine lv_iload hx hb dX12_work_335 (lv_at hl 0 rfl) ?_
        refine lv_if_eq (tgt := 353) hx hb dX12_work_337 rfl (fun _ => ?_) (fun cc => absurd (by decide) cc)
        refine lv_aload hx hb dX12_work_353 (lv_at hl 6 rfl) ?_
        refine lv_aload_n hx hb dX12_work_355 rfl (lv_at hl 2 rfl) ?_
        refine va_get (D := (dC, dI)) (ci := 12) (v := .ref (ad 19)) (C := RX12) (T := TX12) (N := 59) hx hb hts hin12 hown hK hP 0 rfl rfl 19 (Nat.le_of_ble_eq_true rfl) (ho (.fieldLink RX12 45 "NearEnoughModel" "sB" "[I") (List.mem_of_getElem? (i := 3) rfl)) (fun _ h9 => h9) rfl dX12_work_356 ?_
        refine lv_iload hx hb dX12_work_359 (lv_at hl 1 rfl) ?_
        refine va_iald hx hb hK hP 11 10 rfl rfl (ti_inx o4 o5) dX12_work_361 ?_
        refine lv_topi (fun z12_ ez12_ => ?_)
        have gz12_ : z12_.toInt = ((σ.2.1 19) (Int32.toNatClampNeg z2_)).toInt := congrArg Int32.toInt (ez12_.trans (congrFun rfl (Int32.toNatClampNeg z2_)))
        have bz12_ : (-99) ≤ z12_.toInt ∧ z12_.toInt ≤ 99 := by rw [ez12_]; exact (hI.2 19) _ (cl_lt (n := 24) o4 o5)
        have o10 : 0 ≤ z12_.toInt := by omega
        have o11 : z12_.toInt < ((12 : Nat) : Int) := by omega
        refine va_lald hx hb hK hP 29 28 rfl rfl (ti_inx o10 o11) dX12_work_362 ?_
        refine lv_topl (fun y13_ ey13_ => ?_)
        rw [hQ]
        have o12 : (σ.2.1 17 (Int32.toNatClampNeg z2_)).toInt = 7 := by omega
        have K14_ : (σ.2.1 17 (12 * (σ.1 29).toNatClampNeg + st9.toNatClampNeg)).toInt = 7 := by rw [← Xz2_]; exact o12
        have o13 : ¬ (0 ≤ ch9.toInt ∧ (σ.2.1 34 (Int32.toNatClampNeg ch9)).toInt = 2) := by omega
        have L16_ : ¬ ((σ.2.2.1 41) (σ.2.1 20 (12 * (σ.1 29).toNatClampNeg + st9.toNatClampNeg)).toNatClampNeg < (σ.2.2.1 41) (σ.2.1 21 (12 * (σ.1 29).toNatClampNeg + st9.toNatClampNeg)).toNatClampNeg) := by rw [← Xz2_, ← ez6_, ← ez8_, ← ey7_, ← ey9_]; exact Int64.not_lt.mpr lc11_
        have R15_ : y13_ = wkF (σ.1 29).toNatClampNeg (cor σ) true (σ.2.1 31) (σ.2.2.1 41) st9.toNatClampNeg base ch9 := by rw [wk_7 (T := cor σ) K14_]; rw [if_neg (show ¬ OnK (cor σ) ch9 2 from o13), if_neg (show ¬ ((σ.2.2.1 41) (cor σ 20 (12 * (σ.1 29).toNatClampNeg + st9.toNatClampNeg)).toNatClampNeg < (σ.2.2.1 41) (cor σ 21 (12 * (σ.1 29).toNatClampNeg + st9.toNatClampNeg)).toNatClampNeg) from L16_)]; simp only [ez4_, ez6_, ey7_, ez8_, ey9_, ez10_, ez12_, ey13_, Xz2_] <;> rfl
        exact W.lret (v := y13_) hx hb hr (fun t ht hW => ⟨⟨y13_, σ, rfl, ⟨rfl, R15_⟩, wEn_of hP (hK.sub [] rfl) hD ht hW⟩, hS.F ht⟩) hS.2.2 dX12_work_363
      · have tc11_ := (show z10_.toInt < 0 from ti_nle rg_11 rfl c11_)
        have lc11_ : ¬ y9_ ≤ y7_ := fun h => c11_ (by rw [ez10_]; exact (lg_cmp_ge y7_ y9_).mpr h)
        refine lv_iconst (v := 1) hx hb dX12_work_328 rg_6 ?_
        refine lv_goto (tgt := 333) hx hb dX12_work_329 rfl ?_
        refine lv_istore (lv' := [(7, .int 1), (6, .int z2_), (0, .ref h), (1, .int st9), (2, .ref (ad 31)), (3, .int base), (4, .ref (ad 41)), (5, .int ch9)]) hx hb dX12_work_333 hl (Nat.le_of_ble_eq_true rfl) rfl (fun ls hl => ?_)
        refine lv_iload hx hb dX12_work_335 (lv_at hl 0 rfl) ?_
        refine lv_if_eq (tgt := 353) hx hb dX12_work_337 rfl (fun cc => absurd cc (by decide)) (fun _ => ?_)
        refine lv_aload hx hb dX12_work_340 (lv_at hl 6 rfl) ?_
        refine lv_aload_n hx hb dX12_work_342 rfl (lv_at hl 2 rfl) ?_
        refine va_get (D := (dC, dI)) (ci := 12) (v := .ref (ad 18)) (C := RX12) (T := TX12) (N := 59) hx hb hts hin12 hown hK hP 0 rfl rfl 18 (Nat.le_of_ble_eq_true rfl) (ho (.fieldLink RX12 42 "NearEnoughModel" "sA" "[I") (List.mem_of_getElem? (i := 4) rfl)) (fun _ h9 => h9) rfl dX12_work_343 ?_
        refine lv_iload hx hb dX12_work_346 (lv_at hl 1 rfl) ?_
        refine va_iald hx hb hK hP 10 9 rfl rfl (ti_inx o4 o5) dX12_work_348 ?_
        refine lv_topi (fun z17_ ez17_ => ?_)
        have gz17_ : z17_.toInt = ((σ.2.1 18) (Int32.toNatClampNeg z2_)).toInt := congrArg Int32.toInt (ez17_.trans (congrFun rfl (Int32.toNatClampNeg z2_)))
        have bz17_ : (-1) ≤ z17_.toInt ∧ z17_.toInt ≤ 11 := by rw [ez17_]; exact (hI.2 18) _ (cl_lt (n := 24) o4 o5)
        have o14 : 0 ≤ z17_.toInt := by omega
        have o15 : z17_.toInt < ((12 : Nat) : Int) := by omega
        refine va_lald hx hb hK hP 29 28 rfl rfl (ti_inx o14 o15) dX12_work_349 ?_
        refine lv_topl (fun y18_ ey18_ => ?_)
        refine lv_goto (tgt := 363) hx hb dX12_work_350 rfl ?_
        rw [hQ]
        have o16 : (σ.2.1 17 (Int32.toNatClampNeg z2_)).toInt = 7 := by omega
        have K19_ : (σ.2.1 17 (12 * (σ.1 29).toNatClampNeg + st9.toNatClampNeg)).toInt = 7 := by rw [← Xz2_]; exact o16
        have o17 : ¬ (0 ≤ ch9.toInt ∧ (σ.2.1 34 (Int32.toNatClampNeg ch9)).toInt = 2) := by omega
        have L21_ : (σ.2.2.1 41) (σ.2.1 20 (12 * (σ.1 29).toNatClampNeg + st9.toNatClampNeg)).toNatClampNeg < (σ.2.2.1 41) (σ.2.1 21 (12 * (σ.1 29).toNatClampNeg + st9.toNatClampNeg)).toNatClampNeg := by rw [← Xz2_, ← ez6_, ← ez8_, ← ey7_, ← ey9_]; exact Int64.not_le.mp lc11_
        have R20_ : y18_ = wkF (σ.1 29).toNatClampNeg (cor σ) true (σ.2.1 31) (σ.2.2.1 41) st9.toNatClampNeg base ch9 := by rw [wk_7 (T := cor σ) K19_]; rw [if_neg (show ¬ OnK (cor σ) ch9 2 from o17), if_pos (show (σ.2.2.1 41) (cor σ 20 (12 * (σ.1 29).toNatClampNeg + st9.toNatClampNeg)).toNatClampNeg < (σ.2.2.1 41) (cor σ 21 (12 * (σ.1 29).toNatClampNeg + st9.toNatClampNeg)).toNatClampNeg from L21_)]; simp only [ez4_, ez6_, ey7_, ez8_, ey9_, ez10_, ez17_, ey18_, Xz2_] <;> rfl
        exact W.lret (v := y18_) hx hb hr (fun t ht hW => ⟨⟨y18_, σ, rfl, ⟨rfl, R20_⟩, wEn_of hP (hK.sub [] rfl) hD ht hW⟩, hS.F ht⟩) hS.2.2 dX12_work_363
    · have tc5_ := (show 0 ≤ ch9.toInt from ti_nlt rfl rg_11 c5_)
      refine lv_aload_n hx hb dX12_work_275 rfl (lv_at hl 1 rfl) ?_
      refine va_get (D := (dC, dI)) (ci := 12) (v := .ref (ad 34)) (C := RX12) (T := TX12) (N := 59) hx hb hts hin12 hown hK hP 0 rfl rfl 34 (Nat.le_of_ble_eq_true rfl) (ho (.fieldLink RX12 85 "NearEnoughModel" "cKind" "[I") (List.mem_of_getElem? (i := 5) rfl)) (fun _ h9 => h9) rfl dX12_work_276 ?_
      refine lv_iload hx hb dX12_work_279 (lv_at hl 6 rfl) ?_
      have o18 : 0 ≤ ch9.toInt := by omega
      have o19 : ch9.toInt < ((12 : Nat) : Int) := by omega
      refine va_iald hx hb hK hP 24 23 rfl rfl (ti_inx o18 o19) dX12_work_281 ?_
      refine lv_topi (fun z22_ ez22_ => ?_)
      have gz22_ : z22_.toInt = ((σ.2.1 34) (Int32.toNatClampNeg ch9)).toInt := congrArg Int32.toInt (ez22_.trans (congrFun rfl (Int32.toNatClampNeg ch9)))
      have bz22_ : 0 ≤ z22_.toInt ∧ z22_.toInt ≤ 6 := by rw [ez22_]; exact (hI.2 34) _ (cl_lt (n := 12) o18 o19)
      refine lv_iconst (v := 2) hx hb dX12_work_282 rg_19 ?_
      refine lv_icmp_ne (tgt := 304) hx hb dX12_work_283 rfl (fun c23_ => ?_) (fun c23_ => ?_)
      · have tc23_ := (show z22_.toInt ≠ 2 from ti_ne rfl rg_20 c23_)
        refine lv_aload hx hb dX12_work_304 (lv_at hl 5 rfl) ?_
        refine lv_aload_n hx hb dX12_work_306 rfl (lv_at hl 1 rfl) ?_
        refine va_get (D := (dC, dI)) (ci := 12) (v := .ref (ad 20)) (C := RX12) (T := TX12) (N := 59) hx hb hts hin12 hown hK hP 0 rfl rfl 20 (Nat.le_of_ble_eq_true rfl) (ho (.fieldLink RX12 48 "NearEnoughModel" "sC" "[I") (List.mem_of_getElem? (i := 1) rfl)) (fun _ h9 => h9) rfl dX12_work_307 ?_
        refine lv_iload hx hb dX12_work_310 (lv_at hl 0 rfl) ?_
        refine va_iald hx hb hK hP 12 11 rfl rfl (ti_inx o4 o5) dX12_work_312 ?_
        refine lv_topi (fun z24_ ez24_ => ?_)
        have gz24_ : z24_.toInt = ((σ.2.1 20) (Int32.toNatClampNeg z2_)).toInt := congrArg Int32.toInt (ez24_.trans (congrFun rfl (Int32.toNatClampNeg z2_)))
        have bz24_ : (-1) ≤ z24_.toInt ∧ z24_.toInt ≤ 99 := by rw [ez24_]; exact (hI.2 20) _ (cl_lt (n := 24) o4 o5)
        have o20 : 0 ≤ z24_.toInt := by omega
        have o21 : z24_.toInt < ((12 : Nat) : Int) := by omega
        refine va_lald hx hb hK hP 29 28 rfl rfl (ti_inx o20 o21) dX12_work_313 ?_
        refine lv_topl (fun y25_ ey25_ => ?_)
        refine lv_aload hx hb dX12_work_314 (lv_at hl 5 rfl) ?_
        refine lv_aload_n hx hb dX12_work_316 rfl (lv_at hl 1 rfl) ?_
        refine va_get (D := (dC, dI)) (ci := 12) (v := .ref (ad 21)) (C := RX12) (T := TX12) (N := 59) hx hb hts hin12 hown hK hP 0 rfl rfl 21 (Nat.le_of_ble_eq_true rfl) (ho (.fieldLink RX12 51 "NearEnoughModel" "sD" "[I") (List.mem_of_getElem? (i := 2) rfl)) (fun _ h9 => h9) rfl dX12_work_317 ?_
        refine lv_iload hx hb dX12_work_320 (lv_at hl 0 rfl) ?_
        refine va_iald hx hb hK hP 13 12 rfl rfl (ti_inx o4 o5) dX12_work_322 ?_
        refine lv_topi (fun z26_ ez26_ => ?_)
        have gz26_ : z26_.toInt = ((σ.2.1 21) (Int32.toNatClampNeg z2_)).toInt := congrArg Int32.toInt (ez26_.trans (congrFun rfl (Int32.toNatClampNeg z2_)))
        have bz26_ : (-1) ≤ z26_.toInt ∧ z26_.toInt ≤ 11 := by rw [ez26_]; exact (hI.2 21) _ (cl_lt (n := 24) o4 o5)
        have o22 : 0 ≤ z26_.toInt := by omega
        have o23 : z26_.toInt < ((12 : Nat) : Int) := by omega
        refine va_lald hx hb hK hP 29 28 rfl rfl (ti_inx o22 o23) dX12_work_323 ?_
        refine lv_topl (fun y27_ ey27_ => ?_)
        refine W.lcmp hx hb dX12_work_324 ?_
        refine lv_topi (fun z28_ ez28_ => ?_)
        refine lv_if_ge (tgt := 332) hx hb dX12_work_325 rfl (fun c29_ => ?_) (fun c29_ => ?_)
        · have tc29_ := (show 0 ≤ z28_.toInt from ti_le rg_11 rfl c29_)
          have lc29_ : y27_ ≤ y25_ := (lg_cmp_ge y25_ y27_).mp (by rw [← ez28_]; exact c29_)
          refine lv_iconst (v := 0) hx hb dX12_work_332 rg_0 ?_
          refine lv_istore (lv' := [(7, .int 0), (6, .int z2_), (0, .ref h), (1, .int st9), (2, .ref (ad 31)), (3, .int base), (4, .ref (ad 41)), (5, .int ch9)]) hx hb dX12_work_333 hl (Nat.le_of_ble_eq_true rfl) rfl (fun ls hl => ?_)
          refine lv_iload hx hb dX12_work_335 (lv_at hl 0 rfl) ?_
          refine lv_if_eq (tgt := 353) hx hb dX12_work_337 rfl (fun _ => ?_) (fun cc => absurd (by decide) cc)
          refine lv_aload hx hb dX12_work_353 (lv_at hl 6 rfl) ?_
          refine lv_aload_n hx hb dX12_work_355 rfl (lv_at hl 2 rfl) ?_
          refine va_get (D := (dC, dI)) (ci := 12) (v := .ref (ad 19)) (C := RX12) (T := TX12) (N := 59) hx hb hts hin12 hown hK hP 0 rfl rfl 19 (Nat.le_of_ble_eq_true rfl) (ho (.fieldLink RX12 45 "NearEnoughModel" "sB" "[I") (List.mem_of_getElem? (i := 3) rfl)) (fun _ h9 => h9) rfl dX12_work_356 ?_
          refine lv_iload hx hb dX12_work_359 (lv_at hl 1 rfl) ?_
          refine va_iald hx hb hK hP 11 10 rfl rfl (ti_inx o4 o5) dX12_work_361 ?_
          refine lv_topi (fun z30_ ez30_ => ?_)
          have gz30_ : z30_.toInt = ((σ.2.1 19) (Int32.toNatClampNeg z2_)).toInt := congrArg Int32.toInt (ez30_.trans (congrFun rfl (Int32.toNatClampNeg z2_)))
          have bz30_ : (-99) ≤ z30_.toInt ∧ z30_.toInt ≤ 99 := by rw [ez30_]; exact (hI.2 19) _ (cl_lt (n := 24) o4 o5)
          have o24 : 0 ≤ z30_.toInt := by omega
          have o25 : z30_.toInt < ((12 : Nat) : Int) := by omega
          refine va_lald hx hb hK hP 29 28 rfl rfl (ti_inx o24 o25) dX12_work_362 ?_
          refine lv_topl (fun y31_ ey31_ => ?_)
          rw [hQ]
          have o26 : (σ.2.1 17 (Int32.toNatClampNeg z2_)).toInt = 7 := by omega
          have K32_ : (σ.2.1 17 (12 * (σ.1 29).toNatClampNeg + st9.toNatClampNeg)).toInt = 7 := by rw [← Xz2_]; exact o26
          have o27 : ¬ (0 ≤ ch9.toInt ∧ (σ.2.1 34 (Int32.toNatClampNeg ch9)).toInt = 2) := by omega
          have L34_ : ¬ ((σ.2.2.1 41) (σ.2.1 20 (12 * (σ.1 29).toNatClampNeg + st9.toNatClampNeg)).toNatClampNeg < (σ.2.2.1 41) (σ.2.1 21 (12 * (σ.1 29).toNatClampNeg + st9.toNatClampNeg)).toNatClampNeg) := by rw [← Xz2_, ← ez24_, ← ez26_, ← ey25_, ← ey27_]; exact Int64.not_lt.mpr lc29_
          have R33_ : y31_ = wkF (σ.1 29).toNatClampNeg (cor σ) true (σ.2.1 31) (σ.2.2.1 41) st9.toNatClampNeg base ch9 := by rw [wk_7 (T := cor σ) K32_]; rw [if_neg (show ¬ OnK (cor σ) ch9 2 from o27), if_neg (show ¬ ((σ.2.2.1 41) (cor σ 20 (12 * (σ.1 29).toNatClampNeg + st9.toNatClampNeg)).toNatClampNeg < (σ.2.2.1 41) (cor σ 21 (12 * (σ.1 29).toNatClampNeg + st9.toNatClampNeg)).toNatClampNeg) from L34_)]; simp only [ez4_, ez22_, ez24_, ey25_, ez26_, ey27_, ez28_, ez30_, ey31_, Xz2_] <;> rfl
          exact W.lret (v := y31_) hx hb hr (fun t ht hW => ⟨⟨y31_, σ, rfl, ⟨rfl, R33_⟩, wEn_of hP (hK.sub [] rfl) hD ht hW⟩, hS.F ht⟩) hS.2.2 dX12_work_363
        · have tc29_ := (show z28_.toInt < 0 from ti_nle rg_11 rfl c29_)
          have lc29_ : ¬ y27_ ≤ y25_ := fun h => c29_ (by rw [ez28_]; exact (lg_cmp_ge y25_ y27_).mpr h)
          refine lv_iconst (v := 1) hx hb dX12_work_328 rg_6 ?_
          refine lv_goto (tgt := 333) hx hb dX12_work_329 rfl ?_
          refine lv_istore (lv' := [(7, .int 1), (6, .int z2_), (0, .ref h), (1, .int st9), (2, .ref (ad 31)), (3, .int base), (4, .ref (ad 41)), (5, .int ch9)]) hx hb dX12_work_333 hl (Nat.le_of_ble_eq_true rfl) rfl (fun ls hl => ?_)
          refine lv_iload hx hb dX12_work_335 (lv_at hl 0 rfl) ?_
          refine lv_if_eq (tgt := 353) hx hb dX12_work_337 rfl (fun cc => absurd cc (by decide)) (fun _ => ?_)
          refine lv_aload hx hb dX12_work_340 (lv_at hl 6 rfl) ?_
          refine lv_aload_n hx hb dX12_work_342 rfl (lv_at hl 2 rfl) ?_
          refine va_get (D := (dC, dI)) (ci := 12) (v := .ref (ad 18)) (C := RX12) (T := TX12) (N := 59) hx hb hts hin12 hown hK hP 0 rfl rfl 18 (Nat.le_of_ble_eq_true rfl) (ho (.fieldLink RX12 42 "NearEnoughModel" "sA" "[I") (List.mem_of_getElem? (i := 4) rfl)) (fun _ h9 => h9) rfl dX12_work_343 ?_
          refine lv_iload hx hb dX12_work_346 (lv_at hl 1 rfl) ?_
          refine va_iald hx hb hK hP 10 9 rfl rfl (ti_inx o4 o5) dX12_work_348 ?_
          refine lv_topi (fun z35_ ez35_ => ?_)
          have gz35_ : z35_.toInt = ((σ.2.1 18) (Int32.toNatClampNeg z2_)).toInt := congrArg Int32.toInt (ez35_.trans (congrFun rfl (Int32.toNatClampNeg z2_)))
          have bz35_ : (-1) ≤ z35_.toInt ∧ z35_.toInt ≤ 11 := by rw [ez35_]; exact (hI.2 18) _ (cl_lt (n := 24) o4 o5)
          have o28 : 0 ≤ z35_.toInt := by omega
          have o29 : z35_.toInt < ((12 : Nat) : Int) := by omega
          refine va_lald hx hb hK hP 29 28 rfl rfl (ti_inx o28 o29) dX12_work_349 ?_
          refine lv_topl (fun y36_ ey36_ => ?_)
          refine lv_goto (tgt := 363) hx hb dX12_work_350 rfl ?_
          rw [hQ]
          have o30 : (σ.2.1 17 (Int32.toNatClampNeg z2_)).toInt = 7 := by omega
          have K37_ : (σ.2.1 17 (12 * (σ.1 29).toNatClampNeg + st9.toNatClampNeg)).toInt = 7 := by rw [← Xz2_]; exact o30
          have o31 : ¬ (0 ≤ ch9.toInt ∧ (σ.2.1 34 (Int32.toNatClampNeg ch9)).toInt = 2) := by omega
          have L39_ : (σ.2.2.1 41) (σ.2.1 20 (12 * (σ.1 29).toNatClampNeg + st9.toNatClampNeg)).toNatClampNeg < (σ.2.2.1 41) (σ.2.1 21 (12 * (σ.1 29).toNatClampNeg + st9.toNatClampNeg)).toNatClampNeg := by rw [← Xz2_, ← ez24_, ← ez26_, ← ey25_, ← ey27_]; exact Int64.not_le.mp lc29_
          have R38_ : y36_ = wkF (σ.1 29).toNatClampNeg (cor σ) true (σ.2.1 31) (σ.2.2.1 41) st9.toNatClampNeg base ch9 := by rw [wk_7 (T := cor σ) K37_]; rw [if_neg (show ¬ OnK (cor σ) ch9 2 from o31), if_pos (show (σ.2.2.1 41) (cor σ 20 (12 * (σ.1 29).toNatClampNeg + st9.toNatClampNeg)).toNatClampNeg < (σ.2.2.1 41) (cor σ 21 (12 * (σ.1 29).toNatClampNeg + st9.toNatClampNeg)).toNatClampNeg from L39_)]; simp only [ez4_, ez22_, ez24_, ey25_, ez26_, ey27_, ez28_, ez35_, ey36_, Xz2_] <;> rfl
          exact W.lret (v := y36_) hx hb hr (fun t ht hW => ⟨⟨y36_, σ, rfl, ⟨rfl, R38_⟩, wEn_of hP (hK.sub [] rfl) hD ht hW⟩, hS.F ht⟩) hS.2.2 dX12_work_363
      · have tc23_ := (show z22_.toInt = 2 from ti_eq rfl rg_20 c23_)
        refine lv_aload_n hx hb dX12_work_286 rfl (lv_at hl 1 rfl) ?_
        refine va_get (D := (dC, dI)) (ci := 12) (v := .ref (ad 35)) (C := RX12) (T := TX12) (N := 59) hx hb hts hin12 hown hK hP 0 rfl rfl 35 (Nat.le_of_ble_eq_true rfl) (ho (.fieldLink RX12 88 "NearEnoughModel" "cN" "[I") (List.mem_of_getElem? (i := 6) rfl)) (fun _ h9 => h9) rfl dX12_work_287 ?_
        refine lv_iload hx hb dX12_work_290 (lv_at hl 6 rfl) ?_
        refine va_iald hx hb hK hP 25 24 rfl rfl (ti_inx o18 o19) dX12_work_292 ?_
        refine lv_topi (fun z40_ ez40_ => ?_)
        have gz40_ : z40_.toInt = ((σ.2.1 35) (Int32.toNatClampNeg ch9)).toInt := congrArg Int32.toInt (ez40_.trans (congrFun rfl (Int32.toNatClampNeg ch9)))
        have bz40_ : 0 ≤ z40_.toInt ∧ z40_.toInt ≤ 99 := by rw [ez40_]; exact (hI.2 35) _ (cl_lt (n := 12) o18 o19)
        refine lv_if_ne (tgt := 300) hx hb dX12_work_293 rfl (fun c41_ => ?_) (fun c41_ => ?_)
        · have tc41_ := (show z40_.toInt ≠ 0 from ti_ne rfl rg_11 c41_)
          refine lv_iconst (v := 0) hx hb dX12_work_300 rg_0 ?_
          refine lv_goto (tgt := 333) hx hb dX12_work_301 rfl ?_
          refine lv_istore (lv' := [(7, .int 0), (6, .int z2_), (0, .ref h), (1, .int st9), (2, .ref (ad 31)), (3, .int base), (4, .ref (ad 41)), (5, .int ch9)]) hx hb dX12_work_333 hl (Nat.le_of_ble_eq_true rfl) rfl (fun ls hl => ?_)
          refine lv_iload hx hb dX12_work_335 (lv_at hl 0 rfl) ?_
          refine lv_if_eq (tgt := 353) hx hb dX12_work_337 rfl (fun _ => ?_) (fun cc => absurd (by decide) cc)
          refine lv_aload hx hb dX12_work_353 (lv_at hl 6 rfl) ?_
          refine lv_aload_n hx hb dX12_work_355 rfl (lv_at hl 2 rfl) ?_
          refine va_get (D := (dC, dI)) (ci := 12) (v := .ref (ad 19)) (C := RX12) (T := TX12) (N := 59) hx hb hts hin12 hown hK hP 0 rfl rfl 19 (Nat.le_of_ble_eq_true rfl) (ho (.fieldLink RX12 45 "NearEnoughModel" "sB" "[I") (List.mem_of_getElem? (i := 3) rfl)) (fun _ h9 => h9) rfl dX12_work_356 ?_
          refine lv_iload hx hb dX12_work_359 (lv_at hl 1 rfl) ?_
          refine va_iald hx hb hK hP 11 10 rfl rfl (ti_inx o4 o5) dX12_work_361 ?_
          refine lv_topi (fun z42_ ez42_ => ?_)
          have gz42_ : z42_.toInt = ((σ.2.1 19) (Int32.toNatClampNeg z2_)).toInt := congrArg Int32.toInt (ez42_.trans (congrFun rfl (Int32.toNatClampNeg z2_)))
          have bz42_ : (-99) ≤ z42_.toInt ∧ z42_.toInt ≤ 99 := by rw [ez42_]; exact (hI.2 19) _ (cl_lt (n := 24) o4 o5)
          have o32 : 0 ≤ z42_.toInt := by omega
          have o33 : z42_.toInt < ((12 : Nat) : Int) := by omega
          refine va_lald hx hb hK hP 29 28 rfl rfl (ti_inx o32 o33) dX12_work_362 ?_
          refine lv_topl (fun y43_ ey43_ => ?_)
          rw [hQ]
          have o34 : (σ.2.1 17 (Int32.toNatClampNeg z2_)).toInt = 7 := by omega
          have K44_ : (σ.2.1 17 (12 * (σ.1 29).toNatClampNeg + st9.toNatClampNeg)).toInt = 7 := by rw [← Xz2_]; exact o34
          have o35 : 0 ≤ ch9.toInt ∧ (σ.2.1 34 (Int32.toNatClampNeg ch9)).toInt = 2 := by omega
          have o36 : ¬ (σ.2.1 35 (Int32.toNatClampNeg ch9)).toInt = 0 := by omega
          have R45_ : y43_ = wkF (σ.1 29).toNatClampNeg (cor σ) true (σ.2.1 31) (σ.2.2.1 41) st9.toNatClampNeg base ch9 := by rw [wk_7 (T := cor σ) K44_]; rw [if_pos (show OnK (cor σ) ch9 2 from o35), if_neg (show ¬ (cor σ 35 (Int32.toNatClampNeg ch9)).toInt = 0 from o36)]; simp only [ez4_, ez22_, ez40_, ez42_, ey43_, Xz2_] <;> rfl
          exact W.lret (v := y43_) hx hb hr (fun t ht hW => ⟨⟨y43_, σ, rfl, ⟨rfl, R45_⟩, wEn_of hP (hK.sub [] rfl) hD ht hW⟩, hS.F ht⟩) hS.2.2 dX12_work_363
        · have tc41_ := (show z40_.toInt = 0 from ti_eq rfl rg_11 c41_)
          refine lv_iconst (v := 1) hx hb dX12_work_296 rg_6 ?_
          refine lv_goto (tgt := 333) hx hb dX12_work_297 rfl ?_
          refine lv_istore (lv' := [(7, .int 1), (6, .int z2_), (0, .ref h), (1, .int st9), (2, .ref (ad 31)), (3, .int base), (4, .ref (ad 41)), (5, .int ch9)]) hx hb dX12_work_333 hl (Nat.le_of_ble_eq_true rfl) rfl (fun ls hl => ?_)
          refine lv_iload hx hb dX12_work_335 (lv_at hl 0 rfl) ?_
          refine lv_if_eq (tgt := 353) hx hb dX12_work_337 rfl (fun cc => absurd cc (by decide)) (fun _ => ?_)
          refine lv_aload hx hb dX12_work_340 (lv_at hl 6 rfl) ?_
          refine lv_aload_n hx hb dX12_work_342 rfl (lv_at hl 2 rfl) ?_
          refine va_get (D := (dC, dI)) (ci := 12) (v := .ref (ad 18)) (C := RX12) (T := TX12) (N := 59) hx hb hts hin12 hown hK hP 0 rfl rfl 18 (Nat.le_of_ble_eq_true rfl) (ho (.fieldLink RX12 42 "NearEnoughModel" "sA" "[I") (List.mem_of_getElem? (i := 4) rfl)) (fun _ h9 => h9) rfl dX12_work_343 ?_
          refine lv_iload hx hb dX12_work_346 (lv_at hl 1 rfl) ?_
          refine va_iald hx hb hK hP 10 9 rfl rfl (ti_inx o4 o5) dX12_work_348 ?_
          refine lv_topi (fun z46_ ez46_ => ?_)
          have gz46_ : z46_.toInt = ((σ.2.1 18) (Int32.toNatClampNeg z2_)).toInt := congrArg Int32.toInt (ez46_.trans (congrFun rfl (Int32.toNatClampNeg z2_)))
          have bz46_ : (-1) ≤ z46_.toInt ∧ z46_.toInt ≤ 11 := by rw [ez46_]; exact (hI.2 18) _ (cl_lt (n := 24) o4 o5)
          have o37 : 0 ≤ z46_.toInt := by omega
          have o38 : z46_.toInt < ((12 : Nat) : Int) := by omega
          refine va_lald hx hb hK hP 29 28 rfl rfl (ti_inx o37 o38) dX12_work_349 ?_
          refine lv_topl (fun y47_ ey47_ => ?_)
          refine lv_goto (tgt := 363) hx hb dX12_work_350 rfl ?_
          rw [hQ]
          have o39 : (σ.2.1 17 (Int32.toNatClampNeg z2_)).toInt = 7 := by omega
          have K48_ : (σ.2.1 17 (12 * (σ.1 29).toNatClampNeg + st9.toNatClampNeg)).toInt = 7 := by rw [← Xz2_]; exact o39
          have o40 : 0 ≤ ch9.toInt ∧ (σ.2.1 34 (Int32.toNatClampNeg ch9)).toInt = 2 := by omega
          have o41 : (σ.2.1 35 (Int32.toNatClampNeg ch9)).toInt = 0 := by omega
          have R49_ : y47_ = wkF (σ.1 29).toNatClampNeg (cor σ) true (σ.2.1 31) (σ.2.2.1 41) st9.toNatClampNeg base ch9 := by rw [wk_7 (T := cor σ) K48_]; rw [if_pos (show OnK (cor σ) ch9 2 from o40), if_pos (show (cor σ 35 (Int32.toNatClampNeg ch9)).toInt = 0 from o41)]; simp only [ez4_, ez22_, ez40_, ez46_, ey47_, Xz2_] <;> rfl
          exact W.lret (v := y47_) hx hb hr (fun t ht hW => ⟨⟨y47_, σ, rfl, ⟨rfl, R49_⟩, wEn_of hP (hK.sub [] rfl) hD ht hW⟩, hS.F ht⟩) hS.2.2 dX12_work_363
  · by_cases c_hi : 6 < z4_.toInt
    · refine lv_tableOut (tgt := 270) hx hb dX12_work_14 (Or.inr c_hi) rfl ?_
      refine lv_iload hx hb dX12_work_270 (lv_at hl 6 rfl) ?_
      refine lv_if_lt (tgt := 304) hx hb dX12_work_272 rfl (fun c50_ => ?_) (fun c50_ => ?_)
      · have tc50_ := (show ch9.toInt < 0 from ti_lt rfl rg_11 c50_)
        refine lv_aload hx hb dX12_work_304 (lv_at hl 5 rfl) ?_
        refine lv_aload_n hx hb dX12_work_306 rfl (lv_at hl 1 rfl) ?_
        refine va_get (D := (dC, dI)) (ci := 12) (v := .ref (ad 20)) (C := RX12) (T := TX12) (N := 59) hx hb hts hin12 hown hK hP 0 rfl rfl 20 (Nat.le_of_ble_eq_true rfl) (ho (.fieldLink RX12 48 "NearEnoughModel" "sC" "[I") (List.mem_of_getElem? (i := 1) rfl)) (fun _ h9 => h9) rfl dX12_work_307 ?_
        refine lv_iload hx hb dX12_work_310 (lv_at hl 0 rfl) ?_
        refine va_iald hx hb hK hP 12 11 rfl rfl (ti_inx o4 o5) dX12_work_312 ?_
        refine lv_topi (fun z51_ ez51_ => ?_)
        have gz51_ : z51_.toInt = ((σ.2.1 20) (Int32.toNatClampNeg z2_)).toInt := congrArg Int32.toInt (ez51_.trans (congrFun rfl (Int32.toNatClampNeg z2_)))
        have bz51_ : (-1) ≤ z51_.toInt ∧ z51_.toInt ≤ 99 := by rw [ez51_]; exact (hI.2 20) _ (cl_lt (n := 24) o4 o5)
        have o42 : 0 ≤ z51_.toInt := by omega
        have o43 : z51_.toInt < ((12 : Nat) : Int) := by omega
        refine va_lald hx hb hK hP 29 28 rfl rfl (ti_inx o42 o43) dX12_work_313 ?_
        refine lv_topl (fun y52_ ey52_ => ?_)
        refine lv_aload hx hb dX12_work_314 (lv_at hl 5 rfl) ?_
        refine lv_aload_n hx hb dX12_work_316 rfl (lv_at hl 1 rfl) ?_
        refine va_get (D := (dC, dI)) (ci := 12) (v := .ref (ad 21)) (C := RX12) (T := TX12) (N := 59) hx hb hts hin12 hown hK hP 0 rfl rfl 21 (Nat.le_of_ble_eq_true rfl) (ho (.fieldLink RX12 51 "NearEnoughModel" "sD" "[I") (List.mem_of_getElem? (i := 2) rfl)) (fun _ h9 => h9) rfl dX12_work_317 ?_
        refine lv_iload hx hb dX12_work_320 (lv_at hl 0 rfl) ?_
        refine va_iald hx hb hK hP 13 12 rfl rfl (ti_inx o4 o5) dX12_work_322 ?_
        refine lv_topi (fun z53_ ez53_ => ?_)
        have gz53_ : z53_.toInt = ((σ.2.1 21) (Int32.toNatClampNeg z2_)).toInt := congrArg Int32.toInt (ez53_.trans (congrFun rfl (Int32.toNatClampNeg z2_)))
        have bz53_ : (-1) ≤ z53_.toInt ∧ z53_.toInt ≤ 11 := by rw [ez53_]; exact (hI.2 21) _ (cl_lt (n := 24) o4 o5)
        have o44 : 0 ≤ z53_.toInt := by omega
        have o45 : z53_.toInt < ((12 : Nat) : Int) := by omega
        refine va_lald hx hb hK hP 29 28 rfl rfl (ti_inx o44 o45) dX12_work_323 ?_
        refine lv_topl (fun y54_ ey54_ => ?_)
        refine W.lcmp hx hb dX12_work_324 ?_
        refine lv_topi (fun z55_ ez55_ => ?_)
        refine lv_if_ge (tgt := 332) hx hb dX12_work_325 rfl (fun c56_ => ?_) (fun c56_ => ?_)
        · have tc56_ := (show 0 ≤ z55_.toInt from ti_le rg_11 rfl c56_)
          have lc56_ : y54_ ≤ y52_ := (lg_cmp_ge y52_ y54_).mp (by rw [← ez55_]; exact c56_)
          refine lv_iconst (v := 0) hx hb dX12_work_332 rg_0 ?_
          refine lv_istore (lv' := [(7, .int 0), (6, .int z2_), (0, .ref h), (1, .int st9), (2, .ref (ad 31)), (3, .int base), (4, .ref (ad 41)), (5, .int ch9)]) hx hb dX12_work_333 hl (Nat.le_of_ble_eq_true rfl) rfl (fun ls hl => ?_)
          refine lv_iload hx hb dX12_work_335 (lv_at hl 0 rfl) ?_
          refine lv_if_eq (tgt := 353) hx hb dX12_work_337 rfl (fun _ => ?_) (fun cc => absurd (by decide) cc)
          refine lv_aload hx hb dX12_work_353 (lv_at hl 6 rfl) ?_
          refine lv_aload_n hx hb dX12_work_355 rfl (lv_at hl 2 rfl) ?_
          refine va_get (D := (dC, dI)) (ci := 12) (v := .ref (ad 19)) (C := RX12) (T := TX12) (N := 59) hx hb hts hin12 hown hK hP 0 rfl rfl 19 (Nat.le_of_ble_eq_true rfl) (ho (.fieldLink RX12 45 "NearEnoughModel" "sB" "[I") (List.mem_of_getElem? (i := 3) rfl)) (fun _ h9 => h9) rfl dX12_work_356 ?_
          refine lv_iload hx hb dX12_work_359 (lv_at hl 1 rfl) ?_
          refine va_iald hx hb hK hP 11 10 rfl rfl (ti_inx o4 o5) dX12_work_361 ?_
          refine lv_topi (fun z57_ ez57_ => ?_)
          have gz57_ : z57_.toInt = ((σ.2.1 19) (Int32.toNatClampNeg z2_)).toInt := congrArg Int32.toInt (ez57_.trans (congrFun rfl (Int32.toNatClampNeg z2_)))
          have bz57_ : (-99) ≤ z57_.toInt ∧ z57_.toInt ≤ 99 := by rw [ez57_]; exact (hI.2 19) _ (cl_lt (n := 24) o4 o5)
          have o46 : 0 ≤ z57_.toInt := by omega
          have o47 : z57_.toInt < ((12 : Nat) : Int) := by omega
          refine va_lald hx hb hK hP 29 28 rfl rfl (ti_inx o46 o47) dX12_work_362 ?_
          refine lv_topl (fun y58_ ey58_ => ?_)
          rw [hQ]
          have o48 : (σ.2.1 17 (Int32.toNatClampNeg z2_)).toInt = 7 := by omega
          have K59_ : (σ.2.1 17 (12 * (σ.1 29).toNatClampNeg + st9.toNatClampNeg)).toInt = 7 := by rw [← Xz2_]; exact o48
          have o49 : ¬ (0 ≤ ch9.toInt ∧ (σ.2.1 34 (Int32.toNatClampNeg ch9)).toInt = 2) := by omega
          have L61_ : ¬ ((σ.2.2.1 41) (σ.2.1 20 (12 * (σ.1 29).toNatClampNeg + st9.toNatClampNeg)).toNatClampNeg < (σ.2.2.1 41) (σ.2.1 21 (12 * (σ.1 29).toNatClampNeg + st9.toNatClampNeg)).toNatClampNeg) := by rw [← Xz2_, ← ez51_, ← ez53_, ← ey52_, ← ey54_]; exact Int64.not_lt.mpr lc56_
          have R60_ : y58_ = wkF (σ.1 29).toNatClampNeg (cor σ) true (σ.2.1 31) (σ.2.2.1 41) st9.toNatClampNeg base ch9 := by rw [wk_7 (T := cor σ) K59_]; rw [if_neg (show ¬ OnK (cor σ) ch9 2 from o49), if_neg (show ¬ ((σ.2.2.1 41) (cor σ 20 (12 * (σ.1 29).toNatClampNeg + st9.toNatClampNeg)).toNatClampNeg < (σ.2.2.1 41) (cor σ 21 (12 * (σ.1 29).toNatClampNeg + st9.toNatClampNeg)).toNatClampNeg) from L61_)]; simp only [ez4_, ez51_, ey52_, ez53_, ey54_, ez55_, ez57_, ey58_, Xz2_] <;> rfl
          exact W.lret (v := y58_) hx hb hr (fun t ht hW => ⟨⟨y58_, σ, rfl, ⟨rfl, R60_⟩, wEn_of hP (hK.sub [] rfl) hD ht hW⟩, hS.F ht⟩) hS.2.2 dX12_work_363
        · have tc56_ := (show z55_.toInt < 0 from ti_nle rg_11 rfl c56_)
          have lc56_ : ¬ y54_ ≤ y52_ := fun h => c56_ (by rw [ez55_]; exact (lg_cmp_ge y52_ y54_).mpr h)
          refine lv_iconst (v := 1) hx hb dX12_work_328 rg_6 ?_
          refine lv_goto (tgt := 333) hx hb dX12_work_329 rfl ?_
          refine lv_istore (lv' := [(7, .int 1), (6, .int z2_), (0, .ref h), (1, .int st9), (2, .ref (ad 31)), (3, .int base), (4, .ref (ad 41)), (5, .int ch9)]) hx hb dX12_work_333 hl (Nat.le_of_ble_eq_true rfl) rfl (fun ls hl => ?_)
          refine lv_iload hx hb dX12_work_335 (lv_at hl 0 rfl) ?_
          refine lv_if_eq (tgt := 353) hx hb dX12_work_337 rfl (fun cc => absurd cc (by decide)) (fun _ => ?_)
          refine lv_aload hx hb dX12_work_340 (lv_at hl 6 rfl) ?_
          refine lv_aload_n hx hb dX12_work_342 rfl (lv_at hl 2 rfl) ?_
          refine va_get (D := (dC, dI)) (ci := 12) (v := .ref (ad 18)) (C := RX12) (T := TX12) (N := 59) hx hb hts hin12 hown hK hP 0 rfl rfl 18 (Nat.le_of_ble_eq_true rfl) (ho (.fieldLink RX12 42 "NearEnoughModel" "sA" "[I") (List.mem_of_getElem? (i := 4) rfl)) (fun _ h9 => h9) rfl dX12_work_343 ?_
          refine lv_iload hx hb dX12_work_346 (lv_at hl 1 rfl) ?_
          refine va_iald hx hb hK hP 10 9 rfl rfl (ti_inx o4 o5) dX12_work_348 ?_
          refine lv_topi (fun z62_ ez62_ => ?_)
          have gz62_ : z62_.toInt = ((σ.2.1 18) (Int32.toNatClampNeg z2_)).toInt := congrArg Int32.toInt (ez62_.trans (congrFun rfl (Int32.toNatClampNeg z2_)))
          have bz62_ : (-1) ≤ z62_.toInt ∧ z62_.toInt ≤ 11 := by rw [ez62_]; exact (hI.2 18) _ (cl_lt (n := 24) o4 o5)
          have o50 : 0 ≤ z62_.toInt := by omega
          have o51 : z62_.toInt < ((12 : Nat) : Int) := by omega
          refine va_lald hx hb hK hP 29 28 rfl rfl (ti_inx o50 o51) dX12_work_349 ?_
          refine lv_topl (fun y63_ ey63_ => ?_)
          refine lv_goto (tgt := 363) hx hb dX12_work_350 rfl ?_
          rw [hQ]
          have o52 : (σ.2.1 17 (Int32.toNatClampNeg z2_)).toInt = 7 := by omega
          have K64_ : (σ.2.1 17 (12 * (σ.1 29).toNatClampNeg + st9.toNatClampNeg)).toInt = 7 := by rw [← Xz2_]; exact o52
          have o53 : ¬ (0 ≤ ch9.toInt ∧ (σ.2.1 34 (Int32.toNatClampNeg ch9)).toInt = 2) := by omega
          have L66_ : (σ.2.2.1 41) (σ.2.1 20 (12 * (σ.1 29).toNatClampNeg + st9.toNatClampNeg)).toNatClampNeg < (σ.2.2.1 41) (σ.2.1 21 (12 * (σ.1 29).toNatClampNeg + st9.toNatClampNeg)).toNatClampNeg := by rw [← Xz2_, ← ez51_, ← ez53_, ← ey52_, ← ey54_]; exact Int64.not_le.mp lc56_
          have R65_ : y63_ = wkF (σ.1 29).toNatClampNeg (cor σ) true (σ.2.1 31) (σ.2.2.1 41) st9.toNatClampNeg base ch9 := by rw [wk_7 (T := cor σ) K64_]; rw [if_neg (show ¬ OnK (cor σ) ch9 2 from o53), if_pos (show (σ.2.2.1 41) (cor σ 20 (12 * (σ.1 29).toNatClampNeg + st9.toNatClampNeg)).toNatClampNeg < (σ.2.2.1 41) (cor σ 21 (12 * (σ.1 29).toNatClampNeg + st9.toNatClampNeg)).toNatClampNeg from L66_)]; simp only [ez4_, ez51_, ey52_, ez53_, ey54_, ez55_, ez62_, ey63_, Xz2_] <;> rfl
          exact W.lret (v := y63_) hx hb hr (fun t ht hW => ⟨⟨y63_, σ, rfl, ⟨rfl, R65_⟩, wEn_of hP (hK.sub [] rfl) hD ht hW⟩, hS.F ht⟩) hS.2.2 dX12_work_363
      · have tc50_ := (show 0 ≤ ch9.toInt from ti_nlt rfl rg_11 c50_)
        refine lv_aload_n hx hb dX12_work_275 rfl (lv_at hl 1 rfl) ?_
        refine va_get (D := (dC, dI)) (ci := 12) (v := .ref (ad 34)) (C := RX12) (T := TX12) (N := 59) hx hb hts hin12 hown hK hP 0 rfl rfl 34 (Nat.le_of_ble_eq_true rfl) (ho (.fieldLink RX12 85 "NearEnoughModel" "cKind" "[I") (List.mem_of_getElem? (i := 5) rfl)) (fun _ h9 => h9) rfl dX12_work_276 ?_
        refine lv_iload hx hb dX12_work_279 (lv_at hl 6 rfl) ?_
        have o54 : 0 ≤ ch9.toInt := by omega
        have o55 : ch9.toInt < ((12 : Nat) : Int) := by omega
        refine va_iald hx hb hK hP 24 23 rfl rfl (ti_inx o54 o55) dX12_work_281 ?_
        refine lv_topi (fun z67_ ez67_ => ?_)
        have gz67_ : z67_.toInt = ((σ.2.1 34) (Int32.toNatClampNeg ch9)).toInt := congrArg Int32.toInt (ez67_.trans (congrFun rfl (Int32.toNatClampNeg ch9)))
        have bz67_ : 0 ≤ z67_.toInt ∧ z67_.toInt ≤ 6 := by rw [ez67_]; exact (hI.2 34) _ (cl_lt (n := 12) o54 o55)
        refine lv_iconst (v := 2) hx hb dX12_work_282 rg_19 ?_
        refine lv_icmp_ne (tgt := 304) hx hb dX12_work_283 rfl (fun c68_ => ?_) (fun c68_ => ?_)
        · have tc68_ := (show z67_.toInt ≠ 2 from ti_ne rfl rg_20 c68_)
          refine lv_aload hx hb dX12_work_304 (lv_at hl 5 rfl) ?_
          refine lv_aload_n hx hb dX12_work_306 rfl (lv_at hl 1 rfl) ?_
          refine va_get (D := (dC, dI)) (ci := 12) (v := .ref (ad 20)) (C := RX12) (T := TX12) (N := 59) hx hb hts hin12 hown hK hP 0 rfl rfl 20 (Nat.le_of_ble_eq_true rfl) (ho (.fieldLink RX12 48 "NearEnoughModel" "sC" "[I") (List.mem_of_getElem? (i := 1) rfl)) (fun _ h9 => h9) rfl dX12_work_307 ?_
          refine lv_iload hx hb dX12_work_310 (lv_at hl 0 rfl) ?_
          refine va_iald hx hb hK hP 12 11 rfl rfl (ti_inx o4 o5) dX12_work_312 ?_
          refine lv_topi (fun z69_ ez69_ => ?_)
          have gz69_ : z69_.toInt = ((σ.2.1 20) (Int32.toNatClampNeg z2_)).toInt := congrArg Int32.toInt (ez69_.trans (congrFun rfl (Int32.toNatClampNeg z2_)))
          have bz69_ : (-1) ≤ z69_.toInt ∧ z69_.toInt ≤ 99 := by rw [ez69_]; exact (hI.2 20) _ (cl_lt (n := 24) o4 o5)
          have o56 : 0 ≤ z69_.toInt := by omega
          have o57 : z69_.toInt < ((12 : Nat) : Int) := by omega
          refine va_lald hx hb hK hP 29 28 rfl rfl (ti_inx o56 o57) dX12_work_313 ?_
          refine lv_topl (fun y70_ ey70_ => ?_)
          refine lv_aload hx hb dX12_work_314 (lv_at hl 5 rfl) ?_
          refine lv_aload_n hx hb dX12_work_316 rfl (lv_at hl 1 rfl) ?_
          refine va_get (D := (dC, dI)) (ci := 12) (v := .ref (ad 21)) (C := RX12) (T := TX12) (N := 59) hx hb hts hin12 hown hK hP 0 rfl rfl 21 (Nat.le_of_ble_eq_true rfl) (ho (.fieldLink RX12 51 "NearEnoughModel" "sD" "[I") (List.mem_of_getElem? (i := 2) rfl)) (fun _ h9 => h9) rfl dX12_work_317 ?_
          refine lv_iload hx hb dX12_work_320 (lv_at hl 0 rfl) ?_
          refine va_iald hx hb hK hP 13 12 rfl rfl (ti_inx o4 o5) dX12_work_322 ?_
          refine lv_topi (fun z71_ ez71_ => ?_)
          have gz71_ : z71_.toInt = ((σ.2.1 21) (Int32.toNatClampNeg z2_)).toInt := congrArg Int32.toInt (ez71_.trans (congrFun rfl (Int32.toNatClampNeg z2_)))
          have bz71_ : (-1) ≤ z71_.toInt ∧ z71_.toInt ≤ 11 := by rw [ez71_]; exact (hI.2 21) _ (cl_lt (n := 24) o4 o5)
          have o58 : 0 ≤ z71_.toInt := by omega
          have o59 : z71_.toInt < ((12 : Nat) : Int) := by omega
          refine va_lald hx hb hK hP 29 28 rfl rfl (ti_inx o58 o59) dX12_work_323 ?_
          refine lv_topl (fun y72_ ey72_ => ?_)
          refine W.lcmp hx hb dX12_work_324 ?_
          refine lv_topi (fun z73_ ez73_ => ?_)
          refine lv_if_ge (tgt := 332) hx hb dX12_work_325 rfl (fun c74_ => ?_) (fun c74_ => ?_)
          · have tc74_ := (show 0 ≤ z73_.toInt from ti_le rg_11 rfl c74_)
            have lc74_ : y72_ ≤ y70_ := (lg_cmp_ge y70_ y72_).mp (by rw [← ez73_]; exact c74_)
            refine lv_iconst (v := 0) hx hb dX12_work_332 rg_0 ?_
            refine lv_istore (lv' := [(7, .int 0), (6, .int z2_), (0, .ref h), (1, .int st9), (2, .ref (ad 31)), (3, .int base), (4, .ref (ad 41)), (5, .int ch9)]) hx hb dX12_work_333 hl (Nat.le_of_ble_eq_true rfl) rfl (fun ls hl => ?_)
            refine lv_iload hx hb dX12_work_335 (lv_at hl 0 rfl) ?_
            refine lv_if_eq (tgt := 353) hx hb dX12_work_337 rfl (fun _ => ?_) (fun cc => absurd (by decide) cc)
            refine lv_aload hx hb dX12_work_353 (lv_at hl 6 rfl) ?_
            refine lv_aload_n hx hb dX12_work_355 rfl (lv_at hl 2 rfl) ?_
            refine va_get (D := (dC, dI)) (ci := 12) (v := .ref (ad 19)) (C := RX12) (T := TX12) (N := 59) hx hb hts hin12 hown hK hP 0 rfl rfl 19 (Nat.le_of_ble_eq_true rfl) (ho (.fieldLink RX12 45 "NearEnoughModel" "sB" "[I") (List.mem_of_getElem? (i := 3) rfl)) (fun _ h9 => h9) rfl dX12_work_356 ?_
            refine lv_iload hx hb dX12_work_359 (lv_at hl 1 rfl) ?_
            refine va_iald hx hb hK hP 11 10 rfl rfl (ti_inx o4 o5) dX12_work_361 ?_
            refine lv_topi (fun z75_ ez75_ => ?_)
            have gz75_ : z75_.toInt = ((σ.2.1 19) (Int32.toNatClampNeg z2_)).toInt := congrArg Int32.toInt (ez75_.trans (congrFun rfl (Int32.toNatClampNeg z2_)))
            have bz75_ : (-99) ≤ z75_.toInt ∧ z75_.toInt ≤ 99 := by rw [ez75_]; exact (hI.2 19) _ (cl_lt (n := 24) o4 o5)
            have o60 : 0 ≤ z75_.toInt := by omega
            have o61 : z75_.toInt < ((12 : Nat) : Int) := by omega
            refine va_lald hx hb hK hP 29 28 rfl rfl (ti_inx o60 o61) dX12_work_362 ?_
            refine lv_topl (fun y76_ ey76_ => ?_)
            rw [hQ]
            have o62 : (σ.2.1 17 (Int32.toNatClampNeg z2_)).toInt = 7 := by omega
            have K77_ : (σ.2.1 17 (12 * (σ.1 29).toNatClampNeg + st9.toNatClampNeg)).toInt = 7 := by rw [← Xz2_]; exact o62
            have o63 : ¬ (0 ≤ ch9.toInt ∧ (σ.2.1 34 (Int32.toNatClampNeg ch9)).toInt = 2) := by omega
            have L79_ : ¬ ((σ.2.2.1 41) (σ.2.1 20 (12 * (σ.1 29).toNatClampNeg + st9.toNatClampNeg)).toNatClampNeg < (σ.2.2.1 41) (σ.2.1 21 (12 * (σ.1 29).toNatClampNeg + st9.toNatClampNeg)).toNatClampNeg) := by rw [← Xz2_, ← ez69_, ← ez71_, ← ey70_, ← ey72_]; exact Int64.not_lt.mpr lc74_
            have R78_ : y76_ = wkF (σ.1 29).toNatClampNeg (cor σ) true (σ.2.1 31) (σ.2.2.1 41) st9.toNatClampNeg base ch9 := by rw [wk_7 (T := cor σ) K77_]; rw [if_neg (show ¬ OnK (cor σ) ch9 2 from o63), if_neg (show ¬ ((σ.2.2.1 41) (cor σ 20 (12 * (σ.1 29).toNatClampNeg + st9.toNatClampNeg)).toNatClampNeg < (σ.2.2.1 41) (cor σ 21 (12 * (σ.1 29).toNatClampNeg + st9.toNatClampNeg)).toNatClampNeg) from L79_)]; simp only [ez4_, ez67_, ez69_, ey70_, ez71_, ey72_, ez73_, ez75_, ey76_, Xz2_] <;> rfl
            exact W.lret (v := y76_) hx hb hr (fun t ht hW => ⟨⟨y76_, σ, rfl, ⟨rfl, R78_⟩, wEn_of hP (hK.sub [] rfl) hD ht hW⟩, hS.F ht⟩) hS.2.2 dX12_work_363
          · have tc74_ := (show z73_.toInt < 0 from ti_nle rg_11 rfl c74_)
            have lc74_ : ¬ y72_ ≤ y70_ := fun h => c74_ (by rw [ez73_]; exact (lg_cmp_ge y70_ y72_).mpr h)
            refine lv_iconst (v := 1) hx hb dX12_work_328 rg_6 ?_
            refine lv_goto (tgt := 333) hx hb dX12_work_329 rfl ?_
            refine lv_istore (lv' := [(7, .int 1), (6, .int z2_), (0, .ref h), (1, .int st9), (2, .ref (ad 31)), (3, .int base), (4, .ref (ad 41)), (5, .int ch9)]) hx hb dX12_work_333 hl (Nat.le_of_ble_eq_true rfl) rfl (fun ls hl => ?_)
            refine lv_iload hx hb dX12_work_335 (lv_at hl 0 rfl) ?_
            refine lv_if_eq (tgt := 353) hx hb dX12_work_337 rfl (fun cc => absurd cc (by decide)) (fun _ => ?_)
            refine lv_aload hx hb dX12_work_340 (lv_at hl 6 rfl) ?_
            refine lv_aload_n hx hb dX12_work_342 rfl (lv_at hl 2 rfl) ?_
            refine va_get (D := (dC, dI)) (ci := 12) (v := .ref (ad 18)) (C := RX12) (T := TX12) (N := 59) hx hb hts hin12 hown hK hP 0 rfl rfl 18 (Nat.le_of_ble_eq_true rfl) (ho (.fieldLink RX12 42 "NearEnoughModel" "sA" "[I") (List.mem_of_getElem? (i := 4) rfl)) (fun _ h9 => h9) rfl dX12_work_343 ?_
            refine lv_iload hx hb dX12_work_346 (lv_at hl 1 rfl) ?_
            refine va_iald hx hb hK hP 10 9 rfl rfl (ti_inx o4 o5) dX12_work_348 ?_
            refine lv_topi (fun z80_ ez80_ => ?_)
            have gz80_ : z80_.toInt = ((σ.2.1 18) (Int32.toNatClampNeg z2_)).toInt := congrArg Int32.toInt (ez80_.trans (congrFun rfl (Int32.toNatClampNeg z2_)))
            have bz80_ : (-1) ≤ z80_.toInt ∧ z80_.toInt ≤ 11 := by rw [ez80_]; exact (hI.2 18) _ (cl_lt (n := 24) o4 o5)
            have o64 : 0 ≤ z80_.toInt := by omega
            have o65 : z80_.toInt < ((12 : Nat) : Int) := by omega
            refine va_lald hx hb hK hP 29 28 rfl rfl (ti_inx o64 o65) dX12_work_349 ?_
            refine lv_topl (fun y81_ ey81_ => ?_)
            refine lv_goto (tgt := 363) hx hb dX12_work_350 rfl ?_
            rw [hQ]
            have o66 : (σ.2.1 17 (Int32.toNatClampNeg z2_)).toInt = 7 := by omega
            have K82_ : (σ.2.1 17 (12 * (σ.1 29).toNatClampNeg + st9.toNatClampNeg)).toInt = 7 := by rw [← Xz2_]; exact o66
            have o67 : ¬ (0 ≤ ch9.toInt ∧ (σ.2.1 34 (Int32.toNatClampNeg ch9)).toInt = 2) := by omega
            have L84_ : (σ.2.2.1 41) (σ.2.1 20 (12 * (σ.1 29).toNatClampNeg + st9.toNatClampNeg)).toNatClampNeg < (σ.2.2.1 41) (σ.2.1 21 (12 * (σ.1 29).toNatClampNeg + st9.toNatClampNeg)).toNatClampNeg := by rw [← Xz2_, ← ez69_, ← ez71_, ← ey70_, ← ey72_]; exact Int64.not_le.mp lc74_
            have R83_ : y81_ = wkF (σ.1 29).toNatClampNeg (cor σ) true (σ.2.1 31) (σ.2.2.1 41) st9.toNatClampNeg base ch9 := by rw [wk_7 (T := cor σ) K82_]; rw [if_neg (show ¬ OnK (cor σ) ch9 2 from o67), if_pos (show (σ.2.2.1 41) (cor σ 20 (12 * (σ.1 29).toNatClampNeg + st9.toNatClampNeg)).toNatClampNeg < (σ.2.2.1 41) (cor σ 21 (12 * (σ.1 29).toNatClampNeg + st9.toNatClampNeg)).toNatClampNeg from L84_)]; simp only [ez4_, ez67_, ez69_, ey70_, ez71_, ey72_, ez73_, ez80_, ey81_, Xz2_] <;> rfl
            exact W.lret (v := y81_) hx hb hr (fun t ht hW => ⟨⟨y81_, σ, rfl, ⟨rfl, R83_⟩, wEn_of hP (hK.sub [] rfl) hD ht hW⟩, hS.F ht⟩) hS.2.2 dX12_work_363
        · have tc68_ := (show z67_.toInt = 2 from ti_eq rfl rg_20 c68_)
          refine lv_aload_n hx hb dX12_work_286 rfl (lv_at hl 1 rfl) ?_
          refine va_get (D := (dC, dI)) (ci := 12) (v := .ref (ad 35)) (C := RX12) (T := TX12) (N := 59) hx hb hts hin12 hown hK hP 0 rfl rfl 35 (Nat.le_of_ble_eq_true rfl) (ho (.fieldLink RX12 88 "NearEnoughModel" "cN" "[I") (List.mem_of_getElem? (i := 6) rfl)) (fun _ h9 => h9) rfl dX12_work_287 ?_
          refine lv_iload hx hb dX12_work_290 (lv_at hl 6 rfl) ?_
          refine va_iald hx hb hK hP 25 24 rfl rfl (ti_inx o54 o55) dX12_work_292 ?_
          refine lv_topi (fun z85_ ez85_ => ?_)
          have gz85_ : z85_.toInt = ((σ.2.1 35) (Int32.toNatClampNeg ch9)).toInt := congrArg Int32.toInt (ez85_.trans (congrFun rfl (Int32.toNatClampNeg ch9)))
          have bz85_ : 0 ≤ z85_.toInt ∧ z85_.toInt ≤ 99 := by rw [ez85_]; exact (hI.2 35) _ (cl_lt (n := 12) o54 o55)
          refine lv_if_ne (tgt := 300) hx hb dX12_work_293 rfl (fun c86_ => ?_) (fun c86_ => ?_)
          · have tc86_ := (show z85_.toInt ≠ 0 from ti_ne rfl rg_11 c86_)
            refine lv_iconst (v := 0) hx hb dX12_work_300 rg_0 ?_
            refine lv_goto (tgt := 333) hx hb dX12_work_301 rfl ?_
            refine lv_istore (lv' := [(7, .int 0), (6, .int z2_), (0, .ref h), (1, .int st9), (2, .ref (ad 31)), (3, .int base), (4, .ref (ad 41)), (5, .int ch9)]) hx hb dX12_work_333 hl (Nat.le_of_ble_eq_true rfl) rfl (fun ls hl => ?_)
            refine lv_iload hx hb dX12_work_335 (lv_at hl 0 rfl) ?_
            refine lv_if_eq (tgt := 353) hx hb dX12_work_337 rfl (fun _ => ?_) (fun cc => absurd (by decide) cc)
            refine lv_aload hx hb dX12_work_353 (lv_at hl 6 rfl) ?_
            refine lv_aload_n hx hb dX12_work_355 rfl (lv_at hl 2 rfl) ?_
            refine va_get (D := (dC, dI)) (ci := 12) (v := .ref (ad 19)) (C := RX12) (T := TX12) (N := 59) hx hb hts hin12 hown hK hP 0 rfl rfl 19 (Nat.le_of_ble_eq_true rfl) (ho (.fieldLink RX12 45 "NearEnoughModel" "sB" "[I") (List.mem_of_getElem? (i := 3) rfl)) (fun _ h9 => h9) rfl dX12_work_356 ?_
            refine lv_iload hx hb dX12_work_359 (lv_at hl 1 rfl) ?_
            refine va_iald hx hb hK hP 11 10 rfl rfl (ti_inx o4 o5) dX12_work_361 ?_
            refine lv_topi (fun z87_ ez87_ => ?_)
            have gz87_ : z87_.toInt = ((σ.2.1 19) (Int32.toNatClampNeg z2_)).toInt := congrArg Int32.toInt (ez87_.trans (congrFun rfl (Int32.toNatClampNeg z2_)))
            have bz87_ : (-99) ≤ z87_.toInt ∧ z87_.toInt ≤ 99 := by rw [ez87_]; exact (hI.2 19) _ (cl_lt (n := 24) o4 o5)
            have o68 : 0 ≤ z87_.toInt := by omega
            have o69 : z87_.toInt < ((12 : Nat) : Int) := by omega
            refine va_lald hx hb hK hP 29 28 rfl rfl (ti_inx o68 o69) dX12_work_362 ?_
            refine lv_topl (fun y88_ ey88_ => ?_)
            rw [hQ]
            have o70 : (σ.2.1 17 (Int32.toNatClampNeg z2_)).toInt = 7 := by omega
            have K89_ : (σ.2.1 17 (12 * (σ.1 29).toNatClampNeg + st9.toNatClampNeg)).toInt = 7 := by rw [← Xz2_]; exact o70
            have o71 : 0 ≤ ch9.toInt ∧ (σ.2.1 34 (Int32.toNatClampNeg ch9)).toInt = 2 := by omega
            have o72 : ¬ (σ.2.1 35 (Int32.toNatClampNeg ch9)).toInt = 0 := by omega
            have R90_ : y88_ = wkF (σ.1 29).toNatClampNeg (cor σ) true (σ.2.1 31) (σ.2.2.1 41) st9.toNatClampNeg base ch9 := by rw [wk_7 (T := cor σ) K89_]; rw [if_pos (show OnK (cor σ) ch9 2 from o71), if_neg (show ¬ (cor σ 35 (Int32.toNatClampNeg ch9)).toInt = 0 from o72)]; simp only [ez4_, ez67_, ez85_, ez87_, ey88_, Xz2_] <;> rfl
            exact W.lret (v := y88_) hx hb hr (fun t ht hW => ⟨⟨y88_, σ, rfl, ⟨rfl, R90_⟩, wEn_of hP (hK.sub [] rfl) hD ht hW⟩, hS.F ht⟩) hS.2.2 dX12_work_363
          · have tc86_ := (show z85_.toInt = 0 from ti_eq rfl rg_11 c86_)
            refine lv_iconst (v := 1) hx hb dX12_work_296 rg_6 ?_
            refine lv_goto (tgt := 333) hx hb dX12_work_297 rfl ?_
            refine lv_istore (lv' := [(7, .int 1), (6, .int z2_), (0, .ref h), (1, .int st9), (2, .ref (ad 31)), (3, .int base), (4, .ref (ad 41)), (5, .int ch9)]) hx hb dX12_work_333 hl (Nat.le_of_ble_eq_true rfl) rfl (fun ls hl => ?_)
            refine lv_iload hx hb dX12_work_335 (lv_at hl 0 rfl) ?_
            refine lv_if_eq (tgt := 353) hx hb dX12_work_337 rfl (fun cc => absurd cc (by decide)) (fun _ => ?_)
            refine lv_aload hx hb dX12_work_340 (lv_at hl 6 rfl) ?_
            refine lv_aload_n hx hb dX12_work_342 rfl (lv_at hl 2 rfl) ?_
            refine va_get (D := (dC, dI)) (ci := 12) (v := .ref (ad 18)) (C := RX12) (T := TX12) (N := 59) hx hb hts hin12 hown hK hP 0 rfl rfl 18 (Nat.le_of_ble_eq_true rfl) (ho (.fieldLink RX12 42 "NearEnoughModel" "sA" "[I") (List.mem_of_getElem? (i := 4) rfl)) (fun _ h9 => h9) rfl dX12_work_343 ?_
            refine lv_iload hx hb dX12_work_346 (lv_at hl 1 rfl) ?_
            refine va_iald hx hb hK hP 10 9 rfl rfl (ti_inx o4 o5) dX12_work_348 ?_
            refine lv_topi (fun z91_ ez91_ => ?_)
            have gz91_ : z91_.toInt = ((σ.2.1 18) (Int32.toNatClampNeg z2_)).toInt := congrArg Int32.toInt (ez91_.trans (congrFun rfl (Int32.toNatClampNeg z2_)))
            have bz91_ : (-1) ≤ z91_.toInt ∧ z91_.toInt ≤ 11 := by rw [ez91_]; exact (hI.2 18) _ (cl_lt (n := 24) o4 o5)
            have o73 : 0 ≤ z91_.toInt := by omega
            have o74 : z91_.toInt < ((12 : Nat) : Int) := by omega
            refine va_lald hx hb hK hP 29 28 rfl rfl (ti_inx o73 o74) dX12_work_349 ?_
            refine lv_topl (fun y92_ ey92_ => ?_)
            refine lv_goto (tgt := 363) hx hb dX12_work_350 rfl ?_
            rw [hQ]
            have o75 : (σ.2.1 17 (Int32.toNatClampNeg z2_)).toInt = 7 := by omega
            have K93_ : (σ.2.1 17 (12 * (σ.1 29).toNatClampNeg + st9.toNatClampNeg)).toInt = 7 := by rw [← Xz2_]; exact o75
            have o76 : 0 ≤ ch9.toInt ∧ (σ.2.1 34 (Int32.toNatClampNeg ch9)).toInt = 2 := by omega
            have o77 : (σ.2.1 35 (Int32.toNatClampNeg ch9)).toInt = 0 := by omega
            have R94_ : y92_ = wkF (σ.1 29).toNatClampNeg (cor σ) true (σ.2.1 31) (σ.2.2.1 41) st9.toNatClampNeg base ch9 := by rw [wk_7 (T := cor σ) K93_]; rw [if_pos (show OnK (cor σ) ch9 2 from o76), if_pos (show (cor σ 35 (Int32.toNatClampNeg ch9)).toInt = 0 from o77)]; simp only [ez4_, ez67_, ez85_, ez91_, ey92_, Xz2_] <;> rfl
            exact W.lret (v := y92_) hx hb hr (fun t ht hW => ⟨⟨y92_, σ, rfl, ⟨rfl, R94_⟩, wEn_of hP (hK.sub [] rfl) hD ht hW⟩, hS.F ht⟩) hS.2.2 dX12_work_363
    · rcases (show z4_.toInt = 0 ∨ z4_.toInt = 1 ∨ z4_.toInt = 2 ∨ z4_.toInt = 3 ∨ z4_.toInt = 4 ∨ z4_.toInt = 5 ∨ z4_.toInt = 6 by omega) with t_sw | t_sw | t_sw | t_sw | t_sw | t_sw | t_sw
      · refine lv_tableIn (tgt := 56) (off := 42) hx hb dX12_work_14 (by rw [t_sw]; decide) (by rw [t_sw]; decide) (by rw [t_sw]; decide) (by decide) ?_
        refine lv_aload_n hx hb dX12_work_56 rfl (lv_at hl 1 rfl) ?_
        refine lv_iload_n hx hb dX12_work_57 rfl (lv_at hl 2 rfl) ?_
        refine lv_aload_n hx hb dX12_work_58 rfl (lv_at hl 3 rfl) ?_
        refine lv_iload_n hx hb dX12_work_59 rfl (lv_at hl 4 rfl) ?_
        refine lv_iload hx hb dX12_work_60 (lv_at hl 6 rfl) ?_
        have o78 : 0 ≤ base.toInt := by omega
        have o79 : base.toInt ≤ 468 := by omega
        have o80 : (σ.2.1 17 (Int32.toNatClampNeg z2_)).toInt = 0 ∨ (σ.2.1 17 (Int32.toNatClampNeg z2_)).toInt = 1 ∨ (σ.2.1 17 (Int32.toNatClampNeg z2_)).toInt = 6 := by omega
        have K95_ : (σ.2.1 17 (12 * (σ.1 29).toNatClampNeg + st9.toNatClampNeg)).toInt = 0 ∨ (σ.2.1 17 (12 * (σ.1 29).toNatClampNeg + st9.toNatClampNeg)).toInt = 1 ∨ (σ.2.1 17 (12 * (σ.1 29).toNatClampNeg + st9.toNatClampNeg)).toInt = 6 := by rw [← Xz2_]; exact o80
        have o81 : base.toInt = 0 ∨ 12 ≤ base.toInt := by omega
        refine zy_l (va_runV (As := [.int st9, .ref (ad 31), .int base, .int ch9]) (rest := []) ⟨hx, hb, hml, hown, hts⟩ (n_ofRow_n l dC dI h ad cl H.size σ st9 base ch9 hI ⟨o1, o2⟩ ⟨o78, o79⟩ (show base.toInt = 0 ∨ 12 ≤ base.toInt from o81) hch0 (WkOk.row hI hwk K95_)) (cwV 4 hts gd_n_work_nc_360_n_ofRow_n rfl rfl rfl dd_n_ofRow_n ⟨Nat.le_of_ble_eq_true rfl, Nat.le_of_ble_eq_true rfl⟩) (preV hP hK hD hE (ci := 12) (q0 := 0) rfl rfl) rfl rfl hl.1 rfl (lv_room (Nat.le_of_ble_eq_true rfl)) dX12_work_62 ⟨Nat.le_of_ble_eq_true rfl, Nat.le_of_ble_eq_true rfl⟩) hD hS hA (fun y97_ τ96_ H locs hq hP hD hS => ?_)
        obtain ⟨rfl, f98_⟩ := hq
        refine W.widen (k := 0) (n := 0) (Nat.le_of_ble_eq_true rfl) (Nat.le_of_ble_eq_true rfl) ?_
        rw [hQ]
        have o82 : (σ.2.1 17 (Int32.toNatClampNeg z2_)).toInt = 0 ∨ (σ.2.1 17 (Int32.toNatClampNeg z2_)).toInt = 1 := by omega
        have K99_ : (σ.2.1 17 (12 * (σ.1 29).toNatClampNeg + st9.toNatClampNeg)).toInt = 0 ∨ (σ.2.1 17 (12 * (σ.1 29).toNatClampNeg + st9.toNatClampNeg)).toInt = 1 := by rw [← Xz2_]; exact o82
        exact W.lret (v := y97_) hx hb hr (fun t ht hW => ⟨⟨y97_, σ, rfl, ⟨rfl, (f98_.trans (wk_0 (T := cor σ) K99_).symm)⟩, wEn_of hP (hK.sub [] rfl) hD ht hW⟩, hS.F ht⟩) hS.2.2 dX12_work_65
      · refine lv_tableIn (tgt := 56) (off := 42) hx hb dX12_work_14 (by rw [t_sw]; decide) (by rw [t_sw]; decide) (by rw [t_sw]; decide) (by decide) ?_
        refine lv_aload_n hx hb dX12_work_56 rfl (lv_at hl 1 rfl) ?_
        refine lv_iload_n hx hb dX12_work_57 rfl (lv_at hl 2 rfl) ?_
        refine lv_aload_n hx hb dX12_work_58 rfl (lv_at hl 3 rfl) ?_
        refine lv_iload_n hx hb dX12_work_59 rfl (lv_at hl 4 rfl) ?_
        refine lv_iload hx hb dX12_work_60 (lv_at hl 6 rfl) ?_
        have o83 : 0 ≤ base.toInt := by omega
        have o84 : base.toInt ≤ 468 := by omega
        have o85 : (σ.2.1 17 (Int32.toNatClampNeg z2_)).toInt = 0 ∨ (σ.2.1 17 (Int32.toNatClampNeg z2_)).toInt = 1 ∨ (σ.2.1 17 (Int32.toNatClampNeg z2_)).toInt = 6 := by omega
        have K100_ : (σ.2.1 17 (12 * (σ.1 29).toNatClampNeg + st9.toNatClampNeg)).toInt = 0 ∨ (σ.2.1 17 (12 * (σ.1 29).toNatClampNeg + st9.toNatClampNeg)).toInt = 1 ∨ (σ.2.1 17 (12 * (σ.1 29).toNatClampNeg + st9.toNatClampNeg)).toInt = 6 := by rw [← Xz2_]; exact o85
        have o86 : base.toInt = 0 ∨ 12 ≤ base.toInt := by omega
        refine zy_l (va_runV (As := [.int st9, .ref (ad 31), .int base, .int ch9]) (rest := []) ⟨hx, hb, hml, hown, hts⟩ (n_ofRow_n l dC dI h ad cl H.size σ st9 base ch9 hI ⟨o1, o2⟩ ⟨o83, o84⟩ (show base.toInt = 0 ∨ 12 ≤ base.toInt from o86) hch0 (WkOk.row hI hwk K100_)) (cwV 4 hts gd_n_work_nc_360_n_ofRow_n rfl rfl rfl dd_n_ofRow_n ⟨Nat.le_of_ble_eq_true rfl, Nat.le_of_ble_eq_true rfl⟩) (preV hP hK hD hE (ci := 12) (q0 := 0) rfl rfl) rfl rfl hl.1 rfl (lv_room (Nat.le_of_ble_eq_true rfl)) dX12_work_62 ⟨Nat.le_of_ble_eq_true rfl, Nat.le_of_ble_eq_true rfl⟩) hD hS hA (fun y102_ τ101_ H locs hq hP hD hS => ?_)
        obtain ⟨rfl, f103_⟩ := hq
        refine W.widen (k := 0) (n := 0) (Nat.le_of_ble_eq_true rfl) (Nat.le_of_ble_eq_true rfl) ?_
        rw [hQ]
        have o87 : (σ.2.1 17 (Int32.toNatClampNeg z2_)).toInt = 0 ∨ (σ.2.1 17 (Int32.toNatClampNeg z2_)).toInt = 1 := by omega
        have K104_ : (σ.2.1 17 (12 * (σ.1 29).toNatClampNeg + st9.toNatClampNeg)).toInt = 0 ∨ (σ.2.1 17 (12 * (σ.1 29).toNatClampNeg + st9.toNatClampNeg)).toInt = 1 := by rw [← Xz2_]; exact o87
        exact W.lret (v := y102_) hx hb hr (fun t ht hW => ⟨⟨y102_, σ, rfl, ⟨rfl, (f103_.trans (wk_0 (T := cor σ) K104_).symm)⟩, wEn_of hP (hK.sub [] rfl) hD ht hW⟩, hS.F ht⟩) hS.2.2 dX12_work_65
      · refine lv_tableIn (tgt := 66) (off := 52) hx hb dX12_work_14 (by rw [t_sw]; decide) (by rw [t_sw]; decide) (by rw [t_sw]; decide) (by decide) ?_
        refine lv_aload hx hb dX12_work_66 (lv_at hl 5 rfl) ?_
        refine lv_aload_n hx hb dX12_work_68 rfl (lv_at hl 1 rfl) ?_
        refine va_get (D := (dC, dI)) (ci := 12) (v := .ref (ad 18)) (C := RX12) (T := TX12) (N := 59) hx hb hts hin12 hown hK hP 0 rfl rfl 18 (Nat.le_of_ble_eq_true rfl) (ho (.fieldLink RX12 42 "NearEnoughModel" "sA" "[I") (List.mem_of_getElem? (i := 4) rfl)) (fun _ h9 => h9) rfl dX12_work_69 ?_
        refine lv_iload hx hb dX12_work_72 (lv_at hl 0 rfl) ?_
        refine va_iald hx hb hK hP 10 9 rfl rfl (ti_inx o4 o5) dX12_work_74 ?_
        refine lv_topi (fun z105_ ez105_ => ?_)
        have gz105_ : z105_.toInt = ((σ.2.1 18) (Int32.toNatClampNeg z2_)).toInt := congrArg Int32.toInt (ez105_.trans (congrFun rfl (Int32.toNatClampNeg z2_)))
        have bz105_ : (-1) ≤ z105_.toInt ∧ z105_.toInt ≤ 11 := by rw [ez105_]; exact (hI.2 18) _ (cl_lt (n := 24) o4 o5)
        have o88 : 0 ≤ z105_.toInt := by omega
        have o89 : z105_.toInt < ((12 : Nat) : Int) := by omega
        refine va_lald hx hb hK hP 29 28 rfl rfl (ti_inx o88 o89) dX12_work_75 ?_
        refine lv_topl (fun y106_ ey106_ => ?_)
        refine lv_aload hx hb dX12_work_76 (lv_at hl 5 rfl) ?_
        refine lv_aload_n hx hb dX12_work_78 rfl (lv_at hl 1 rfl) ?_
        refine va_get (D := (dC, dI)) (ci := 12) (v := .ref (ad 19)) (C := RX12) (T := TX12) (N := 59) hx hb hts hin12 hown hK hP 0 rfl rfl 19 (Nat.le_of_ble_eq_true rfl) (ho (.fieldLink RX12 45 "NearEnoughModel" "sB" "[I") (List.mem_of_getElem? (i := 3) rfl)) (fun _ h9 => h9) rfl dX12_work_79 ?_
        refine lv_iload hx hb dX12_work_82 (lv_at hl 0 rfl) ?_
        refine va_iald hx hb hK hP 11 10 rfl rfl (ti_inx o4 o5) dX12_work_84 ?_
        refine lv_topi (fun z107_ ez107_ => ?_)
        have gz107_ : z107_.toInt = ((σ.2.1 19) (Int32.toNatClampNeg z2_)).toInt := congrArg Int32.toInt (ez107_.trans (congrFun rfl (Int32.toNatClampNeg z2_)))
        have bz107_ : (-99) ≤ z107_.toInt ∧ z107_.toInt ≤ 99 := by rw [ez107_]; exact (hI.2 19) _ (cl_lt (n := 24) o4 o5)
        have o90 : 0 ≤ z107_.toInt := by omega
        have o91 : z107_.toInt < ((12 : Nat) : Int) := by omega
        refine va_lald hx hb hK hP 29 28 rfl rfl (ti_inx o90 o91) dX12_work_85 ?_
        refine lv_topl (fun y108_ ey108_ => ?_)
        refine lv_ladd hx hb dX12_work_86 ?_
        refine lv_topl (fun y109_ ey109_ => ?_)
        rw [hQ]
        have o92 : (σ.2.1 17 (Int32.toNatClampNeg z2_)).toInt = 2 := by omega
        have K110_ : (σ.2.1 17 (12 * (σ.1 29).toNatClampNeg + st9.toNatClampNeg)).toInt = 2 := by rw [← Xz2_]; exact o92
        have R111_ : y109_ = wkF (σ.1 29).toNatClampNeg (cor σ) true (σ.2.1 31) (σ.2.2.1 41) st9.toNatClampNeg base ch9 := by rw [wk_2 (T := cor σ) K110_]; simp only [ez4_, ez105_, ey106_, ez107_, ey108_, ey109_, Xz2_] <;> rfl
        exact W.lret (v := y109_) hx hb hr (fun t ht hW => ⟨⟨y109_, σ, rfl, ⟨rfl, R111_⟩, wEn_of hP (hK.sub [] rfl) hD ht hW⟩, hS.F ht⟩) hS.2.2 dX12_work_87
      · refine lv_tableIn (tgt := 88) (off := 74) hx hb dX12_work_14 (by rw [t_sw]; decide) (by rw [t_sw]; decide) (by rw [t_sw]; decide) (by decide) ?_
        refine lv_aload hx hb dX12_work_88 (lv_at hl 5 rfl) ?_
        refine lv_aload_n hx hb dX12_work_90 rfl (lv_at hl 1 rfl) ?_
        refine va_get (D := (dC, dI)) (ci := 12) (v := .ref (ad 18)) (C := RX12) (T := TX12) (N := 59) hx hb hts hin12 hown hK hP 0 rfl rfl 18 (Nat.le_of_ble_eq_true rfl) (ho (.fieldLink RX12 42 "NearEnoughModel" "sA" "[I") (List.mem_of_getElem? (i := 4) rfl)) (fun _ h9 => h9) rfl dX12_work_91 ?_
        refine lv_iload hx hb dX12_work_94 (lv_at hl 0 rfl) ?_
        refine va_iald hx hb hK hP 10 9 rfl rfl (ti_inx o4 o5) dX12_work_96 ?_
        refine lv_topi (fun z112_ ez112_ => ?_)
        have gz112_ : z112_.toInt = ((σ.2.1 18) (Int32.toNatClampNeg z2_)).toInt := congrArg Int32.toInt (ez112_.trans (congrFun rfl (Int32.toNatClampNeg z2_)))
        have bz112_ : (-1) ≤ z112_.toInt ∧ z112_.toInt ≤ 11 := by rw [ez112_]; exact (hI.2 18) _ (cl_lt (n := 24) o4 o5)
        have o93 : 0 ≤ z112_.toInt := by omega
        have o94 : z112_.toInt < ((12 : Nat) : Int) := by omega
        refine va_lald hx hb hK hP 29 28 rfl rfl (ti_inx o93 o94) dX12_work_97 ?_
        refine lv_topl (fun y113_ ey113_ => ?_)
        refine lv_aload hx hb dX12_work_98 (lv_at hl 5 rfl) ?_
        refine lv_aload_n hx hb dX12_work_100 rfl (lv_at hl 1 rfl) ?_
        refine va_get (D := (dC, dI)) (ci := 12) (v := .ref (ad 19)) (C := RX12) (T := TX12) (N := 59) hx hb hts hin12 hown hK hP 0 rfl rfl 19 (Nat.le_of_ble_eq_true rfl) (ho (.fieldLink RX12 45 "NearEnoughModel" "sB" "[I") (List.mem_of_getElem? (i := 3) rfl)) (fun _ h9 => h9) rfl dX12_work_101 ?_
        refine lv_iload hx hb dX12_work_104 (lv_at hl 0 rfl) ?_
        refine va_iald hx hb hK hP 11 10 rfl rfl (ti_inx o4 o5) dX12_work_106 ?_
        refine lv_topi (fun z114_ ez114_ => ?_)
        have gz114_ : z114_.toInt = ((σ.2.1 19) (Int32.toNatClampNeg z2_)).toInt := congrArg Int32.toInt (ez114_.trans (congrFun rfl (Int32.toNatClampNeg z2_)))
        have bz114_ : (-99) ≤ z114_.toInt ∧ z114_.toInt ≤ 99 := by rw [ez114_]; exact (hI.2 19) _ (cl_lt (n := 24) o4 o5)
        have o95 : 0 ≤ z114_.toInt := by omega
        have o96 : z114_.toInt < ((12 : Nat) : Int) := by omega
        refine va_lald hx hb hK hP 29 28 rfl rfl (ti_inx o95 o96) dX12_work_107 ?_
        refine lv_topl (fun y115_ ey115_ => ?_)
        refine lv_lsub hx hb dX12_work_108 ?_
        refine lv_topl (fun y116_ ey116_ => ?_)
        rw [hQ]
        have o97 : (σ.2.1 17 (Int32.toNatClampNeg z2_)).toInt = 3 := by omega
        have K117_ : (σ.2.1 17 (12 * (σ.1 29).toNatClampNeg + st9.toNatClampNeg)).toInt = 3 := by rw [← Xz2_]; exact o97
        have R118_ : y116_ = wkF (σ.1 29).toNatClampNeg (cor σ) true (σ.2.1 31) (σ.2.2.1 41) st9.toNatClampNeg base ch9 := by rw [wk_3 (T := cor σ) K117_]; simp only [ez4_, ez112_, ey113_, ez114_, ey115_, ey116_, Xz2_] <;> rfl
        exact W.lret (v := y116_) hx hb hr (fun t ht hW => ⟨⟨y116_, σ, rfl, ⟨rfl, R118_⟩, wEn_of hP (hK.sub [] rfl) hD ht hW⟩, hS.F ht⟩) hS.2.2 dX12_work_109
      · refine lv_tableIn (tgt := 110) (off := 96) hx hb dX12_work_14 (by rw [t_sw]; decide) (by rw [t_sw]; decide) (by rw [t_sw]; decide) (by decide) ?_
        refine lv_aload hx hb dX12_work_110 (lv_at hl 5 rfl) ?_
        refine lv_aload_n hx hb dX12_work_112 rfl (lv_at hl 1 rfl) ?_
        refine va_get (D := (dC, dI)) (ci := 12) (v := .ref (ad 18)) (C := RX12) (T := TX12) (N := 59) hx hb hts hin12 hown hK hP 0 rfl rfl 18 (Nat.le_of_ble_eq_true rfl) (ho (.fieldLink RX12 42 "NearEnoughModel" "sA" "[I") (List.mem_of_getElem? (i := 4) rfl)) (fun _ h9 => h9) rfl dX12_work_113 ?_
        refine lv_iload hx hb dX12_work_116 (lv_at hl 0 rfl) ?_
        refine va_iald hx hb hK hP 10 9 rfl rfl (ti_inx o4 o5) dX12_work_118 ?_
        refine lv_topi (fun z119_ ez119_ => ?_)
        have gz119_ : z119_.toInt = ((σ.2.1 18) (Int32.toNatClampNeg z2_)).toInt := congrArg Int32.toInt (ez119_.trans (congrFun rfl (Int32.toNatClampNeg z2_)))
        have bz119_ : (-1) ≤ z119_.toInt ∧ z119_.toInt ≤ 11 := by rw [ez119_]; exact (hI.2 18) _ (cl_lt (n := 24) o4 o5)
        have o98 : 0 ≤ z119_.toInt := by omega
        have o99 : z119_.toInt < ((12 : Nat) : Int) := by omega
        refine va_lald hx hb hK hP 29 28 rfl rfl (ti_inx o98 o99) dX12_work_119 ?_
        refine lv_topl (fun y120_ ey120_ => ?_)
        refine lv_aload hx hb dX12_work_120 (lv_at hl 5 rfl) ?_
        refine lv_aload_n hx hb dX12_work_122 rfl (lv_at hl 1 rfl) ?_
        refine va_get (D := (dC, dI)) (ci := 12) (v := .ref (ad 19)) (C := RX12) (T := TX12) (N := 59) hx hb hts hin12 hown hK hP 0 rfl rfl 19 (Nat.le_of_ble_eq_true rfl) (ho (.fieldLink RX12 45 "NearEnoughModel" "sB" "[I") (List.mem_of_getElem? (i := 3) rfl)) (fun _ h9 => h9) rfl dX12_work_123 ?_
        refine lv_iload hx hb dX12_work_126 (lv_at hl 0 rfl) ?_
        refine va_iald hx hb hK hP 11 10 rfl rfl (ti_inx o4 o5) dX12_work_128 ?_
        refine lv_topi (fun z121_ ez121_ => ?_)
        have gz121_ : z121_.toInt = ((σ.2.1 19) (Int32.toNatClampNeg z2_)).toInt := congrArg Int32.toInt (ez121_.trans (congrFun rfl (Int32.toNatClampNeg z2_)))
        have bz121_ : (-99) ≤ z121_.toInt ∧ z121_.toInt ≤ 99 := by rw [ez121_]; exact (hI.2 19) _ (cl_lt (n := 24) o4 o5)
        have o100 : 0 ≤ z121_.toInt := by omega
        have o101 : z121_.toInt < ((12 : Nat) : Int) := by omega
        refine va_lald hx hb hK hP 29 28 rfl rfl (ti_inx o100 o101) dX12_work_129 ?_
        refine lv_topl (fun y122_ ey122_ => ?_)
        refine lv_lmul hx hb dX12_work_130 ?_
        refine lv_topl (fun y123_ ey123_ => ?_)
        rw [hQ]
        have o102 : (σ.2.1 17 (Int32.toNatClampNeg z2_)).toInt = 4 := by omega
        have K124_ : (σ.2.1 17 (12 * (σ.1 29).toNatClampNeg + st9.toNatClampNeg)).toInt = 4 := by rw [← Xz2_]; exact o102
        have R125_ : y123_ = wkF (σ.1 29).toNatClampNeg (cor σ) true (σ.2.1 31) (σ.2.2.1 41) st9.toNatClampNeg base ch9 := by rw [wk_4 (T := cor σ) K124_]; simp only [ez4_, ez119_, ey120_, ez121_, ey122_, ey123_, Xz2_] <;> rfl
        exact W.lret (v := y123_) hx hb hr (fun t ht hW => ⟨⟨y123_, σ, rfl, ⟨rfl, R125_⟩, wEn_of hP (hK.sub [] rfl) hD ht hW⟩, hS.F ht⟩) hS.2.2 dX12_work_131
      · refine lv_tableIn (tgt := 132) (off := 118) hx hb dX12_work_14 (by rw [t_sw]; decide) (by rw [t_sw]; decide) (by rw [t_sw]; decide) (by decide) ?_
        refine lv_aload hx hb dX12_work_132 (lv_at hl 5 rfl) ?_
        refine lv_aload_n hx hb dX12_work_134 rfl (lv_at hl 1 rfl) ?_
        refine va_get (D := (dC, dI)) (ci := 12) (v := .ref (ad 18)) (C := RX12) (T := TX12) (N := 59) hx hb hts hin12 hown hK hP 0 rfl rfl 18 (Nat.le_of_ble_eq_true rfl) (ho (.fieldLink RX12 42 "NearEnoughModel" "sA" "[I") (List.mem_of_getElem? (i := 4) rfl)) (fun _ h9 => h9) rfl dX12_work_135 ?_
        refine lv_iload hx hb dX12_work_138 (lv_at hl 0 rfl) ?_
        refine va_iald hx hb hK hP 10 9 rfl rfl (ti_inx o4 o5) dX12_work_140 ?_
        refine lv_topi (fun z126_ ez126_ => ?_)
        have gz126_ : z126_.toInt = ((σ.2.1 18) (Int32.toNatClampNeg z2_)).toInt := congrArg Int32.toInt (ez126_.trans (congrFun rfl (Int32.toNatClampNeg z2_)))
        have bz126_ : (-1) ≤ z126_.toInt ∧ z126_.toInt ≤ 11 := by rw [ez126_]; exact (hI.2 18) _ (cl_lt (n := 24) o4 o5)
        have o103 : 0 ≤ z126_.toInt := by omega
        have o104 : z126_.toInt < ((12 : Nat) : Int) := by omega
        refine va_lald hx hb hK hP 29 28 rfl rfl (ti_inx o103 o104) dX12_work_141 ?_
        refine lv_topl (fun y127_ ey127_ => ?_)
        refine lv_aload_n hx hb dX12_work_142 rfl (lv_at hl 1 rfl) ?_
        refine va_get (D := (dC, dI)) (ci := 12) (v := .ref (ad 19)) (C := RX12) (T := TX12) (N := 59) hx hb hts hin12 hown hK hP 0 rfl rfl 19 (Nat.le_of_ble_eq_true rfl) (ho (.fieldLink RX12 45 "NearEnoughModel" "sB" "[I") (List.mem_of_getElem? (i := 3) rfl)) (fun _ h9 => h9) rfl dX12_work_143 ?_
        refine lv_iload hx hb dX12_work_146 (lv_at hl 0 rfl) ?_
        refine va_iald hx hb hK hP 11 10 rfl rfl (ti_inx o4 o5) dX12_work_148 ?_
        refine lv_topi (fun z128_ ez128_ => ?_)
        have gz128_ : z128_.toInt = ((σ.2.1 19) (Int32.toNatClampNeg z2_)).toInt := congrArg Int32.toInt (ez128_.trans (congrFun rfl (Int32.toNatClampNeg z2_)))
        have bz128_ : (-99) ≤ z128_.toInt ∧ z128_.toInt ≤ 99 := by rw [ez128_]; exact (hI.2 19) _ (cl_lt (n := 24) o4 o5)
        refine lv_i2l hx hb dX12_work_149 rfl ?_
        refine lv_topl (fun y129_ ey129_ => ?_)
        refine lv_lmul hx hb dX12_work_150 ?_
        refine lv_topl (fun y130_ ey130_ => ?_)
        refine lv_aload_n hx hb dX12_work_151 rfl (lv_at hl 1 rfl) ?_
        refine va_get (D := (dC, dI)) (ci := 12) (v := .ref (ad 20)) (C := RX12) (T := TX12) (N := 59) hx hb hts hin12 hown hK hP 0 rfl rfl 20 (Nat.le_of_ble_eq_true rfl) (ho (.fieldLink RX12 48 "NearEnoughModel" "sC" "[I") (List.mem_of_getElem? (i := 1) rfl)) (fun _ h9 => h9) rfl dX12_work_152 ?_
        refine lv_iload hx hb dX12_work_155 (lv_at hl 0 rfl) ?_
        refine va_iald hx hb hK hP 12 11 rfl rfl (ti_inx o4 o5) dX12_work_157 ?_
        refine lv_topi (fun z131_ ez131_ => ?_)
        have gz131_ : z131_.toInt = ((σ.2.1 20) (Int32.toNatClampNeg z2_)).toInt := congrArg Int32.toInt (ez131_.trans (congrFun rfl (Int32.toNatClampNeg z2_)))
        have bz131_ : (-1) ≤ z131_.toInt ∧ z131_.toInt ≤ 99 := by rw [ez131_]; exact (hI.2 20) _ (cl_lt (n := 24) o4 o5)
        refine lv_i2l hx hb dX12_work_158 rfl ?_
        refine lv_topl (fun y132_ ey132_ => ?_)
        have o105 : z131_.toInt ≠ 0 := by omega
        refine lv_ldiv hx hb dX12_work_159 (i2l_ne ey132_ o105) ?_
        refine lv_topl (fun y133_ ey133_ => ?_)
        rw [hQ]
        have o106 : (σ.2.1 17 (Int32.toNatClampNeg z2_)).toInt = 5 := by omega
        have K134_ : (σ.2.1 17 (12 * (σ.1 29).toNatClampNeg + st9.toNatClampNeg)).toInt = 5 := by rw [← Xz2_]; exact o106
        have R135_ : y133_ = wkF (σ.1 29).toNatClampNeg (cor σ) true (σ.2.1 31) (σ.2.2.1 41) st9.toNatClampNeg base ch9 := by rw [wk_5 (T := cor σ) K134_]; simp only [ez4_, ez126_, ey127_, ez128_, ey129_, ey130_, ez131_, ey132_, ey133_, Xz2_] <;> rfl
        exact W.lret (v := y133_) hx hb hr (fun t ht hW => ⟨⟨y133_, σ, rfl, ⟨rfl, R135_⟩, wEn_of hP (hK.sub [] rfl) hD ht hW⟩, hS.F ht⟩) hS.2.2 dX12_work_160
      · refine lv_tableIn (tgt := 161) (off := 147) hx hb dX12_work_14 (by rw [t_sw]; decide) (by rw [t_sw]; decide) (by rw [t_sw]; decide) (by decide) ?_
        refine lv_aload_n hx hb dX12_work_161 rfl (lv_at hl 1 rfl) ?_
        refine va_get (D := (dC, dI)) (ci := 12) (v := .ref (ad 14)) (C := RX12) (T := TX12) (N := 59) hx hb hts hin12 hown hK hP 0 rfl rfl 14 (Nat.le_of_ble_eq_true rfl) (ho (.fieldLink RX12 30 "NearEnoughModel" "rHas" "[I") (List.mem_of_getElem? (i := 7) rfl)) (fun _ h9 => h9) rfl dX12_work_162 ?_
        refine lv_iconst (v := 2) hx hb dX12_work_165 rg_19 ?_
        refine lv_aload_n hx hb dX12_work_166 rfl (lv_at hl 1 rfl) ?_
        refine va_get (D := (dC, dI)) (ci := 12) (v := .int (σ.1 29)) (C := RX12) (T := TX12) (N := 59) hx hb hts hin12 hown hK hP 0 rfl rfl 29 (Nat.le_of_ble_eq_true rfl) (ho (.fieldLink RX12 240 "NearEnoughModel" "bank" "I") (List.mem_of_getElem? (i := 8) rfl)) (fun _ h9 => h9) rfl dX12_work_167 ?_
        have bσ_29 : 0 ≤ (σ.1 29).toInt ∧ (σ.1 29).toInt ≤ 1 := hI.1 29
        refine lv_imul hx hb dX12_work_170 ?_
        refine lv_topi (fun z136_ ez136_ => ?_)
        have o107 : -2147483648 ≤ 2 * (σ.1 29).toInt := by omega
        have o108 : 2 * (σ.1 29).toInt ≤ 2147483647 := by omega
        have tz136_ : z136_.toInt = 2 * (σ.1 29).toInt := ti_mul ez136_ rg_20 rfl o107 o108
        refine lv_aload_n hx hb dX12_work_171 rfl (lv_at hl 1 rfl) ?_
        refine va_get (D := (dC, dI)) (ci := 12) (v := .ref (ad 18)) (C := RX12) (T := TX12) (N := 59) hx hb hts hin12 hown hK hP 0 rfl rfl 18 (Nat.le_of_ble_eq_true rfl) (ho (.fieldLink RX12 42 "NearEnoughModel" "sA" "[I") (List.mem_of_getElem? (i := 4) rfl)) (fun _ h9 => h9) rfl dX12_work_172 ?_
        refine lv_iload hx hb dX12_work_175 (lv_at hl 0 rfl) ?_
        refine va_iald hx hb hK hP 10 9 rfl rfl (ti_inx o4 o5) dX12_work_177 ?_
        refine lv_topi (fun z137_ ez137_ => ?_)
        have gz137_ : z137_.toInt = ((σ.2.1 18) (Int32.toNatClampNeg z2_)).toInt := congrArg Int32.toInt (ez137_.trans (congrFun rfl (Int32.toNatClampNeg z2_)))
        have bz137_ : (-1) ≤ z137_.toInt ∧ z137_.toInt ≤ 11 := by rw [ez137_]; exact (hI.2 18) _ (cl_lt (n := 24) o4 o5)
        refine lv_iadd hx hb dX12_work_178 ?_
        refine lv_topi (fun z138_ ez138_ => ?_)
        have o109 : -2147483648 ≤ z136_.toInt + z137_.toInt := by omega
        have o110 : z136_.toInt + z137_.toInt ≤ 2147483647 := by omega
        have tz138_ : z138_.toInt = z136_.toInt + z137_.toInt := ti_add ez138_ rfl rfl o109 o110
        have o111 : 0 ≤ z138_.toInt := by omega
        have o112 : z138_.toInt < ((4 : Nat) : Int) := by omega
        refine va_iald hx hb hK hP 6 5 rfl rfl (ti_inx o111 o112) dX12_work_179 ?_
        refine lv_topi (fun z139_ ez139_ => ?_)
        have gz139_ : z139_.toInt = ((σ.2.1 14) (Int32.toNatClampNeg z138_)).toInt := congrArg Int32.toInt (ez139_.trans (congrFun rfl (Int32.toNatClampNeg z138_)))
        have bz139_ : 0 ≤ z139_.toInt ∧ z139_.toInt ≤ 6 := by rw [ez139_]; exact (hI.2 14) _ (cl_lt (n := 4) o111 o112)
        refine lv_istore (lv' := [(7, .int z139_), (6, .int z2_), (0, .ref h), (1, .int st9), (2, .ref (ad 31)), (3, .int base), (4, .ref (ad 41)), (5, .int ch9)]) hx hb dX12_work_180 hl (Nat.le_of_ble_eq_true rfl) rfl (fun ls hl => ?_)
        refine lv_aload hx hb dX12_work_182 (lv_at hl 6 rfl) ?_
        refine lv_aload_n hx hb dX12_work_184 rfl (lv_at hl 2 rfl) ?_
        refine va_get (D := (dC, dI)) (ci := 12) (v := .ref (ad 19)) (C := RX12) (T := TX12) (N := 59) hx hb hts hin12 hown hK hP 0 rfl rfl 19 (Nat.le_of_ble_eq_true rfl) (ho (.fieldLink RX12 45 "NearEnoughModel" "sB" "[I") (List.mem_of_getElem? (i := 3) rfl)) (fun _ h9 => h9) rfl dX12_work_185 ?_
        refine lv_iload hx hb dX12_work_188 (lv_at hl 1 rfl) ?_
        refine va_iald hx hb hK hP 11 10 rfl rfl (ti_inx o4 o5) dX12_work_190 ?_
        refine lv_topi (fun z140_ ez140_ => ?_)
        have gz140_ : z140_.toInt = ((σ.2.1 19) (Int32.toNatClampNeg z2_)).toInt := congrArg Int32.toInt (ez140_.trans (congrFun rfl (Int32.toNatClampNeg z2_)))
        have bz140_ : (-99) ≤ z140_.toInt ∧ z140_.toInt ≤ 99 := by rw [ez140_]; exact (hI.2 19) _ (cl_lt (n := 24) o4 o5)
        have o113 : 0 ≤ z140_.toInt := by omega
        have o114 : z140_.toInt < ((12 : Nat) : Int) := by omega
        refine va_lald hx hb hK hP 29 28 rfl rfl (ti_inx o113 o114) dX12_work_191 ?_
        refine lv_topl (fun y141_ ey141_ => ?_)
        refine lv_aload hx hb dX12_work_192 (lv_at hl 6 rfl) ?_
        refine lv_aload_n hx hb dX12_work_194 rfl (lv_at hl 2 rfl) ?_
        refine va_get (D := (dC, dI)) (ci := 12) (v := .ref (ad 19)) (C := RX12) (T := TX12) (N := 59) hx hb hts hin12 hown hK hP 0 rfl rfl 19 (Nat.le_of_ble_eq_true rfl) (ho (.fieldLink RX12 45 "NearEnoughModel" "sB" "[I") (List.mem_of_getElem? (i := 3) rfl)) (fun _ h9 => h9) rfl dX12_work_195 ?_
        refine lv_iload hx hb dX12_work_198 (lv_at hl 1 rfl) ?_
        refine va_iald hx hb hK hP 11 10 rfl rfl (ti_inx o4 o5) dX12_work_200 ?_
        refine lv_topi (fun z142_ ez142_ => ?_)
        have qq143_ : z142_.toInt = z140_.toInt := congrArg Int32.toInt ((ez142_.trans (congrFun rfl (Int32.toNatClampNeg z2_))).trans ((ez140_.trans (congrFun rfl (Int32.toNatClampNeg z2_)))).symm)
        have gz142_ : z142_.toInt = ((σ.2.1 19) (Int32.toNatClampNeg z2_)).toInt := congrArg Int32.toInt (ez142_.trans (congrFun rfl (Int32.toNatClampNeg z2_)))
        have bz142_ : (-99) ≤ z142_.toInt ∧ z142_.toInt ≤ 99 := by rw [ez142_]; exact (hI.2 19) _ (cl_lt (n := 24) o4 o5)
        have o115 : 0 ≤ z142_.toInt := by omega
        have o116 : z142_.toInt < ((12 : Nat) : Int) := by omega
        refine va_lald hx hb hK hP 29 28 rfl rfl (ti_inx o115 o116) dX12_work_201 ?_
        refine lv_topl (fun y144_ ey144_ => ?_)
        refine lv_iload hx hb dX12_work_202 (lv_at hl 0 rfl) ?_
        refine lv_i2l hx hb dX12_work_204 rfl ?_
        refine lv_topl (fun y145_ ey145_ => ?_)
        have o117 : (σ.2.1 17 (Int32.toNatClampNeg z2_)).toInt = 0 ∨ (σ.2.1 17 (Int32.toNatClampNeg z2_)).toInt = 1 ∨ (σ.2.1 17 (Int32.toNatClampNeg z2_)).toInt = 6 := by omega
        have K147_ : (σ.2.1 17 (12 * (σ.1 29).toNatClampNeg + st9.toNatClampNeg)).toInt = 0 ∨ (σ.2.1 17 (12 * (σ.1 29).toNatClampNeg + st9.toNatClampNeg)).toInt = 1 ∨ (σ.2.1 17 (12 * (σ.1 29).toNatClampNeg + st9.toNatClampNeg)).toInt = 6 := by rw [← Xz2_]; exact o117
        have hrw : RwOk σ st9 := (WkOk.row hI hwk K147_)
        have o118 : 0 ≤ z137_.toInt := by omega
        have o119 : z138_.toInt = 2 * (σ.1 29).toInt + z137_.toInt := by omega
        have QN146_ : z138_.toNatClampNeg = 2 * (σ.1 29).toNatClampNeg + (σ.2.1 18 (12 * (σ.1 29).toNatClampNeg + st9.toNatClampNeg)).toNatClampNeg := by rw [← Xz2_, ← ez137_]; exact row_x (hI.1 29).1 o118 o119
        have N146_ : z139_ = ofA (σ.1 29).toNatClampNeg (cor σ) st9.toNatClampNeg := by rw [ez139_, QN146_]; rfl
        have BN146_ : 1 ≤ z139_.toInt := by rw [N146_]; exact hrw.2.2
        have o120 : z139_.toInt ≠ 0 := by omega
        refine zs_l (va_runS (As := [.long y144_, .long y145_]) (rest := [.long y141_]) ⟨hx, hb, hml, hown, hts⟩ (n_floorOver l dC dI y144_ y145_ (i2l_ne ey145_ o120) H.size) (va_cwS 2 hts gd_n_work_nc_337_n_floorOver rfl rfl rfl dd_n_floorOver ⟨Nat.le_of_ble_eq_true rfl, Nat.le_of_ble_eq_true rfl⟩) (preS (A := A) empP (hK.sub (tys' := []) [] rfl) empD hE) rfl rfl hl.1 rfl (lv_room (Nat.le_of_ble_eq_true rfl)) dX12_work_205 ⟨Nat.le_of_ble_eq_true rfl, Nat.le_of_ble_eq_true rfl⟩) hP hD hS hA (fun y148_ H locs hq hP hD hS => ?_)
        have f149_ := hq
        refine W.widen (k := 0) (n := 0) (Nat.le_of_ble_eq_true rfl) (Nat.le_of_ble_eq_true rfl) ?_
        refine lv_iload hx hb dX12_work_208 (lv_at hl 0 rfl) ?_
        refine lv_i2l hx hb dX12_work_210 rfl ?_
        refine lv_topl (fun y150_ ey150_ => ?_)
        refine lv_lmul hx hb dX12_work_211 ?_
        refine lv_topl (fun y151_ ey151_ => ?_)
        refine lv_lsub hx hb dX12_work_212 ?_
        refine lv_topl (fun y152_ ey152_ => ?_)
        refine lv_lstore (lv' := [(8, .long y152_), (7, .int z139_), (6, .int z2_), (0, .ref h), (1, .int st9), (2, .ref (ad 31)), (3, .int base), (4, .ref (ad 41)), (5, .int ch9)]) hx hb dX12_work_213 hl (Nat.le_of_ble_eq_true rfl) rfl (fun ls hl => ?_)
        refine lv_aload_n hx hb dX12_work_215 rfl (lv_at hl 3 rfl) ?_
        refine lv_aload_n hx hb dX12_work_216 rfl (lv_at hl 5 rfl) ?_
        refine lv_aload_n hx hb dX12_work_217 rfl (lv_at hl 3 rfl) ?_
        refine lv_aload_n hx hb dX12_work_218 rfl (lv_at hl 5 rfl) ?_
        refine lv_iload_n hx hb dX12_work_219 rfl (lv_at hl 6 rfl) ?_
        refine lv_iload hx hb dX12_work_220 (lv_at hl 8 rfl) ?_
        have o121 : 0 ≤ base.toInt := by omega
        have o122 : base.toInt ≤ 468 := by omega
        have o123 : -1 ≤ ch9.toInt := by omega
        have o124 : ch9.toInt ≤ 11 := by omega
        have o125 : base.toInt = 0 ∨ 12 ≤ base.toInt := by omega
        refine zy_i (va_runV (As := [.ref (ad 31), .int base, .int ch9]) (rest := [.ref (ad 31), .ref h]) ⟨hx, hb, hml, hown, hts⟩ (n_baseOf_n l dC dI h ad cl H.size σ base ch9 hI ⟨o121, o122⟩ (show base.toInt = 0 ∨ 12 ≤ base.toInt from o125) ⟨o123, o124⟩) (cwV 3 hts gd_n_work_nc_344_n_baseOf_n rfl rfl rfl dd_n_baseOf_n ⟨Nat.le_of_ble_eq_true rfl, Nat.le_of_ble_eq_true rfl⟩) (preV hP hK hD hE (ci := 12) (q0 := 0) rfl rfl) rfl rfl hl.1 rfl (lv_room (Nat.le_of_ble_eq_true rfl)) dX12_work_222 ⟨Nat.le_of_ble_eq_true rfl, Nat.le_of_ble_eq_true rfl⟩) hD hS hA (fun z154_ τ153_ H locs hq hP hD hS => ?_)
        obtain ⟨rfl, f155_, f156_, f157_⟩ := hq
        refine W.widen (k := 0) (n := 0) (Nat.le_of_ble_eq_true rfl) (Nat.le_of_ble_eq_true rfl) ?_
        refine lv_aload_n hx hb dX12_work_225 rfl (lv_at hl 3 rfl) ?_
        refine va_get (D := (dC, dI)) (ci := 12) (v := .ref (ad 18)) (C := RX12) (T := TX12) (N := 59) hx hb hts hin12 hown hK hP 0 rfl rfl 18 (Nat.le_of_ble_eq_true rfl) (ho (.fieldLink RX12 42 "NearEnoughModel" "sA" "[I") (List.mem_of_getElem? (i := 4) rfl)) (fun _ h9 => h9) rfl dX12_work_226 ?_
        refine lv_iload hx hb dX12_work_229 (lv_at hl 2 rfl) ?_
        refine va_iald hx hb hK hP 10 9 rfl rfl (ti_inx o4 o5) dX12_work_231 ?_
        refine lv_topi (fun z158_ ez158_ => ?_)
        have qq159_ : z158_.toInt = z137_.toInt := congrArg Int32.toInt ((ez158_.trans (congrFun rfl (Int32.toNatClampNeg z2_))).trans ((ez137_.trans (congrFun rfl (Int32.toNatClampNeg z2_)))).symm)
        have gz158_ : z158_.toInt = ((σ.2.1 18) (Int32.toNatClampNeg z2_)).toInt := congrArg Int32.toInt (ez158_.trans (congrFun rfl (Int32.toNatClampNeg z2_)))
        have bz158_ : (-1) ≤ z158_.toInt ∧ z158_.toInt ≤ 11 := by rw [ez158_]; exact (hI.2 18) _ (cl_lt (n := 24) o4 o5)
        refine lv_lload hx hb dX12_work_232 (lv_at hl 0 rfl) ?_
        refine lv_l2i hx hb dX12_work_234 rfl ?_
        refine lv_topi (fun z160_ ez160_ => ?_)
        have o126 : 1 ≤ z139_.toInt := by omega
        have o127 : z139_.toInt ≤ 6 := by omega
        have tz160_ := mod_rng (h := z139_) (v := (σ.2.2.1 41) (Int32.toNatClampNeg (σ.2.1 19 (Int32.toNatClampNeg z2_)))) (y := y152_) (z := z160_) o126 o127 (by simp only [ez4_, ez136_, ez137_, ez138_, ez139_, ez140_, ey141_, ez142_, ey144_, ey145_, f149_, ey150_, ey151_, ey152_, ez158_]) ez160_
        have o128 : 0 ≤ z154_.toInt := by omega
        have o129 : z154_.toInt ≤ 468 := by omega
        have o130 : 0 ≤ z158_.toInt := by omega
        have o131 : z158_.toInt ≤ 1 := by omega
        have o132 : 0 ≤ z160_.toInt := by omega
        have o133 : z160_.toInt ≤ 5 := by omega
        refine zy_i (va_runV (As := [.ref (ad 31), .int z154_, .int z158_, .int z160_]) (rest := []) ⟨hx, hb, hml, hown, hts⟩ (n_numberAt_n l dC dI h ad cl H.size σ z154_ z158_ z160_ hI ⟨o128, o129⟩ ⟨o130, o131⟩ ⟨o132, o133⟩) (cwV 4 hts gd_n_work_nc_353_n_numberAt_n rfl rfl rfl dd_n_numberAt_n ⟨Nat.le_of_ble_eq_true rfl, Nat.le_of_ble_eq_true rfl⟩) (preV hP hK hD hE (ci := 12) (q0 := 0) rfl rfl) rfl rfl hl.1 rfl (lv_room (Nat.le_of_ble_eq_true rfl)) dX12_work_235 ⟨Nat.le_of_ble_eq_true rfl, Nat.le_of_ble_eq_true rfl⟩) hD hS hA (fun z162_ τ161_ H locs hq hP hD hS => ?_)
        obtain ⟨rfl, f163_⟩ := hq
        refine W.widen (k := 0) (n := 0) (Nat.le_of_ble_eq_true rfl) (Nat.le_of_ble_eq_true rfl) ?_
        refine lv_iload hx hb dX12_work_238 (lv_at hl 8 rfl) ?_
        refine lv_if_lt (tgt := 264) hx hb dX12_work_240 rfl (fun c164_ => ?_) (fun c164_ => ?_)
        · have tc164_ := (show ch9.toInt < 0 from ti_lt rfl rg_11 c164_)
          refine lv_iconst (v := 1) hx hb dX12_work_264 rg_6 ?_
          have kk165_ : (1 : Int32).toInt = 1 := rg_18
          have o134 : (1 : Int32).toInt ≠ 0 := by omega
          refine zs_i (va_runS (As := [.int z162_, .int 1]) (rest := []) ⟨hx, hb, hml, hown, hts⟩ (n_coarse l dC dI z162_ 1 o134 H.size) (va_cwS 2 hts gd_n_work_nc_357_n_coarse rfl rfl rfl dd_n_coarse ⟨Nat.le_of_ble_eq_true rfl, Nat.le_of_ble_eq_true rfl⟩) (preS (A := A) empP (hK.sub (tys' := []) [] rfl) empD hE) rfl rfl hl.1 rfl (lv_room (Nat.le_of_ble_eq_true rfl)) dX12_work_265 ⟨Nat.le_of_ble_eq_true rfl, Nat.le_of_ble_eq_true rfl⟩) hP hD hS hA (fun z166_ H locs hq hP hD hS => ?_)
          have f167_ := hq
          refine W.widen (k := 0) (n := 0) (Nat.le_of_ble_eq_true rfl) (Nat.le_of_ble_eq_true rfl) ?_
          refine lv_i2l hx hb dX12_work_268 rfl ?_
          refine lv_topl (fun y168_ ey168_ => ?_)
          rw [hQ]
          have o135 : (σ.2.1 17 (Int32.toNatClampNeg z2_)).toInt = 6 := by omega
          have K169_ : (σ.2.1 17 (12 * (σ.1 29).toNatClampNeg + st9.toNatClampNeg)).toInt = 6 := by rw [← Xz2_]; exact o135
          have o136 : ¬ (0 ≤ ch9.toInt ∧ (σ.2.1 34 (Int32.toNatClampNeg ch9)).toInt = 3) := by omega
          have HR170_ := (by_n (T := cor σ) (show ¬ (0 ≤ ch9.toInt ∧ (σ.2.1 34 (Int32.toNatClampNeg ch9)).toInt = 3) from o136))
          have R170_ : y168_ = wkF (σ.1 29).toNatClampNeg (cor σ) true (σ.2.1 31) (σ.2.2.1 41) st9.toNatClampNeg base ch9 := by rw [wk_6 (T := cor σ) K169_]; rw [← f155_, ← N146_, ← HR170_]; simp only [ez4_, ez136_, ez137_, ez138_, ez139_, ez140_, ey141_, ez142_, ey144_, ey145_, f149_, ey150_, ey151_, ey152_, ez158_, ez160_, f163_, f167_, ey168_, Xz2_] <;> rfl
          exact W.lret (v := y168_) hx hb hr (fun t ht hW => ⟨⟨y168_, σ, rfl, ⟨rfl, R170_⟩, wEn_of hP (hK.sub [] rfl) hD ht hW⟩, hS.F ht⟩) hS.2.2 dX12_work_269
        · have tc164_ := (show 0 ≤ ch9.toInt from ti_nlt rfl rg_11 c164_)
          refine lv_aload_n hx hb dX12_work_243 rfl (lv_at hl 3 rfl) ?_
          refine va_get (D := (dC, dI)) (ci := 12) (v := .ref (ad 34)) (C := RX12) (T := TX12) (N := 59) hx hb hts hin12 hown hK hP 0 rfl rfl 34 (Nat.le_of_ble_eq_true rfl) (ho (.fieldLink RX12 85 "NearEnoughModel" "cKind" "[I") (List.mem_of_getElem? (i := 5) rfl)) (fun _ h9 => h9) rfl dX12_work_244 ?_
          refine lv_iload hx hb dX12_work_247 (lv_at hl 8 rfl) ?_
          have o137 : 0 ≤ ch9.toInt := by omega
          have o138 : ch9.toInt < ((12 : Nat) : Int) := by omega
          refine va_iald hx hb hK hP 24 23 rfl rfl (ti_inx o137 o138) dX12_work_249 ?_
          refine lv_topi (fun z171_ ez171_ => ?_)
          have gz171_ : z171_.toInt = ((σ.2.1 34) (Int32.toNatClampNeg ch9)).toInt := congrArg Int32.toInt (ez171_.trans (congrFun rfl (Int32.toNatClampNeg ch9)))
          have bz171_ : 0 ≤ z171_.toInt ∧ z171_.toInt ≤ 6 := by rw [ez171_]; exact (hI.2 34) _ (cl_lt (n := 12) o137 o138)
          refine lv_iconst (v := 3) hx hb dX12_work_250 rg_16 ?_
          refine lv_icmp_ne (tgt := 264) hx hb dX12_work_251 rfl (fun c172_ => ?_) (fun c172_ => ?_)
          · have tc172_ := (show z171_.toInt ≠ 3 from ti_ne rfl rg_17 c172_)
            refine lv_iconst (v := 1) hx hb dX12_work_264 rg_6 ?_
            have kk173_ : (1 : Int32).toInt = 1 := rg_18
            have o139 : (1 : Int32).toInt ≠ 0 := by omega
            refine zs_i (va_runS (As := [.int z162_, .int 1]) (rest := []) ⟨hx, hb, hml, hown, hts⟩ (n_coarse l dC dI z162_ 1 o139 H.size) (va_cwS 2 hts gd_n_work_nc_357_n_coarse rfl rfl rfl dd_n_coarse ⟨Nat.le_of_ble_eq_true rfl, Nat.le_of_ble_eq_true rfl⟩) (preS (A := A) empP (hK.sub (tys' := []) [] rfl) empD hE) rfl rfl hl.1 rfl (lv_room (Nat.le_of_ble_eq_true rfl)) dX12_work_265 ⟨Nat.le_of_ble_eq_true rfl, Nat.le_of_ble_eq_true rfl⟩) hP hD hS hA (fun z174_ H locs hq hP hD hS => ?_)
            have f175_ := hq
            refine W.widen (k := 0) (n := 0) (Nat.le_of_ble_eq_true rfl) (Nat.le_of_ble_eq_true rfl) ?_
            refine lv_i2l hx hb dX12_work_268 rfl ?_
            refine lv_topl (fun y176_ ey176_ => ?_)
            rw [hQ]
            have o140 : (σ.2.1 17 (Int32.toNatClampNeg z2_)).toInt = 6 := by omega
            have K177_ : (σ.2.1 17 (12 * (σ.1 29).toNatClampNeg + st9.toNatClampNeg)).toInt = 6 := by rw [← Xz2_]; exact o140
            have o141 : ¬ (0 ≤ ch9.toInt ∧ (σ.2.1 34 (Int32.toNatClampNeg ch9)).toInt = 3) := by omega
            have HR178_ := (by_n (T := cor σ) (show ¬ (0 ≤ ch9.toInt ∧ (σ.2.1 34 (Int32.toNatClampNeg ch9)).toInt = 3) from o141))
            have R178_ : y176_ = wkF (σ.1 29).toNatClampNeg (cor σ) true (σ.2.1 31) (σ.2.2.1 41) st9.toNatClampNeg base ch9 := by rw [wk_6 (T := cor σ) K177_]; rw [← f155_, ← N146_, ← HR178_]; simp only [ez4_, ez136_, ez137_, ez138_, ez139_, ez140_, ey141_, ez142_, ey144_, ey145_, f149_, ey150_, ey151_, ey152_, ez158_, ez160_, f163_, ez171_, f175_, ey176_, Xz2_] <;> rfl
            exact W.lret (v := y176_) hx hb hr (fun t ht hW => ⟨⟨y176_, σ, rfl, ⟨rfl, R178_⟩, wEn_of hP (hK.sub [] rfl) hD ht hW⟩, hS.F ht⟩) hS.2.2 dX12_work_269
          · have tc172_ := (show z171_.toInt = 3 from ti_eq rfl rg_17 c172_)
            refine lv_aload_n hx hb dX12_work_254 rfl (lv_at hl 3 rfl) ?_
            refine va_get (D := (dC, dI)) (ci := 12) (v := .ref (ad 35)) (C := RX12) (T := TX12) (N := 59) hx hb hts hin12 hown hK hP 0 rfl rfl 35 (Nat.le_of_ble_eq_true rfl) (ho (.fieldLink RX12 88 "NearEnoughModel" "cN" "[I") (List.mem_of_getElem? (i := 6) rfl)) (fun _ h9 => h9) rfl dX12_work_255 ?_
            refine lv_iload hx hb dX12_work_258 (lv_at hl 8 rfl) ?_
            refine va_iald hx hb hK hP 25 24 rfl rfl (ti_inx o137 o138) dX12_work_260 ?_
            refine lv_topi (fun z179_ ez179_ => ?_)
            have gz179_ : z179_.toInt = ((σ.2.1 35) (Int32.toNatClampNeg ch9)).toInt := congrArg Int32.toInt (ez179_.trans (congrFun rfl (Int32.toNatClampNeg ch9)))
            have bz179_ : 0 ≤ z179_.toInt ∧ z179_.toInt ≤ 99 := by rw [ez179_]; exact (hI.2 35) _ (cl_lt (n := 12) o137 o138)
            refine lv_goto (tgt := 265) hx hb dX12_work_261 rfl ?_
            have o142 : z179_.toInt ≠ 0 := by omega
            refine zs_i (va_runS (As := [.int z162_, .int z179_]) (rest := []) ⟨hx, hb, hml, hown, hts⟩ (n_coarse l dC dI z162_ z179_ o142 H.size) (va_cwS 2 hts gd_n_work_nc_357_n_coarse rfl rfl rfl dd_n_coarse ⟨Nat.le_of_ble_eq_true rfl, Nat.le_of_ble_eq_true rfl⟩) (preS (A := A) empP (hK.sub (tys' := []) [] rfl) empD hE) rfl rfl hl.1 rfl (lv_room (Nat.le_of_ble_eq_true rfl)) dX12_work_265 ⟨Nat.le_of_ble_eq_true rfl, Nat.le_of_ble_eq_true rfl⟩) hP hD hS hA (fun z180_ H locs hq hP hD hS => ?_)
            have f181_ := hq
            refine W.widen (k := 0) (n := 0) (Nat.le_of_ble_eq_true rfl) (Nat.le_of_ble_eq_true rfl) ?_
            refine lv_i2l hx hb dX12_work_268 rfl ?_
            refine lv_topl (fun y182_ ey182_ => ?_)
            rw [hQ]
            have o143 : (σ.2.1 17 (Int32.toNatClampNeg z2_)).toInt = 6 := by omega
            have K183_ : (σ.2.1 17 (12 * (σ.1 29).toNatClampNeg + st9.toNatClampNeg)).toInt = 6 := by rw [← Xz2_]; exact o143
            have o144 : 0 ≤ ch9.toInt ∧ (σ.2.1 34 (Int32.toNatClampNeg ch9)).toInt = 3 := by omega
            have HR184_ := (by_y (T := cor σ) (show 0 ≤ ch9.toInt ∧ (σ.2.1 34 (Int32.toNatClampNeg ch9)).toInt = 3 from o144) ez179_)
            have R184_ : y182_ = wkF (σ.1 29).toNatClampNeg (cor σ) true (σ.2.1 31) (σ.2.2.1 41) st9.toNatClampNeg base ch9 := by rw [wk_6 (T := cor σ) K183_]; rw [← f155_, ← N146_, ← HR184_]; simp only [ez4_, ez136_, ez137_, ez138_, ez139_, ez140_, ey141_, ez142_, ey144_, ey145_, f149_, ey150_, ey151_, ey152_, ez158_, ez160_, f163_, ez171_, ez179_, f181_, ey182_, Xz2_] <;> rfl
            exact W.lret (v := y182_) hx hb hr (fun t ht hW => ⟨⟨y182_, σ, rfl, ⟨rfl, R184_⟩, wEn_of hP (hK.sub [] rfl) hD ht hW⟩, hS.F ht⟩) hS.2.2 dX12_work_269
def ow_n_work_cp : List Cond := [.fieldLink RX12 39 "NearEnoughModel" "sKind" "[I", .fieldLink RX12 48 "NearEnoughModel" "sC" "[I", .fieldLink RX12 51 "NearEnoughModel" "sD" "[I", .fieldLink RX12 45 "NearEnoughModel" "sB" "[I", .fieldLink RX12 42 "NearEnoughModel" "sA" "[I", .fieldLink RX12 85 "NearEnoughModel" "cKind" "[I", .fieldLink RX12 88 "NearEnoughModel" "cN" "[I", .fieldLink RX12 30 "NearEnoughModel" "rHas" "[I", .fieldLink RX12 240 "NearEnoughModel" "bank" "I"]
def vs_n_work_cp : List Cond := .code yX12_work cX12_work 10 (some .long) :: (ow_n_work_cp ++ (([.methodLink RX12 331 yX12_at0, .instanceMethod yX12_at0, .selects RX12 yX12_at0 yX12_at0, .initialized RX12] : List Cond) ++ (vs_n_at0 ++ (([.methodLink RX12 360 yX12_ofRow, .instanceMethod yX12_ofRow, .selects RX12 yX12_ofRow yX12_ofRow, .initialized RX12] : List Cond) ++ (vs_n_ofRow_c ++ (([.methodLink RX12 337 yX12_floorOver, .static yX12_floorOver, .initialized yX12_floorOver.cls] : List Cond) ++ (vs_n_floorOver ++ (([.methodLink RX12 344 yX12_baseOf, .instanceMethod yX12_baseOf, .selects RX12 yX12_baseOf yX12_baseOf, .initialized RX12] : List Cond) ++ (vs_n_baseOf_c ++ (([.methodLink RX12 353 yX12_numberAt, .instanceMethod yX12_numberAt, .selects RX12 yX12_numberAt yX12_numberAt, .initialized RX12] : List Cond) ++ (vs_n_numberAt_c ++ (([.methodLink RX12 357 yX12_coarse, .static yX12_coarse, .initialized yX12_coarse.cls] : List Cond) ++ (vs_n_coarse ++ (wsX120))))))))))))))
theorem vg_n_work_cp : vs_n_work_cp.all goodWord = true := by decide +kernel
theorem dd_n_work_cp : yX12_work.cls = RX12 ∧ yX12_work.cls ≠ "java/lang/invoke/MethodHandle" ∧ yX12_work.cls ≠ "java/lang/invoke/VarHandle" ∧ (parseMethodDescriptor yX12_work.desc).map (fun d => d.parameters.length) = some 5 := by decide +kernel
def rm_n_work_cp : Room := { frames := 3, cells := 0, slots := 0, locals := 83 }
theorem gd_n_work_cp_331_n_at0 : GoodIn vs_n_work_cp (wsV RX12 331 RX12 yX12_at0 vs_n_at0) := goodIn_app (goodIn_sub (fun w h => (List.mem_cons_of_mem _ (List.mem_append_right _ (List.mem_append_left _ h)))) (by decide +kernel)) (goodIn_sub (fun w h => (List.mem_cons_of_mem _ (List.mem_append_right _ (List.mem_append_right _ (List.mem_append_left _ h))))) vg_n_at0)
theorem gd_n_work_cp_360_n_ofRow_c : GoodIn vs_n_work_cp (wsV RX12 360 RX12 yX12_ofRow vs_n_ofRow_c) := goodIn_app (goodIn_sub (fun w h => (List.mem_cons_of_mem _ (List.mem_append_right _ (List.mem_append_right _ (List.mem_append_right _ (List.mem_append_left _ h)))))) (by decide +kernel)) (goodIn_sub (fun w h => (List.mem_cons_of_mem _ (List.mem_append_right _ (List.mem_append_right _ (List.mem_append_right _ (List.mem_append_right _ (List.mem_append_left _ h))))))) vg_n_ofRow_c)
theorem gd_n_work_cp_337_n_floorOver : GoodIn vs_n_work_cp (va_wsS RX12 337 yX12_floorOver vs_n_floorOver) := goodIn_app (goodIn_sub (fun w h => (List.mem_cons_of_mem _ (List.mem_append_right _ (List.mem_append_right _ (List.mem_append_right _ (List.mem_append_right _ (List.mem_append_right _ (List.mem_append_left _ h)))))))) (by decide +kernel)) (goodIn_sub (fun w h => (List.mem_cons_of_mem _ (List.mem_append_right _ (List.mem_append_right _ (List.mem_append_right _ (List.mem_append_right _ (List.mem_append_right _ (List.mem_append_right _ (List.mem_append_left _ h))))))))) vg_n_floorOver)
theorem gd_n_work_cp_344_n_baseOf_c : GoodIn vs_n_work_cp (wsV RX12 344 RX12 yX12_baseOf vs_n_baseOf_c) := goodIn_app (goodIn_sub (fun w h => (List.mem_cons_of_mem _ (List.mem_append_right _ (List.mem_append_right _ (List.mem_append_right _ (List.mem_append_right _ (List.mem_append_right _ (List.mem_append_right _ (List.mem_append_right _ (List.mem_append_left _ h)))))))))) (by decide +kernel)) (goodIn_sub (fun w h => (List.mem_cons_of_mem _ (List.mem_append_right _ (List.mem_append_right _ (List.mem_append_right _ (List.mem_append_right _ (List.mem_append_right _ (List.mem_append_right _ (List.mem_append_right _ (List.mem_append_right _ (List.mem_append_left _ h))))))))))) vg_n_baseOf_c)
theorem gd_n_work_cp_353_n_numberAt_c : GoodIn vs_n_work_cp (wsV RX12 353 RX12 yX12_numberAt vs_n_numberAt_c) := goodIn_app (goodIn_sub (fun w h => (List.mem_cons_of_mem _ (List.mem_append_right _ (List.mem_append_right _ (List.mem_append_right _ (List.mem_append_right _ (List.mem_append_right _ (List.mem_append_right _ (List.mem_append_right _ (List.mem_append_right _ (List.mem_append_right _ (List.mem_append_left _ h)))))))))))) (by decide +kernel)) (goodIn_sub (fun w h => (List.mem_cons_of_mem _ (List.mem_append_right _ (List.mem_append_right _ (List.mem_append_right _ (List.mem_append_right _ (List.mem_append_right _ (List.mem_append_right _ (List.mem_append_right _ (List.mem_append_right _ (List.mem_append_right _ (List.mem_append_right _ (List.mem_append_left _ h))))))))))))) vg_n_numberAt_c)
theorem gd_n_work_cp_357_n_coarse : GoodIn vs_n_work_cp (va_wsS RX12 357 yX12_coarse vs_n_coarse) := goodIn_app (goodIn_sub (fun w h => (List.mem_cons_of_mem _ (List.mem_append_right _ (List.mem_append_right _ (List.mem_append_right _ (List.mem_append_right _ (List.mem_append_right _ (List.mem_append_right _ (List.mem_append_right _ (List.mem_append_right _ (List.mem_append_right _ (List.mem_append_right _ (List.mem_append_right _ (List.mem_append_left _ h)))))))))))))) (by decide +kernel)) (goodIn_sub (fun w h => (List.mem_cons_of_mem _ (List.mem_append_right _ (List.mem_append_right _ (List.mem_append_right _ (List.mem_append_right _ (List.mem_append_right _ (List.mem_append_right _ (List.mem_append_right _ (List.mem_append_right _ (List.mem_append_right _ (List.mem_append_right _ (List.mem_append_right _ (List.mem_append_right _ (List.mem_append_left _ h))))))))))))))) vg_n_coarse)
set_option maxHeartbeats 4000000 in
set_option maxRecDepth 100000 in
theorem n_work_cp (l : Launch) (dC : Nat → ClassId) (dI : Nat → Nat → Nat) (h : Nat) (ad : Nat → Nat) (cl : Nat → ClassId) (sz : Nat) (σ : MS) (st9 : Int32) (base : Int32) (ch9 : Int32) (hI : Inv σ) (hs : 0 ≤ st9.toInt ∧ st9.toInt ≤ 11) (hba : 0 ≤ base.toInt ∧ base.toInt ≤ 0) (hbm : base.toInt = 0 ∨ 12 ≤ base.toInt) (hch : ChOk σ ch9) (hwk : WkOk σ st9) : Met l yX12_work vs_n_work_cp rm_n_work_cp (va_Pc [.ref h, .int st9, .ref (ad 32), .int base, .ref (ad 42), .int ch9] (wSt dC dI (mW h ad cl σ) (mT cl) sz)) (va_Ql (fun (r : Int64) (τ : MS) => σ = τ ∧ r = wkF (σ.1 29).toNatClampNeg (cor σ) false (σ.2.1 32) (σ.2.2.1 42) st9.toNatClampNeg base ch9) (fun (τ : MS) => wEn dC dI (va_A (mW h ad cl σ) sz) (mW h ad cl τ) []) (va_A (mW h ad cl σ) sz)) 0 0 (va_A (mW h ad cl σ) sz) := by
  refine Met.ofW (cc := cX12_work) (maxL := 10) (ret := (some .long)) (by decide) rfl ?_
  intro p e s m args below meth c s₁ B hml hv
  obtain ⟨rfl, hsz, hP, hK, hD0, hE⟩ := hv
  have hx := B.exec
  have hb := B.bytes
  have hr := B.returns
  have hts := atoms_spec (ws := vs_n_work_cp) B.pre
  have hown : s.vm.findClass RX12 = some m.cls := findClass_of_methodNamed B.named
  have hlocks := B.notSynchronized
  subst hsz
  have hD := hD0.self (sz := s.heap.size)
  generalize hAe : va_A (mW h ad cl σ) s.heap.size = A at hD ⊢
  have hA : ∀ q : Nat, s.heap.size ≤ q → A q := fun q h => by rw [← hAe]; exact Or.inr h
  have hl := lv_entry ([.ref h, .int st9, .ref (ad 32), .int base, .ref (ad 42), .int ch9]) (n := 10) (Nat.le_of_ble_eq_true rfl)
  rw [lg_entry_eq]
  generalize (lg_sl ([.ref h, .int st9, .ref (ad 32), .int base, .ref (ad 42), .int ch9]) ++ List.replicate (10 - (lg_sl ([.ref h, .int st9, .ref (ad 32), .int base, .ref (ad 42), .int ch9])).length) Slot.unset).toArray = ls at hl ⊢
  have hl : lv_has ls 10 [(0, .ref h), (1, .int st9), (2, .ref (ad 32)), (3, .int base), (4, .ref (ad 42)), (5, .int ch9)] := hl
  have ho := fun w (h : w ∈ ow_n_work_cp) => hts w (List.mem_cons_of_mem _ (List.mem_append_left _ h))
  have hin12 : ∀ w ∈ u_ws RX12 TX12 59, w ∈ vs_n_work_cp := fun w h => (List.mem_cons_of_mem _ (List.mem_append_right _ (List.mem_append_right _ (List.mem_append_right _ (List.mem_append_right _ (List.mem_append_right _ (List.mem_append_right _ (List.mem_append_right _ (List.mem_append_right _ (List.mem_append_right _ (List.mem_append_right _ (List.mem_append_right _ (List.mem_append_right _ (List.mem_append_right _ h))))))))))))))
  refine zQ (fun Q hQ => ?_)
  have hch0 : ChOk σ ch9 := hch
  unfold ChOk at hch
  have hrows : (σ.2.1 11 (σ.1 29).toNatClampNeg).toInt ≤ 2 := (hI.2 11 _ (cl_lt (n := 2) (hI.1 29).1 (Int.lt_of_le_of_lt (hI.1 29).2 (by decide)))).2
  refine zH (A := A) (ws := mW h ad cl σ) (fun H hP hS => ?_) hP
  have bσ_29 : 0 ≤ (σ.1 29).toInt ∧ (σ.1 29).toInt ≤ 1 := hI.1 29
  refine lv_aload_n hx hb dX12_work_0 rfl (lv_at hl 0 rfl) ?_
  refine lv_iload_n hx hb dX12_work_1 rfl (lv_at hl 1 rfl) ?_
  have o1 : 0 ≤ st9.toInt := by omega
  have o2 : st9.toInt ≤ 11 := by omega
  refine zy_i (va_runV (As := [.int st9]) (rest := []) ⟨hx, hb, hml, hown, hts⟩ (n_at0 l dC dI h ad cl H.size σ st9 hI ⟨o1, o2⟩) (cwV 1 hts gd_n_work_cp_331_n_at0 rfl rfl rfl dd_n_at0 ⟨Nat.le_of_ble_eq_true rfl, Nat.le_of_ble_eq_true rfl⟩) (preV hP hK hD hE (ci := 12) (q0 := 0) rfl rfl) rfl rfl hl.1 rfl (lv_room (Nat.le_of_ble_eq_true rfl)) dX12_work_2 ⟨Nat.le_of_ble_eq_true rfl, Nat.le_of_ble_eq_true rfl⟩) hD hS hA (fun z2_ τ1_ H locs hq hP hD hS => ?_)
  obtain ⟨rfl, f3_⟩ := hq
  refine W.widen (k := 0) (n := 0) (Nat.le_of_ble_eq_true rfl) (Nat.le_of_ble_eq_true rfl) ?_
  have o3 : z2_.toInt = 12 * (σ.1 29).toInt + st9.toInt := by omega
  have Xz2_ : z2_.toNatClampNeg = 12 * (σ.1 29).toNatClampNeg + st9.toNatClampNeg := at0x (hI.1 29).1 o1 o3
  have hst := hwk.st2 Xz2_
  unfold StOk at hst
  refine lv_istore (lv' := [(6, .int z2_), (0, .ref h), (1, .int st9), (2, .ref (ad 32)), (3, .int base), (4, .ref (ad 42)), (5, .int ch9)]) hx hb dX12_work_5 hl (Nat.le_of_ble_eq_true rfl) rfl (fun ls hl => ?_)
  refine lv_aload_n hx hb dX12_work_7 rfl (lv_at hl 1 rfl) ?_
  refine va_get (D := (dC, dI)) (ci := 12) (v := .ref (ad 17)) (C := RX12) (T := TX12) (N := 59) hx hb hts hin12 hown hK hP 0 rfl rfl 17 (Nat.le_of_ble_eq_true rfl) (ho (.fieldLink RX12 39 "NearEnoughModel" "sKind" "[I") (List.mem_of_getElem? (i := 0) rfl)) (fun _ h9 => h9) rfl dX12_work_8 ?_
  refine lv_iload hx hb dX12_work_11 (lv_at hl 0 rfl) ?_
  have o4 : 0 ≤ z2_.toInt := by omega
  have o5 : z2_.toInt < ((24 : Nat) : Int) := by omega
  refine va_iald hx hb hK hP 9 8 rfl rfl (ti_inx o4 o5) dX12_work_13 ?_
  refine lv_topi (fun z4_ ez4_ => ?_)
  have gz4_ : z4_.toInt = ((σ.2.1 17) (Int32.toNatClampNeg z2_)).toInt := congrArg Int32.toInt (ez4_.trans (congrFun rfl (Int32.toNatClampNeg z2_)))
  have bz4_ : 0 ≤ z4_.toInt ∧ z4_.toInt ≤ 7 := by rw [ez4_]; exact (hI.2 17) _ (cl_lt (n := 24) o4 o5)
  by_cases c_lo : z4_.toInt < 0
  · refine lv_tableOut (tgt := 270) hx hb dX12_work_14 (Or.inl c_lo) rfl ?_
    refine lv_iload hx hb dX12_work_270 (lv_at hl 6 rfl) ?_
    refine lv_if_lt (tgt := 304) hx hb dX12_work_272 rfl (fun c5_ => ?_) (fun c5_ => ?_)
    · have tc5_ := (show ch9.toInt < 0 from ti_lt rfl rg_11 c5_)
      refine lv_aload hx hb dX12_work_304 (lv_at hl 5 rfl) ?_
      refine lv_aload_n hx hb dX12_work_306 rfl (lv_at hl 1 rfl) ?_
      refine va_get (D := (dC, dI)) (ci := 12) (v := .ref (ad 20)) (C := RX12) (T := TX12) (N := 59) hx hb hts hin12 hown hK hP 0 rfl rfl 20 (Nat.le_of_ble_eq_true rfl) (ho (.fieldLink RX12 48 "NearEnoughModel" "sC" "[I") (List.mem_of_getElem? (i := 1) rfl)) (fun _ h9 => h9) rfl dX12_work_307 ?_
      refine lv_iload hx hb dX12_work_310 (lv_at hl 0 rfl) ?_
      refine va_iald hx hb hK hP 12 11 rfl rfl (ti_inx o4 o5) dX12_work_312 ?_
      refine lv_topi (fun z6_ ez6_ => ?_)
      have gz6_ : z6_.toInt = ((σ.2.1 20) (Int32.toNatClampNeg z2_)).toInt := congrArg Int32.toInt (ez6_.trans (congrFun rfl (Int32.toNatClampNeg z2_)))
      have bz6_ : (-1) ≤ z6_.toInt ∧ z6_.toInt ≤ 99 := by rw [ez6_]; exact (hI.2 20) _ (cl_lt (n := 24) o4 o5)
      have o6 : 0 ≤ z6_.toInt := by omega
      have o7 : z6_.toInt < ((12 : Nat) : Int) := by omega
      refine va_lald hx hb hK hP 30 29 rfl rfl (ti_inx o6 o7) dX12_work_313 ?_
      refine lv_topl (fun y7_ ey7_ => ?_)
      refine lv_aload hx hb dX12_work_314 (lv_at hl 5 rfl) ?_
      refine lv_aload_n hx hb dX12_work_316 rfl (lv_at hl 1 rfl) ?_
      refine va_get (D := (dC, dI)) (ci := 12) (v := .ref (ad 21)) (C := RX12) (T := TX12) (N := 59) hx hb hts hin12 hown hK hP 0 rfl rfl 21 (Nat.le_of_ble_eq_true rfl) (ho (.fieldLink RX12 51 "NearEnoughModel" "sD" "[I") (List.mem_of_getElem? (i := 2) rfl)) (fun _ h9 => h9) rfl dX12_work_317 ?_
      refine lv_iload hx hb dX12_work_320 (lv_at hl 0 rfl) ?_
      refine va_iald hx hb hK hP 13 12 rfl rfl (ti_inx o4 o5) dX12_work_322 ?_
      refine lv_topi (fun z8_ ez8_ => ?_)
      have gz8_ : z8_.toInt = ((σ.2.1 21) (Int32.toNatClampNeg z2_)).toInt := congrArg Int32.toInt (ez8_.trans (congrFun rfl (Int32.toNatClampNeg z2_)))
      have bz8_ : (-1) ≤ z8_.toInt ∧ z8_.toInt ≤ 11 := by rw [ez8_]; exact (hI.2 21) _ (cl_lt (n := 24) o4 o5)
      have o8 : 0 ≤ z8_.toInt := by omega
      have o9 : z8_.toInt < ((12 : Nat) : Int) := by omega
      refine va_lald hx hb hK hP 30 29 rfl rfl (ti_inx o8 o9) dX12_work_323 ?_
      refine lv_topl (fun y9_ ey9_ => ?_)
      refine W.lcmp hx hb dX12_work_324 ?_
      refine lv_topi (fun z10_ ez10_ => ?_)
      refine lv_if_ge (tgt := 332) hx hb dX12_work_325 rfl (fun c11_ => ?_) (fun c11_ => ?_)
      · have tc11_ := (show 0 ≤ z10_.toInt from ti_le rg_11 rfl c11_)
        have lc11_ : y9_ ≤ y7_ := (lg_cmp_ge y7_ y9_).mp (by rw [← ez10_]; exact c11_)
        refine lv_iconst (v := 0) hx hb dX12_work_332 rg_0 ?_
        refine lv_istore (lv' := [(7, .int 0), (6, .int z2_), (0, .ref h), (1, .int st9), (2, .ref (ad 32)), (3, .int base), (4, .ref (ad 42)), (5, .int ch9)]) hx hb dX12_work_333 hl (Nat.le_of_ble_eq_true rfl) rfl (fun ls hl => ?_)
        refine lv_iload hx hb dX12_work_335 (lv_at hl 0 rfl) ?_
        refine lv_if_eq (tgt := 353) hx hb dX12_work_337 rfl (fun _ => ?_) (fun cc => absurd (by decide) cc)
        refine lv_aload hx hb dX12_work_353 (lv_at hl 6 rfl) ?_
        refine lv_aload_n hx hb dX12_work_355 rfl (lv_at hl 2 rfl) ?_
        refine va_get (D := (dC, dI)) (ci := 12) (v := .ref (ad 19)) (C := RX12) (T := TX12) (N := 59) hx hb hts hin12 hown hK hP 0 rfl rfl 19 (Nat.le_of_ble_eq_true rfl) (ho (.fieldLink RX12 45 "NearEnoughModel" "sB" "[I") (List.mem_of_getElem? (i := 3) rfl)) (fun _ h9 => h9) rfl dX12_work_356 ?_
        refine lv_iload hx hb dX12_work_359 (lv_at hl 1 rfl) ?_
        refine va_iald hx hb hK hP 11 10 rfl rfl (ti_inx o4 o5) dX12_work_361 ?_
        refine lv_topi (fun z12_ ez12_ => ?_)
        have gz12_ : z12_.toInt = ((σ.2.1 19) (Int32.toNatClampNeg z2_)).toInt := congrArg Int32.toInt (ez12_.trans (congrFun rfl (Int32.toNatClampNeg z2_)))
        have bz12_ : (-99) ≤ z12_.toInt ∧ z12_.toInt ≤ 99 := by rw [ez12_]; exact (hI.2 19) _ (cl_lt (n := 24) o4 o5)
        have o10 : 0 ≤ z12_.toInt := by omega
        have o11 : z12_.toInt < ((12 : Nat) : Int) := by omega
        refine va_lald hx hb hK hP 30 29 rfl rfl (ti_inx o10 o11) dX12_work_362 ?_
        refine lv_topl (fun y13_ ey13_ => ?_)
        rw [hQ]
        have o12 : (σ.2.1 17 (Int32.toNatClampNeg z2_)).toInt = 7 := by omega
        have K14_ : (σ.2.1 17 (12 * (σ.1 29).toNatClampNeg + st9.toNatClampNeg)).toInt = 7 := by rw [← Xz2_]; exact o12
        have o13 : ¬ (0 ≤ ch9.toInt ∧ (σ.2.1 34 (Int32.toNatClampNeg ch9)).toInt = 2) := by omega
        have L16_ : ¬ ((σ.2.2.1 42) (σ.2.1 20 (12 * (σ.1 29).toNatClampNeg + st9.toNatClampNeg)).toNatClampNeg < (σ.2.2.1 42) (σ.2.1 21 (12 * (σ.1 29).toNatClampNeg + st9.toNatClampNeg)).toNatClampNeg) := by rw [← Xz2_, ← ez6_, ← ez8_, ← ey7_, ← ey9_]; exact Int64.not_lt.mpr lc11_
        have R15_ : y13_ = wkF (σ.1 29).toNatClampNeg (cor σ) false (σ.2.1 32) (σ.2.2.1 42) st9.toNatClampNeg base ch9 := by rw [wk_7 (T := cor σ) K14_]; rw [if_neg (show ¬ OnK (cor σ) ch9 2 from o13), if_neg (show ¬ ((σ.2.2.1 42) (cor σ 20 (12 * (σ.1 29).toNatClampNeg + st9.toNatClampNeg)).toNatClampNeg < (σ.2.2.1 42) (cor σ 21 (12 * (σ.1 29).toNatClampNeg + st9.toNatClampNeg)).toNatClampNeg) from L16_)]; simp only [ez4_, ez6_, ey7_, ez8_, ey9_, ez10_, ez12_, ey13_, Xz2_] <;> rfl
        exact W.lret (v := y13_) hx hb hr (fun t ht hW => ⟨⟨y13_, σ, rfl, ⟨rfl, R15_⟩, wEn_of hP (hK.sub [] rfl) hD ht hW⟩, hS.F ht⟩) hS.2.2 dX12_work_363
      · have tc11_ := (show z10_.toInt < 0 from ti_nle rg_11 rfl c11_)
        have lc11_ : ¬ y9_ ≤ y7_ := fun h => c11_ (by rw [ez10_]; exact (lg_cmp_ge y7_ y9_).mpr h)
        refine lv_iconst (v := 1) hx hb dX12_work_328 rg_6 ?_
        refine lv_goto (tgt := 333) hx hb dX12_work_329 rfl ?_
        refine lv_istore (lv' := [(7, .int 1), (6, .int z2_), (0, .ref h), (1, .int st9), (2, .ref (ad 32)), (3, .int base), (4, .ref (ad 42)), (5, .int ch9)]) hx hb dX12_work_333 hl (Nat.le_of_ble_eq_true rfl) rfl (fun ls hl => ?_)
        refine lv_iload hx hb dX12_work_335 (lv_at hl 0 rfl) ?_
        refine lv_if_eq (tgt := 353) hx hb dX12_work_337 rfl (fun cc => absurd cc (by decide)) (fun _ => ?_)
        refine lv_aload hx hb dX12_work_340 (lv_at hl 6 rfl) ?_
        refine lv_aload_n hx hb dX12_work_342 rfl (lv_at hl 2 rfl) ?_
        refine va_get (D := (dC, dI)) (ci := 12) (v := .ref (ad 18)) (C := RX12) (T := TX12) (N := 59) hx hb hts hin12 hown hK hP 0 rfl rfl 18 (Nat.le_of_ble_eq_true rfl) (ho (.fieldLink RX12 42 "NearEnoughModel" "sA" "[I") (List.mem_of_getElem? (i := 4) rfl)) (fun _ h9 => h9) rfl dX12_work_343 ?_
        refine lv_iload hx hb dX12_work_346 (lv_at hl 1 rfl) ?_
        refine va_iald hx hb hK hP 10 9 rfl rfl (ti_inx o4 o5) dX12_work_348 ?_
        refine lv_topi (fun z17_ ez17_ => ?_)
        have gz17_ : z17_.toInt = ((σ.2.1 18) (Int32.toNatClampNeg z2_)).toInt := congrArg Int32.toInt (ez17_.trans (congrFun rfl (Int32.toNatClampNeg z2_)))
        have bz17_ : (-1) ≤ z17_.toInt ∧ z17_.toInt ≤ 11 := by rw [ez17_]; exact (hI.2 18) _ (cl_lt (n := 24) o4 o5)
        have o14 : 0 ≤ z17_.toInt := by omega
        have o15 : z17_.toInt < ((12 : Nat) : Int) := by omega
        refine va_lald hx hb hK hP 30 29 rfl rfl (ti_inx o14 o15) dX12_work_349 ?_
        refine lv_topl (fun y18_ ey18_ => ?_)
        refine lv_goto (tgt := 363) hx hb dX12_work_350 rfl ?_
        rw [hQ]
        have o16 : (σ.2.1 17 (Int32.toNatClampNeg z2_)).toInt = 7 := by omega
        have K19_ : (σ.2.1 17 (12 * (σ.1 29).toNatClampNeg + st9.toNatClampNeg)).toInt = 7 := by rw [← Xz2_]; exact o16
        have o17 : ¬ (0 ≤ ch9.toInt ∧ (σ.2.1 34 (Int32.toNatClampNeg ch9)).toInt = 2) := by omega
        have L21_ : (σ.2.2.1 42) (σ.2.1 20 (12 * (σ.1 29).toNatClampNeg + st9.toNatClampNeg)).toNatClampNeg < (σ.2.2.1 42) (σ.2.1 21 (12 * (σ.1 29).toNatClampNeg + st9.toNatClampNeg)).toNatClampNeg := by rw [← Xz2_, ← ez6_, ← ez8_, ← ey7_, ← ey9_]; exact Int64.not_le.mp lc11_
        have R20_ : y18_ = wkF (σ.1 29).toNatClampNeg (cor σ) false (σ.2.1 32) (σ.2.2.1 42) st9.toNatClampNeg base ch9 := by rw [wk_7 (T := cor σ) K19_]; rw [if_neg (show ¬ OnK (cor σ) ch9 2 from o17), if_pos (show (σ.2.2.1 42) (cor σ 20 (12 * (σ.1 29).toNatClampNeg + st9.toNatClampNeg)).toNatClampNeg < (σ.2.2.1 42) (cor σ 21 (12 * (σ.1 29).toNatClampNeg + st9.toNatClampNeg)).toNatClampNeg from L21_)]; simp only [ez4_, ez6_, ey7_, ez8_, ey9_, ez10_, ez17_, ey18_, Xz2_] <;> rfl
        exact W.lret (v := y18_) hx hb hr (fun t ht hW => ⟨⟨y18_, σ, rfl, ⟨rfl, R20_⟩, wEn_of hP (hK.sub [] rfl) hD ht hW⟩, hS.F ht⟩) hS.2.2 dX12_work_363
    · have tc5_ := (show 0 ≤ ch9.toInt from ti_nlt rfl rg_11 c5_)
      refine lv_aload_n hx hb dX12_work_275 rfl (lv_at hl 1 rfl) ?_
      refine va_get (D := (dC, dI)) (ci := 12) (v := .ref (ad 34)) (C := RX12) (T := TX12) (N := 59) hx hb hts hin12 hown hK hP 0 rfl rfl 34 (Nat.le_of_ble_eq_true rfl) (ho (.fieldLink RX12 85 "NearEnoughModel" "cKind" "[I") (List.mem_of_getElem? (i := 5) rfl)) (fun _ h9 => h9) rfl dX12_work_276 ?_
      refine lv_iload hx hb dX12_work_279 (lv_at hl 6 rfl) ?_
      have o18 : 0 ≤ ch9.toInt := by omega
      have o19 : ch9.toInt < ((12 : Nat) : Int) := by omega
      refine va_iald hx hb hK hP 24 23 rfl rfl (ti_inx o18 o19) dX12_work_281 ?_
      refine lv_topi (fun z22_ ez22_ => ?_)
      have gz22_ : z22_.toInt = ((σ.2.1 34) (Int32.toNatClampNeg ch9)).toInt := congrArg Int32.toInt (ez22_.trans (congrFun rfl (Int32.toNatClampNeg ch9)))
      have bz22_ : 0 ≤ z22_.toInt ∧ z22_.toInt ≤ 6 := by rw [ez22_]; exact (hI.2 34) _ (cl_lt (n := 12) o18 o19)
      refine lv_iconst (v := 2) hx hb dX12_work_282 rg_19 ?_
      refine lv_icmp_ne (tgt := 304) hx hb dX12_work_283 rfl (fun c23_ => ?_) (fun c23_ => ?_)
      · have tc23_ := (show z22_.toInt ≠ 2 from ti_ne rfl rg_20 c23_)
        refine lv_aload hx hb dX12_work_304 (lv_at hl 5 rfl) ?_
        refine lv_aload_n hx hb dX12_work_306 rfl (lv_at hl 1 rfl) ?_
        refine va_get (D := (dC, dI)) (ci := 12) (v := .ref (ad 20)) (C := RX12) (T := TX12) (N := 59) hx hb hts hin12 hown hK hP 0 rfl rfl 20 (Nat.le_of_ble_eq_true rfl) (ho (.fieldLink RX12 48 "NearEnoughModel" "sC" "[I") (List.mem_of_getElem? (i := 1) rfl)) (fun _ h9 => h9) rfl dX12_work_307 ?_
        refine lv_iload hx hb dX12_work_310 (lv_at hl 0 rfl) ?_
        refine va_iald hx hb hK hP 12 11 rfl rfl (ti_inx o4 o5) dX12_work_312 ?_
        refine lv_topi (fun z24_ ez24_ => ?_)
        have gz24_ : z24_.toInt = ((σ.2.1 20) (Int32.toNatClampNeg z2_)).toInt := congrArg Int32.toInt (ez24_.trans (congrFun rfl (Int32.toNatClampNeg z2_)))
        have bz24_ : (-1) ≤ z24_.toInt ∧ z24_.toInt ≤ 99 := by rw [ez24_]; exact (hI.2 20) _ (cl_lt (n := 24) o4 o5)
        have o20 : 0 ≤ z24_.toInt := by omega
        have o21 : z24_.toInt < ((12 : Nat) : Int) := by omega
        refine va_lald hx hb hK hP 30 29 rfl rfl (ti_inx o20 o21) dX12_work_313 ?_
        refine lv_topl (fun y25_ ey25_ => ?_)
        refine lv_aload hx hb dX12_work_314 (lv_at hl 5 rfl) ?_
        refine lv_aload_n hx hb dX12_work_316 rfl (lv_at hl 1 rfl) ?_
        refine va_get (D := (dC, dI)) (ci := 12) (v := .ref (ad 21)) (C := RX12) (T := TX12) (N := 59) hx hb hts hin12 hown hK hP 0 rfl rfl 21 (Nat.le_of_ble_eq_true rfl) (ho (.fieldLink RX12 51 "NearEnoughModel" "sD" "[I") (List.mem_of_getElem? (i := 2) rfl)) (fun _ h9 => h9) rfl dX12_work_317 ?_
        refine lv_iload hx hb dX12_work_320 (lv_at hl 0 rfl) ?_
        refine va_iald hx hb hK hP 13 12 rfl rfl (ti_inx o4 o5) dX12_work_322 ?_
        refine lv_topi (fun z26_ ez26_ => ?_)
        have gz26_ : z26_.toInt = ((σ.2.1 21) (Int32.toNatClampNeg z2_)).toInt := congrArg Int32.toInt (ez26_.trans (congrFun rfl (Int32.toNatClampNeg z2_)))
        have bz26_ : (-1) ≤ z26_.toInt ∧ z26_.toInt ≤ 11 := by rw [ez26_]; exact (hI.2 21) _ (cl_lt (n := 24) o4 o5)
        have o22 : 0 ≤ z26_.toInt := by omega
        have o23 : z26_.toInt < ((12 : Nat) : Int) := by omega
        refine va_lald hx hb hK hP 30 29 rfl rfl (ti_inx o22 o23) dX12_work_323 ?_
        refine lv_topl (fun y27_ ey27_ => ?_)
        refine W.lcmp hx hb dX12_work_324 ?_
        refine lv_topi (fun z28_ ez28_ => ?_)
        refine lv_if_ge (tgt := 332) hx hb dX12_work_325 rfl (fun c29_ => ?_) (fun c29_ => ?_)
        · have tc29_ := (show 0 ≤ z28_.toInt from ti_le rg_11 rfl c29_)
          have lc29_ : y27_ ≤ y25_ := (lg_cmp_ge y25_ y27_).mp (by rw [← ez28_]; exact c29_)
          refine lv_iconst (v := 0) hx hb dX12_work_332 rg_0 ?_
          refine lv_istore (lv' := [(7, .int 0), (6, .int z2_), (0, .ref h), (1, .int st9), (2, .ref (ad 32)), (3, .int base), (4, .ref (ad 42)), (5, .int ch9)]) hx hb dX12_work_333 hl (Nat.le_of_ble_eq_true rfl) rfl (fun ls hl => ?_)
          refine lv_iload hx hb dX12_work_335 (lv_at hl 0 rfl) ?_
          refine lv_if_eq (tgt := 353) hx hb dX12_work_337 rfl (fun _ => ?_) (fun cc => absurd (by decide) cc)
          refine lv_aload hx hb dX12_work_353 (lv_at hl 6 rfl) ?_
          refine lv_aload_n hx hb dX12_work_355 rfl (lv_at hl 2 rfl) ?_
          refine va_get (D := (dC, dI)) (ci := 12) (v := .ref (ad 19)) (C := RX12) (T := TX12) (N := 59) hx hb hts hin12 hown hK hP 0 rfl rfl 19 (Nat.le_of_ble_eq_true rfl) (ho (.fieldLink RX12 45 "NearEnoughModel" "sB" "[I") (List.mem_of_getElem? (i := 3) rfl)) (fun _ h9 => h9) rfl dX12_work_356 ?_
          refine lv_iload hx hb dX12_work_359 (lv_at hl 1 rfl) ?_
          refine va_iald hx hb hK hP 11 10 rfl rfl (ti_inx o4 o5) dX12_work_361 ?_
          refine lv_topi (fun z30_ ez30_ => ?_)
          have gz30_ : z30_.toInt = ((σ.2.1 19) (Int32.toNatClampNeg z2_)).toInt := congrArg Int32.toInt (ez30_.trans (congrFun rfl (Int32.toNatClampNeg z2_)))
          have bz30_ : (-99) ≤ z30_.toInt ∧ z30_.toInt ≤ 99 := by rw [ez30_]; exact (hI.2 19) _ (cl_lt (n := 24) o4 o5)
          have o24 : 0 ≤ z30_.toInt := by omega
          have o25 : z30_.toInt < ((12 : Nat) : Int) := by omega
          refine va_lald hx hb hK hP 30 29 rfl rfl (ti_inx o24 o25) dX12_work_362 ?_
          refine lv_topl (fun y31_ ey31_ => ?_)
          rw [hQ]
          have o26 : (σ.2.1 17 (Int32.toNatClampNeg z2_)).toInt = 7 := by omega
          have K32_ : (σ.2.1 17 (12 * (σ.1 29).toNatClampNeg + st9.toNatClampNeg)).toInt = 7 := by rw [← Xz2_]; exact o26
          have o27 : ¬ (0 ≤ ch9.toInt ∧ (σ.2.1 34 (Int32.toNatClampNeg ch9)).toInt = 2) := by omega
          have L34_ : ¬ ((σ.2.2.1 42) (σ.2.1 20 (12 * (σ.1 29).toNatClampNeg + st9.toNatClampNeg)).toNatClampNeg < (σ.2.2.1 42) (σ.2.1 21 (12 * (σ.1 29).toNatClampNeg + st9.toNatClampNeg)).toNatClampNeg) := by rw [← Xz2_, ← ez24_, ← ez26_, ← ey25_, ← ey27_]; exact Int64.not_lt.mpr lc29_
          have R33_ : y31_ = wkF (σ.1 29).toNatClampNeg (cor σ) false (σ.2.1 32) (σ.2.2.1 42) st9.toNatClampNeg base ch9 := by rw [wk_7 (T := cor σ) K32_]; rw [if_neg (show ¬ OnK (cor σ) ch9 2 from o27), if_neg (show ¬ ((σ.2.2.1 42) (cor σ 20 (12 * (σ.1 29).toNatClampNeg + st9.toNatClampNeg)).toNatClampNeg < (σ.2.2.1 42) (cor σ 21 (12 * (σ.1 29).toNatClampNeg + st9.toNatClampNeg)).toNatClampNeg) from L34_)]; simp only [ez4_, ez22_, ez24_, ey25_, ez26_, ey27_, ez28_, ez30_, ey31_, Xz2_] <;> rfl
          exact W.lret (v := y31_) hx hb hr (fun t ht hW => ⟨⟨y31_, σ, rfl, ⟨rfl, R33_⟩, wEn_of hP (hK.sub [] rfl) hD ht hW⟩, hS.F ht⟩) hS.2.2 dX12_work_363
        · have tc29_ := (show z28_.toInt < 0 from ti_nle rg_11 rfl c29_)
          have lc29_ : ¬ y27_ ≤ y25_ := fun h => c29_ (by rw [ez28_]; exact (lg_cmp_ge y25_ y27_).mpr h)
          refine lv_iconst (v := 1) hx hb dX12_work_328 rg_6 ?_
          refine lv_goto (tgt := 333) hx hb dX12_work_329 rfl ?_
          refine lv_istore (lv' := [(7, .int 1), (6, .int z2_), (0, .ref h), (1, .int st9), (2, .ref (ad 32)), (3, .int base), (4, .ref (ad 42)), (5, .int ch9)]) hx hb dX12_work_333 hl (Nat.le_of_ble_eq_true rfl) rfl (fun ls hl => ?_)
          refine lv_iload hx hb dX12_work_335 (lv_at hl 0 rfl) ?_
          refine lv_if_eq (tgt := 353) hx hb dX12_work_337 rfl (fun cc => absurd cc (by decide)) (fun _ => ?_)
          refine lv_aload hx hb dX12_work_340 (lv_at hl 6 rfl) ?_
          refine lv_aload_n hx hb dX12_work_342 rfl (lv_at hl 2 rfl) ?_
          refine va_get (D := (dC, dI)) (ci := 12) (v := .ref (ad 18)) (C := RX12) (T := TX12) (N := 59) hx hb hts hin12 hown hK hP 0 rfl rfl 18 (Nat.le_of_ble_eq_true rfl) (ho (.fieldLink RX12 42 "NearEnoughModel" "sA" "[I") (List.mem_of_getElem? (i := 4) rfl)) (fun _ h9 => h9) rfl dX12_work_343 ?_
          refine lv_iload hx hb dX12_work_346 (lv_at hl 1 rfl) ?_
          refine va_iald hx hb hK hP 10 9 rfl rfl (ti_inx o4 o5) dX12_work_348 ?_
          refine lv_topi (fun z35_ ez35_ => ?_)
          have gz35_ : z35_.toInt = ((σ.2.1 18) (Int32.toNatClampNeg z2_)).toInt := congrArg Int32.toInt (ez35_.trans (congrFun rfl (Int32.toNatClampNeg z2_)))
          have bz35_ : (-1) ≤ z35_.toInt ∧ z35_.toInt ≤ 11 := by rw [ez35_]; exact (hI.2 18) _ (cl_lt (n := 24) o4 o5)
          have o28 : 0 ≤ z35_.toInt := by omega
          have o29 : z35_.toInt < ((12 : Nat) : Int) := by omega
          refine va_lald hx hb hK hP 30 29 rfl rfl (ti_inx o28 o29) dX12_work_349 ?_
          refine lv_topl (fun y36_ ey36_ => ?_)
          refine lv_goto (tgt := 363) hx hb dX12_work_350 rfl ?_
          rw [hQ]
          have o30 : (σ.2.1 17 (Int32.toNatClampNeg z2_)).toInt = 7 := by omega
          have K37_ : (σ.2.1 17 (12 * (σ.1 29).toNatClampNeg + st9.toNatClampNeg)).toInt = 7 := by rw [← Xz2_]; exact o30
          have o31 : ¬ (0 ≤ ch9.toInt ∧ (σ.2.1 34 (Int32.toNatClampNeg ch9)).toInt = 2) := by omega
          have L39_ : (σ.2.2.1 42) (σ.2.1 20 (12 * (σ.1 29).toNatClampNeg + st9.toNatClampNeg)).toNatClampNeg < (σ.2.2.1 42) (σ.2.1 21 (12 * (σ.1 29).toNatClampNeg + st9.toNatClampNeg)).toNatClampNeg := by rw [← Xz2_, ← ez24_, ← ez26_, ← ey25_, ← ey27_]; exact Int64.not_le.mp lc29_
          have R38_ : y36_ = wkF (σ.1 29).toNatClampNeg (cor σ) false (σ.2.1 32) (σ.2.2.1 42) st9.toNatClampNeg base ch9 := by rw [wk_7 (T := cor σ) K37_]; rw [if_neg (show ¬ OnK (cor σ) ch9 2 from o31), if_pos (show (σ.2.2.1 42) (cor σ 20 (12 * (σ.1 29).toNatClampNeg + st9.toNatClampNeg)).toNatClampNeg < (σ.2.2.1 42) (cor σ 21 (12 * (σ.1 29).toNatClampNeg + st9.toNatClampNeg)).toNatClampNeg from L39_)]; simp only [ez4_, ez22_, ez24_, ey25_, ez26_, ey27_, ez28_, ez35_, ey36_, Xz2_] <;> rfl
          exact W.lret (v := y36_) hx hb hr (fun t ht hW => ⟨⟨y36_, σ, rfl, ⟨rfl, R38_⟩, wEn_of hP (hK.sub [] rfl) hD ht hW⟩, hS.F ht⟩) hS.2.2 dX12_work_363
      · have tc23_ := (show z22_.toInt = 2 from ti_eq rfl rg_20 c23_)
        refine lv_aload_n hx hb dX12_work_286 rfl (lv_at hl 1 rfl) ?_
        refine va_get (D := (dC, dI)) (ci := 12) (v := .ref (ad 35)) (C := RX12) (T := TX12) (N := 59) hx hb hts hin12 hown hK hP 0 rfl rfl 35 (Nat.le_of_ble_eq_true rfl) (ho (.fieldLink RX12 88 "NearEnoughModel" "cN" "[I") (List.mem_of_getElem? (i := 6) rfl)) (fun _ h9 => h9) rfl dX12_work_287 ?_
        refine lv_iload hx hb dX12_work_290 (lv_at hl 6 rfl) ?_
        refine va_iald hx hb hK hP 25 24 rfl rfl (ti_inx o18 o19) dX12_work_292 ?_
        refine lv_topi (fun z40_ ez40_ => ?_)
        have gz40_ : z40_.toInt = ((σ.2.1 35) (Int32.toNatClampNeg ch9)).toInt := congrArg Int32.toInt (ez40_.trans (congrFun rfl (Int32.toNatClampNeg ch9)))
        have bz40_ : 0 ≤ z40_.toInt ∧ z40_.toInt ≤ 99 := by rw [ez40_]; exact (hI.2 35) _ (cl_lt (n := 12) o18 o19)
        refine lv_if_ne (tgt := 300) hx hb dX12_work_293 rfl (fun c41_ => ?_) (fun c41_ => ?_)
        · have tc41_ := (show z40_.toInt ≠ 0 from ti_ne rfl rg_11 c41_)
          refine lv_iconst (v := 0) hx hb dX12_work_300 rg_0 ?_
          refine lv_goto (tgt := 333) hx hb dX12_work_301 rfl ?_
          refine lv_istore (lv' := [(7, .int 0), (6, .int z2_), (0, .ref h), (1, .int st9), (2, .ref (ad 32)), (3, .int base), (4, .ref (ad 42)), (5, .int ch9)]) hx hb dX12_work_333 hl (Nat.le_of_ble_eq_true rfl) rfl (fun ls hl => ?_)
          refine lv_iload hx hb dX12_work_335 (lv_at hl 0 rfl) ?_
          refine lv_if_eq (tgt := 353) hx hb dX12_work_337 rfl (fun _ => ?_) (fun cc => absurd (by decide) cc)
          refine lv_aload hx hb dX12_work_353 (lv_at hl 6 rfl) ?_
          refine lv_aload_n hx hb dX12_work_355 rfl (lv_at hl 2 rfl) ?_
          refine va_get (D := (dC, dI)) (ci := 12) (v := .ref (ad 19)) (C := RX12) (T := TX12) (N := 59) hx hb hts hin12 hown hK hP 0 rfl rfl 19 (Nat.le_of_ble_eq_true rfl) (ho (.fieldLink RX12 45 "NearEnoughModel" "sB" "[I") (List.mem_of_getElem? (i := 3) rfl)) (fun _ h9 => h9) rfl dX12_work_356 ?_
          refine lv_iload hx hb dX12_work_359 (lv_at hl 1 rfl) ?_
          refine va_iald hx hb hK hP 11 10 rfl rfl (ti_inx o4 o5) dX12_work_361 ?_
          refine lv_topi (fun z42_ ez42_ => ?_)
          have gz42_ : z42_.toInt = ((σ.2.1 19) (Int32.toNatClampNeg z2_)).toInt := congrArg Int32.toInt (ez42_.trans (congrFun rfl (Int32.toNatClampNeg z2_)))
          have bz42_ : (-99) ≤ z42_.toInt ∧ z42_.toInt ≤ 99 := by rw [ez42_]; exact (hI.2 19) _ (cl_lt (n := 24) o4 o5)
          have o32 : 0 ≤ z42_.toInt := by omega
          have o33 : z42_.toInt < ((12 : Nat) : Int) := by omega
          refine va_lald hx hb hK hP 30 29 rfl rfl (ti_inx o32 o33) dX12_work_362 ?_
          refine lv_topl (fun y43_ ey43_ => ?_)
          rw [hQ]
          have o34 : (σ.2.1 17 (Int32.toNatClampNeg z2_)).toInt = 7 := by omega
          have K44_ : (σ.2.1 17 (12 * (σ.1 29).toNatClampNeg + st9.toNatClampNeg)).toInt = 7 := by rw [← Xz2_]; exact o34
          have o35 : 0 ≤ ch9.toInt ∧ (σ.2.1 34 (Int32.toNatClampNeg ch9)).toInt = 2 := by omega
          have o36 : ¬ (σ.2.1 35 (Int32.toNatClampNeg ch9)).toInt = 0 := by omega
          have R45_ : y43_ = wkF (σ.1 29).toNatClampNeg (cor σ) false (σ.2.1 32) (σ.2.2.1 42) st9.toNatClampNeg base ch9 := by rw [wk_7 (T := cor σ) K44_]; rw [if_pos (show OnK (cor σ) ch9 2 from o35), if_neg (show ¬ (cor σ 35 (Int32.toNatClampNeg ch9)).toInt = 0 from o36)]; simp only [ez4_, ez22_, ez40_, ez42_, ey43_, Xz2_] <;> rfl
          exact W.lret (v := y43_) hx hb hr (fun t ht hW => ⟨⟨y43_, σ, rfl, ⟨rfl, R45_⟩, wEn_of hP (hK.sub [] rfl) hD ht hW⟩, hS.F ht⟩) hS.2.2 dX12_work_363
        · have tc41_ := (show z40_.toInt = 0 from ti_eq rfl rg_11 c41_)
          refine lv_iconst (v := 1) hx hb dX12_work_296 rg_6 ?_
          refine lv_goto (tgt := 333) hx hb dX12_work_297 rfl ?_
          refine lv_istore (lv' := [(7, .int 1), (6, .int z2_), (0, .ref h), (1, .int st9), (2, .ref (ad 32)), (3, .int base), (4, .ref (ad 42)), (5, .int ch9)]) hx hb dX12_work_333 hl (Nat.le_of_ble_eq_true rfl) rfl (fun ls hl => ?_)
          refine lv_iload hx hb dX12_work_335 (lv_at hl 0 rfl) ?_
          refine lv_if_eq (tgt := 353) hx hb dX12_work_337 rfl (fun cc => absurd cc (by decide)) (fun _ => ?_)
          refine lv_aload hx hb dX12_work_340 (lv_at hl 6 rfl) ?_
          refine lv_aload_n hx hb dX12_work_342 rfl (lv_at hl 2 rfl) ?_
          refine va_get (D := (dC, dI)) (ci := 12) (v := .ref (ad 18)) (C := RX12) (T := TX12) (N := 59) hx hb hts hin12 hown hK hP 0 rfl rfl 18 (Nat.le_of_ble_eq_true rfl) (ho (.fieldLink RX12 42 "NearEnoughModel" "sA" "[I") (List.mem_of_getElem? (i := 4) rfl)) (fun _ h9 => h9) rfl dX12_work_343 ?_
          refine lv_iload hx hb dX12_work_346 (lv_at hl 1 rfl) ?_
          refine va_iald hx hb hK hP 10 9 rfl rfl (ti_inx o4 o5) dX12_work_348 ?_
          refine lv_topi (fun z46_ ez46_ => ?_)
          have gz46_ : z46_.toInt = ((σ.2.1 18) (Int32.toNatClampNeg z2_)).toInt := congrArg Int32.toInt (ez46_.trans (congrFun rfl (Int32.toNatClampNeg z2_)))
          have bz46_ : (-1) ≤ z46_.toInt ∧ z46_.toInt ≤ 11 := by rw [ez46_]; exact (hI.2 18) _ (cl_lt (n := 24) o4 o5)
          have o37 : 0 ≤ z46_.toInt := by omega
          have o38 : z46_.toInt < ((12 : Nat) : Int) := by omega
          refine va_lald hx hb hK hP 30 29 rfl rfl (ti_inx o37 o38) dX12_work_349 ?_
          refine lv_topl (fun y47_ ey47_ => ?_)
          refine lv_goto (tgt := 363) hx hb dX12_work_350 rfl ?_
          rw [hQ]
          have o39 : (σ.2.1 17 (Int32.toNatClampNeg z2_)).toInt = 7 := by omega
          have K48_ : (σ.2.1 17 (12 * (σ.1 29).toNatClampNeg + st9.toNatClampNeg)).toInt = 7 := by rw [← Xz2_]; exact o39
          have o40 : 0 ≤ ch9.toInt ∧ (σ.2.1 34 (Int32.toNatClampNeg ch9)).toInt = 2 := by omega
          have o41 : (σ.2.1 35 (Int32.toNatClampNeg ch9)).toInt = 0 := by omega
          have R49_ : y47_ = wkF (σ.1 29).toNatClampNeg (cor σ) false (σ.2.1 32) (σ.2.2.1 42) st9.toNatClampNeg base ch9 := by rw [wk_7 (T := cor σ) K48_]; rw [if_pos (show OnK (cor σ) ch9 2 from o40), if_pos (show (cor σ 35 (Int32.toNatClampNeg ch9)).toInt = 0 from o41)]; simp only [ez4_, ez22_, ez40_, ez46_, ey47_, Xz2_] <;> rfl
          exact W.lret (v := y47_) hx hb hr (fun t ht hW => ⟨⟨y47_, σ, rfl, ⟨rfl, R49_⟩, wEn_of hP (hK.sub [] rfl) hD ht hW⟩, hS.F ht⟩) hS.2.2 dX12_work_363
  · by_cases c_hi : 6 < z4_.toInt
    · refine lv_tableOut (tgt := 270) hx hb dX12_work_14 (Or.inr c_hi) rfl ?_
      refine lv_iload hx hb dX12_work_270 (lv_at hl 6 rfl) ?_
      refine lv_if_lt (tgt := 304) hx hb dX12_work_272 rfl (fun c50_ => ?_) (fun c50_ => ?_)
      · have tc50_ := (show ch9.toInt < 0 from ti_lt rfl rg_11 c50_)
        refine lv_aload hx hb dX12_work_304 (lv_at hl 5 rfl) ?_
        refine lv_aload_n hx hb dX12_work_306 rfl (lv_at hl 1 rfl) ?_
        refine va_get (D := (dC, dI)) (ci := 12) (v := .ref (ad 20)) (C := RX12) (T := TX12) (N := 59) hx hb hts hin12 hown hK hP 0 rfl rfl 20 (Nat.le_of_ble_eq_true rfl) (ho (.fieldLink RX12 48 "NearEnoughModel" "sC" "[I") (List.mem_of_getElem? (i := 1) rfl)) (fun _ h9 => h9) rfl dX12_work_307 ?_
        refine lv_iload hx hb dX12_work_310 (lv_at hl 0 rfl) ?_
        refine va_iald hx hb hK hP 12 11 rfl rfl (ti_inx o4 o5) dX12_work_312 ?_
        refine lv_topi (fun z51_ ez51_ => ?_)
        have gz51_ : z51_.toInt = ((σ.2.1 20) (Int32.toNatClampNeg z2_)).toInt := congrArg Int32.toInt (ez51_.trans (congrFun rfl (Int32.toNatClampNeg z2_)))
        have bz51_ : (-1) ≤ z51_.toInt ∧ z51_.toInt ≤ 99 := by rw [ez51_]; exact (hI.2 20) _ (cl_lt (n := 24) o4 o5)
        have o42 : 0 ≤ z51_.toInt := by omega
        have o43 : z51_.toInt < ((12 : Nat) : Int) := by omega
        refine va_lald hx hb hK hP 30 29 rfl rfl (ti_inx o42 o43) dX12_work_313 ?_
        refine lv_topl (fun y52_ ey52_ => ?_)
        refine lv_aload hx hb dX12_work_314 (lv_at hl 5 rfl) ?_
        refine lv_aload_n hx hb dX12_work_316 rfl (lv_at hl 1 rfl) ?_
        refine va_get (D := (dC, dI)) (ci := 12) (v := .ref (ad 21)) (C := RX12) (T := TX12) (N := 59) hx hb hts hin12 hown hK hP 0 rfl rfl 21 (Nat.le_of_ble_eq_true rfl) (ho (.fieldLink RX12 51 "NearEnoughModel" "sD" "[I") (List.mem_of_getElem? (i := 2) rfl)) (fun _ h9 => h9) rfl dX12_work_317 ?_
        refine lv_iload hx hb dX12_work_320 (lv_at hl 0 rfl) ?_
        refine va_iald hx hb hK hP 13 12 rfl rfl (ti_inx o4 o5) dX12_work_322 ?_
        refine lv_topi (fun z53_ ez53_ => ?_)
        have gz53_ : z53_.toInt = ((σ.2.1 21) (Int32.toNatClampNeg z2_)).toInt := congrArg Int32.toInt (ez53_.trans (congrFun rfl (Int32.toNatClampNeg z2_)))
        have bz53_ : (-1) ≤ z53_.toInt ∧ z53_.toInt ≤ 11 := by rw [ez53_]; exact (hI.2 21) _ (cl_lt (n := 24) o4 o5)
        have o44 : 0 ≤ z53_.toInt := by omega
        have o45 : z53_.toInt < ((12 : Nat) : Int) := by omega
        refine va_lald hx hb hK hP 30 29 rfl rfl (ti_inx o44 o45) dX12_work_323 ?_
        refine lv_topl (fun y54_ ey54_ => ?_)
        refine W.lcmp hx hb dX12_work_324 ?_
        refine lv_topi (fun z55_ ez55_ => ?_)
        refine lv_if_ge (tgt := 332) hx hb dX12_work_325 rfl (fun c56_ => ?_) (fun c56_ => ?_)
        · have tc56_ := (show 0 ≤ z55_.toInt from ti_le rg_11 rfl c56_)
          have lc56_ : y54_ ≤ y52_ := (lg_cmp_ge y52_ y54_).mp (by rw [← ez55_]; exact c56_)
          refine lv_iconst (v := 0) hx hb dX12_work_332 rg_0 ?_
          refine lv_istore (lv' := [(7, .int 0), (6, .int z2_), (0, .ref h), (1, .int st9), (2, .ref (ad 32)), (3, .int base), (4, .ref (ad 42)), (5, .int ch9)]) hx hb dX12_work_333 hl (Nat.le_of_ble_eq_true rfl) rfl (fun ls hl => ?_)
          refine lv_iload hx hb dX12_work_335 (lv_at hl 0 rfl) ?_
          refine lv_if_eq (tgt := 353) hx hb dX12_work_337 rfl (fun _ => ?_) (fun cc => absurd (by decide) cc)
          refine lv_aload hx hb dX12_work_353 (lv_at hl 6 rfl) ?_
          refine lv_aload_n hx hb dX12_work_355 rfl (lv_at hl 2 rfl) ?_
          refine va_get (D := (dC, dI)) (ci := 12) (v := .ref (ad 19)) (C := RX12) (T := TX12) (N := 59) hx hb hts hin12 hown hK hP 0 rfl rfl 19 (Nat.le_of_ble_eq_true rfl) (ho (.fieldLink RX12 45 "NearEnoughModel" "sB" "[I") (List.mem_of_getElem? (i := 3) rfl)) (fun _ h9 => h9) rfl dX12_work_356 ?_
          refine lv_iload hx hb dX12_work_359 (lv_at hl 1 rfl) ?_
          refine va_iald hx hb hK hP 11 10 rfl rfl (ti_inx o4 o5) dX12_work_361 ?_
          refine lv_topi (fun z57_ ez57_ => ?_)
          have gz57_ : z57_.toInt = ((σ.2.1 19) (Int32.toNatClampNeg z2_)).toInt := congrArg Int32.toInt (ez57_.trans (congrFun rfl (Int32.toNatClampNeg z2_)))
          have bz57_ : (-99) ≤ z57_.toInt ∧ z57_.toInt ≤ 99 := by rw [ez57_]; exact (hI.2 19) _ (cl_lt (n := 24) o4 o5)
          have o46 : 0 ≤ z57_.toInt := by omega
          have o47 : z57_.toInt < ((12 : Nat) : Int) := by omega
          refine va_lald hx hb hK hP 30 29 rfl rfl (ti_inx o46 o47) dX12_work_362 ?_
          refine lv_topl (fun y58_ ey58_ => ?_)
          rw [hQ]
          have o48 : (σ.2.1 17 (Int32.toNatClampNeg z2_)).toInt = 7 := by omega
          have K59_ : (σ.2.1 17 (12 * (σ.1 29).toNatClampNeg + st9.toNatClampNeg)).toInt = 7 := by rw [← Xz2_]; exact o48
          have o49 : ¬ (0 ≤ ch9.toInt ∧ (σ.2.1 34 (Int32.toNatClampNeg ch9)).toInt = 2) := by omega
          have L61_ : ¬ ((σ.2.2.1 42) (σ.2.1 20 (12 * (σ.1 29).toNatClampNeg + st9.toNatClampNeg)).toNatClampNeg < (σ.2.2.1 42) (σ.2.1 21 (12 * (σ.1 29).toNatClampNeg + st9.toNatClampNeg)).toNatClampNeg) := by rw [← Xz2_, ← ez51_, ← ez53_, ← ey52_, ← ey54_]; exact Int64.not_lt.mpr lc56_
          have R60_ : y58_ = wkF (σ.1 29).toNatClampNeg (cor σ) false (σ.2.1 32) (σ.2.2.1 42) st9.toNatClampNeg base ch9 := by rw [wk_7 (T := cor σ) K59_]; rw [if_neg (show ¬ OnK (cor σ) ch9 2 from o49), if_neg (show ¬ ((σ.2.2.1 42) (cor σ 20 (12 * (σ.1 29).toNatClampNeg + st9.toNatClampNeg)).toNatClampNeg < (σ.2.2.1 42) (cor σ 21 (12 * (σ.1 29).toNatClampNeg + st9.toNatClampNeg)).toNatClampNeg) from L61_)]; simp only [ez4_, ez51_, ey52_, ez53_, ey54_, ez55_, ez57_, ey58_, Xz2_] <;> rfl
          exact W.lret (v := y58_) hx hb hr (fun t ht hW => ⟨⟨y58_, σ, rfl, ⟨rfl, R60_⟩, wEn_of hP (hK.sub [] rfl) hD ht hW⟩, hS.F ht⟩) hS.2.2 dX12_work_363
        · have tc56_ := (show z55_.toInt < 0 from ti_nle rg_11 rfl c56_)
          have lc56_ : ¬ y54_ ≤ y52_ := fun h => c56_ (by rw [ez55_]; exact (lg_cmp_ge y52_ y54_).mpr h)
          refine lv_iconst (v := 1) hx hb dX12_work_328 rg_6 ?_
          refine lv_goto (tgt := 333) hx hb dX12_work_329 rfl ?_
          refine lv_istore (lv' := [(7, .int 1), (6, .int z2_), (0, .ref h), (1, .int st9), (2, .ref (ad 32)), (3, .int base), (4, .ref (ad 42)), (5, .int ch9)]) hx hb dX12_work_333 hl (Nat.le_of_ble_eq_true rfl) rfl (fun ls hl => ?_)
          refine lv_iload hx hb dX12_work_335 (lv_at hl 0 rfl) ?_
          refine lv_if_eq (tgt := 353) hx hb dX12_work_337 rfl (fun cc => absurd cc (by decide)) (fun _ => ?_)
          refine lv_aload hx hb dX12_work_340 (lv_at hl 6 rfl) ?_
          refine lv_aload_n hx hb dX12_work_342 rfl (lv_at hl 2 rfl) ?_
          refine va_get (D := (dC, dI)) (ci := 12) (v := .ref (ad 18)) (C := RX12) (T := TX12) (N := 59) hx hb hts hin12 hown hK hP 0 rfl rfl 18 (Nat.le_of_ble_eq_true rfl) (ho (.fieldLink RX12 42 "NearEnoughModel" "sA" "[I") (List.mem_of_getElem? (i := 4) rfl)) (fun _ h9 => h9) rfl dX12_work_343 ?_
          refine lv_iload hx hb dX12_work_346 (lv_at hl 1 rfl) ?_
          refine va_iald hx hb hK hP 10 9 rfl rfl (ti_inx o4 o5) dX12_work_348 ?_
          refine lv_topi (fun z62_ ez62_ => ?_)
          have gz62_ : z62_.toInt = ((σ.2.1 18) (Int32.toNatClampNeg z2_)).toInt := congrArg Int32.toInt (ez62_.trans (congrFun rfl (Int32.toNatClampNeg z2_)))
          have bz62_ : (-1) ≤ z62_.toInt ∧ z62_.toInt ≤ 11 := by rw [ez62_]; exact (hI.2 18) _ (cl_lt (n := 24) o4 o5)
          have o50 : 0 ≤ z62_.toInt := by omega
          have o51 : z62_.toInt < ((12 : Nat) : Int) := by omega
          refine va_lald hx hb hK hP 30 29 rfl rfl (ti_inx o50 o51) dX12_work_349 ?_
          refine lv_topl (fun y63_ ey63_ => ?_)
          refine lv_goto (tgt := 363) hx hb dX12_work_350 rfl ?_
          rw [hQ]
          have o52 : (σ.2.1 17 (Int32.toNatClampNeg z2_)).toInt = 7 := by omega
          have K64_ : (σ.2.1 17 (12 * (σ.1 29).toNatClampNeg + st9.toNatClampNeg)).toInt = 7 := by rw [← Xz2_]; exact o52
          have o53 : ¬ (0 ≤ ch9.toInt ∧ (σ.2.1 34 (Int32.toNatClampNeg ch9)).toInt = 2) := by omega
          have L66_ : (σ.2.2.1 42) (σ.2.1 20 (12 * (σ.1 29).toNatClampNeg + st9.toNatClampNeg)).toNatClampNeg < (σ.2.2.1 42) (σ.2.1 21 (12 * (σ.1 29).toNatClampNeg + st9.toNatClampNeg)).toNatClampNeg := by rw [← Xz2_, ← ez51_, ← ez53_, ← ey52_, ← ey54_]; exact Int64.not_le.mp lc56_
          have R65_ : y63_ = wkF (σ.1 29).toNatClampNeg (cor σ) false (σ.2.1 32) (σ.2.2.1 42) st9.toNatClampNeg base ch9 := by rw [wk_7 (T := cor σ) K64_]; rw [if_neg (show ¬ OnK (cor σ) ch9 2 from o53), if_pos (show (σ.2.2.1 42) (cor σ 20 (12 * (σ.1 29).toNatClampNeg + st9.toNatClampNeg)).toNatClampNeg < (σ.2.2.1 42) (cor σ 21 (12 * (σ.1 29).toNatClampNeg + st9.toNatClampNeg)).toNatClampNeg from L66_)]; simp only [ez4_, ez51_, ey52_, ez53_, ey54_, ez55_, ez62_, ey63_, Xz2_] <;> rfl
          exact W.lret (v := y63_) hx hb hr (fun t ht hW => ⟨⟨y63_, σ, rfl, ⟨rfl, R65_⟩, wEn_of hP (hK.sub [] rfl) hD ht hW⟩, hS.F ht⟩) hS.2.2 dX12_work_363
      · have tc50_ := (show 0 ≤ ch9.toInt from ti_nlt rfl rg_11 c50_)
        refine lv_aload_n hx hb dX12_work_275 rfl (lv_at hl 1 rfl) ?_
        refine va_get (D := (dC, dI)) (ci := 12) (v := .ref (ad 34)) (C := RX12) (T := TX12) (N := 59) hx hb hts hin12 hown hK hP 0 rfl rfl 34 (Nat.le_of_ble_eq_true rfl) (ho (.fieldLink RX12 85 "NearEnoughModel" "cKind" "[I") (List.mem_of_getElem? (i := 5) rfl)) (fun _ h9 => h9) rfl dX12_work_276 ?_
        refine lv_iload hx hb dX12_work_279 (lv_at hl 6 rfl) ?_
        have o54 : 0 ≤ ch9.toInt := by omega
        have o55 : ch9.toInt < ((12 : Nat) : Int) := by omega
        refine va_iald hx hb hK hP 24 23 rfl rfl (ti_inx o54 o55) dX12_work_281 ?_
        refine lv_topi (fun z67_ ez67_ => ?_)
        have gz67_ : z67_.toInt = ((σ.2.1 34) (Int32.toNatClampNeg ch9)).toInt := congrArg Int32.toInt (ez67_.trans (congrFun rfl (Int32.toNatClampNeg ch9)))
        have bz67_ : 0 ≤ z67_.toInt ∧ z67_.toInt ≤ 6 := by rw [ez67_]; exact (hI.2 34) _ (cl_lt (n := 12) o54 o55)
        refine lv_iconst (v := 2) hx hb dX12_work_282 rg_19 ?_
        refine lv_icmp_ne (tgt := 304) hx hb dX12_work_283 rfl (fun c68_ => ?_) (fun c68_ => ?_)
        · have tc68_ := (show z67_.toInt ≠ 2 from ti_ne rfl rg_20 c68_)
          refine lv_aload hx hb dX12_work_304 (lv_at hl 5 rfl) ?_
          refine lv_aload_n hx hb dX12_work_306 rfl (lv_at hl 1 rfl) ?_
          refine va_get (D := (dC, dI)) (ci := 12) (v := .ref (ad 20)) (C := RX12) (T := TX12) (N := 59) hx hb hts hin12 hown hK hP 0 rfl rfl 20 (Nat.le_of_ble_eq_true rfl) (ho (.fieldLink RX12 48 "NearEnoughModel" "sC" "[I") (List.mem_of_getElem? (i := 1) rfl)) (fun _ h9 => h9) rfl dX12_work_307 ?_
          refine lv_iload hx hb dX12_work_310 (lv_at hl 0 rfl) ?_
          refine va_iald hx hb hK hP 12 11 rfl rfl (ti_inx o4 o5) dX12_work_312 ?_
          refine lv_topi (fun z69_ ez69_ => ?_)
          have gz69_ : z69_.toInt = ((σ.2.1 20) (Int32.toNatClampNeg z2_)).toInt := congrArg Int32.toInt (ez69_.trans (congrFun rfl (Int32.toNatClampNeg z2_)))
          have bz69_ : (-1) ≤ z69_.toInt ∧ z69_.toInt ≤ 99 := by rw [ez69_]; exact (hI.2 20) _ (cl_lt (n := 24) o4 o5)
          have o56 : 0 ≤ z69_.toInt := by omega
          have o57 : z69_.toInt < ((12 : Nat) : Int) := by omega
          refine va_lald hx hb hK hP 30 29 rfl rfl (ti_inx o56 o57) dX12_work_313 ?_
          refine lv_topl (fun y70_ ey70_ => ?_)
          refine lv_aload hx hb dX12_work_314 (lv_at hl 5 rfl) ?_
          refine lv_aload_n hx hb dX12_work_316 rfl (lv_at hl 1 rfl) ?_
          refine va_get (D := (dC, dI)) (ci := 12) (v := .ref (ad 21)) (C := RX12) (T := TX12) (N := 59) hx hb hts hin12 hown hK hP 0 rfl rfl 21 (Nat.le_of_ble_eq_true rfl) (ho (.fieldLink RX12 51 "NearEnoughModel" "sD" "[I") (List.mem_of_getElem? (i := 2) rfl)) (fun _ h9 => h9) rfl dX12_work_317 ?_
          refine lv_iload hx hb dX12_work_320 (lv_at hl 0 rfl) ?_
          refine va_iald hx hb hK hP 13 12 rfl rfl (ti_inx o4 o5) dX12_work_322 ?_
          refine lv_topi (fun z71_ ez71_ => ?_)
          have gz71_ : z71_.toInt = ((σ.2.1 21) (Int32.toNatClampNeg z2_)).toInt := congrArg Int32.toInt (ez71_.trans (congrFun rfl (Int32.toNatClampNeg z2_)))
          have bz71_ : (-1) ≤ z71_.toInt ∧ z71_.toInt ≤ 11 := by rw [ez71_]; exact (hI.2 21) _ (cl_lt (n := 24) o4 o5)
          have o58 : 0 ≤ z71_.toInt := by omega
          have o59 : z71_.toInt < ((12 : Nat) : Int) := by omega
          refine va_lald hx hb hK hP 30 29 rfl rfl (ti_inx o58 o59) dX12_work_323 ?_
          refine lv_topl (fun y72_ ey72_ => ?_)
          refine W.lcmp hx hb dX12_work_324 ?_
          refine lv_topi (fun z73_ ez73_ => ?_)
          refine lv_if_ge (tgt := 332) hx hb dX12_work_325 rfl (fun c74_ => ?_) (fun c74_ => ?_)
          · have tc74_ := (show 0 ≤ z73_.toInt from ti_le rg_11 rfl c74_)
            have lc74_ : y72_ ≤ y70_ := (lg_cmp_ge y70_ y72_).mp (by rw [← ez73_]; exact c74_)
            refine lv_iconst (v := 0) hx hb dX12_work_332 rg_0 ?_
            refine lv_istore (lv' := [(7, .int 0), (6, .int z2_), (0, .ref h), (1, .int st9), (2, .ref (ad 32)), (3, .int base), (4, .ref (ad 42)), (5, .int ch9)]) hx hb dX12_work_333 hl (Nat.le_of_ble_eq_true rfl) rfl (fun ls hl => ?_)
            refine lv_iload hx hb dX12_work_335 (lv_at hl 0 rfl) ?_
            refine lv_if_eq (tgt := 353) hx hb dX12_work_337 rfl (fun _ => ?_) (fun cc => absurd (by decide) cc)
            refine lv_aload hx hb dX12_work_353 (lv_at hl 6 rfl) ?_
            refine lv_aload_n hx hb dX12_work_355 rfl (lv_at hl 2 rfl) ?_
            refine va_get (D := (dC, dI)) (ci := 12) (v := .ref (ad 19)) (C := RX12) (T := TX12) (N := 59) hx hb hts hin12 hown hK hP 0 rfl rfl 19 (Nat.le_of_ble_eq_true rfl) (ho (.fieldLink RX12 45 "NearEnoughModel" "sB" "[I") (List.mem_of_getElem? (i := 3) rfl)) (fun _ h9 => h9) rfl dX12_work_356 ?_
            refine lv_iload hx hb dX12_work_359 (lv_at hl 1 rfl) ?_
            refine va_iald hx hb hK hP 11 10 rfl rfl (ti_inx o4 o5) dX12_work_361 ?_
            refine lv_topi (fun z75_ ez75_ => ?_)
            have gz75_ : z75_.toInt = ((σ.2.1 19) (Int32.toNatClampNeg z2_)).toInt := congrArg Int32.toInt (ez75_.trans (congrFun rfl (Int32.toNatClampNeg z2_)))
            have bz75_ : (-99) ≤ z75_.toInt ∧ z75_.toInt ≤ 99 := by rw [ez75_]; exact (hI.2 19) _ (cl_lt (n := 24) o4 o5)
            have o60 : 0 ≤ z75_.toInt := by omega
            have o61 : z75_.toInt < ((12 : Nat) : Int) := by omega
            refine va_lald hx hb hK hP 30 29 rfl rfl (ti_inx o60 o61) dX12_work_362 ?_
            refine lv_topl (fun y76_ ey76_ => ?_)
            rw [hQ]
            have o62 : (σ.2.1 17 (Int32.toNatClampNeg z2_)).toInt = 7 := by omega
            have K77_ : (σ.2.1 17 (12 * (σ.1 29).toNatClampNeg + st9.toNatClampNeg)).toInt = 7 := by rw [← Xz2_]; exact o62
            have o63 : ¬ (0 ≤ ch9.toInt ∧ (σ.2.1 34 (Int32.toNatClampNeg ch9)).toInt = 2) := by omega
            have L79_ : ¬ ((σ.2.2.1 42) (σ.2.1 20 (12 * (σ.1 29).toNatClampNeg + st9.toNatClampNeg)).toNatClampNeg < (σ.2.2.1 42) (σ.2.1 21 (12 * (σ.1 29).toNatClampNeg + st9.toNatClampNeg)).toNatClampNeg) := by rw [← Xz2_, ← ez69_, ← ez71_, ← ey70_, ← ey72_]; exact Int64.not_lt.mpr lc74_
            have R78_ : y76_ = wkF (σ.1 29).toNatClampNeg (cor σ) false (σ.2.1 32) (σ.2.2.1 42) st9.toNatClampNeg base ch9 := by rw [wk_7 (T := cor σ) K77_]; rw [if_neg (show ¬ OnK (cor σ) ch9 2 from o63), if_neg (show ¬ ((σ.2.2.1 42) (cor σ 20 (12 * (σ.1 29).toNatClampNeg + st9.toNatClampNeg)).toNatClampNeg < (σ.2.2.1 42) (cor σ 21 (12 * (σ.1 29).toNatClampNeg + st9.toNatClampNeg)).toNatClampNeg) from L79_)]; simp only [ez4_, ez67_, ez69_, ey70_, ez71_, ey72_, ez73_, ez75_, ey76_, Xz2_] <;> rfl
            exact W.lret (v := y76_) hx hb hr (fun t ht hW => ⟨⟨y76_, σ, rfl, ⟨rfl, R78_⟩, wEn_of hP (hK.sub [] rfl) hD ht hW⟩, hS.F ht⟩) hS.2.2 dX12_work_363
          · have tc74_ := (show z73_.toInt < 0 from ti_nle rg_11 rfl c74_)
            have lc74_ : ¬ y72_ ≤ y70_ := fun h => c74_ (by rw [ez73_]; exact (lg_cmp_ge y70_ y72_).mpr h)
            refine lv_iconst (v := 1) hx hb dX12_work_328 rg_6 ?_
            refine lv_goto (tgt := 333) hx hb dX12_work_329 rfl ?_
            refine lv_istore (lv' := [(7, .int 1), (6, .int z2_), (0, .ref h), (1, .int st9), (2, .ref (ad 32)), (3, .int base), (4, .ref (ad 42)), (5, .int ch9)]) hx hb dX12_work_333 hl (Nat.le_of_ble_eq_true rfl) rfl (fun ls hl => ?_)
            refine lv_iload hx hb dX12_work_335 (lv_at hl 0 rfl) ?_
            refine lv_if_eq (tgt := 353) hx hb dX12_work_337 rfl (fun cc => absurd cc (by decide)) (fun _ => ?_)
            refine lv_aload hx hb dX12_work_340 (lv_at hl 6 rfl) ?_
            refine lv_aload_n hx hb dX12_work_342 rfl (lv_at hl 2 rfl) ?_
            refine va_get (D := (dC, dI)) (ci := 12) (v := .ref (ad 18)) (C := RX12) (T := TX12) (N := 59) hx hb hts hin12 hown hK hP 0 rfl rfl 18 (Nat.le_of_ble_eq_true rfl) (ho (.fieldLink RX12 42 "NearEnoughModel" "sA" "[I") (List.mem_of_getElem? (i := 4) rfl)) (fun _ h9 => h9) rfl dX12_work_343 ?_
            refine lv_iload hx hb dX12_work_346 (lv_at hl 1 rfl) ?_
            refine va_iald hx hb hK hP 10 9 rfl rfl (ti_inx o4 o5) dX12_work_348 ?_
            refine lv_topi (fun z80_ ez80_ => ?_)
            have gz80_ : z80_.toInt = ((σ.2.1 18) (Int32.toNatClampNeg z2_)).toInt := congrArg Int32.toInt (ez80_.trans (congrFun rfl (Int32.toNatClampNeg z2_)))
            have bz80_ : (-1) ≤ z80_.toInt ∧ z80_.toInt ≤ 11 := by rw [ez80_]; exact (hI.2 18) _ (cl_lt (n := 24) o4 o5)
            have o64 : 0 ≤ z80_.toInt := by omega
            have o65 : z80_.toInt < ((12 : Nat) : Int) := by omega
            refine va_lald hx hb hK hP 30 29 rfl rfl (ti_inx o64 o65) dX12_work_349 ?_
            refine lv_topl (fun y81_ ey81_ => ?_)
            refine lv_goto (tgt := 363) hx hb dX12_work_350 rfl ?_
            rw [hQ]
            have o66 : (σ.2.1 17 (Int32.toNatClampNeg z2_)).toInt = 7 := by omega
            have K82_ : (σ.2.1 17 (12 * (σ.1 29).toNatClampNeg + st9.toNatClampNeg)).toInt = 7 := by rw [← Xz2_]; exact o66
            have o67 : ¬ (0 ≤ ch9.toInt ∧ (σ.2.1 34 (Int32.toNatClampNeg ch9)).toInt = 2) := by omega
            have L84_ : (σ.2.2.1 42) (σ.2.1 20 (12 * (σ.1 29).toNatClampNeg + st9.toNatClampNeg)).toNatClampNeg < (σ.2.2.1 42) (σ.2.1 21 (12 * (σ.1 29).toNatClampNeg + st9.toNatClampNeg)).toNatClampNeg := by rw [← Xz2_, ← ez69_, ← ez71_, ← ey70_, ← ey72_]; exact Int64.not_le.mp lc74_
            have R83_ : y81_ = wkF (σ.1 29).toNatClampNeg (cor σ) false (σ.2.1 32) (σ.2.2.1 42) st9.toNatClampNeg base ch9 := by rw [wk_7 (T := cor σ) K82_]; rw [if_neg (show ¬ OnK (cor σ) ch9 2 from o67), if_pos (show (σ.2.2.1 42) (cor σ 20 (12 * (σ.1 29).toNatClampNeg + st9.toNatClampNeg)).toNatClampNeg < (σ.2.2.1 42) (cor σ 21 (12 * (σ.1 29).toNatClampNeg + st9.toNatClampNeg)).toNatClampNeg from L84_)]; simp only [ez4_, ez67_, ez69_, ey70_, ez71_, ey72_, ez73_, ez80_, ey81_, Xz2_] <;> rfl
            exact W.lret (v := y81_) hx hb hr (fun t ht hW => ⟨⟨y81_, σ, rfl, ⟨rfl, R83_⟩, wEn_of hP (hK.sub [] rfl) hD ht hW⟩, hS.F ht⟩) hS.2.2 dX12_work_363
        · have tc68_ := (show z67_.toInt = 2 from ti_eq rfl rg_20 c68_)
          refine lv_aload_n hx hb dX12_work_286 rfl (lv_at hl 1 rfl) ?_
          refine va_get (D := (dC, dI)) (ci := 12) (v := .ref (ad 35)) (C := RX12) (T := TX12) (N := 59) hx hb hts hin12 hown hK hP 0 rfl rfl 35 (Nat.le_of_ble_eq_true rfl) (ho (.fieldLink RX12 88 "NearEnoughModel" "cN" "[I") (List.mem_of_getElem? (i := 6) rfl)) (fun _ h9 => h9) rfl dX12_work_287 ?_
          refine lv_iload hx hb dX12_work_290 (lv_at hl 6 rfl) ?_
          refine va_iald hx hb hK hP 25 24 rfl rfl (ti_inx o54 o55) dX12_work_292 ?_
          refine lv_topi (fun z85_ ez85_ => ?_)
          have gz85_ : z85_.toInt = ((σ.2.1 35) (Int32.toNatClampNeg ch9)).toInt := congrArg Int32.toInt (ez85_.trans (congrFun rfl (Int32.toNatClampNeg ch9)))
          have bz85_ : 0 ≤ z85_.toInt ∧ z85_.toInt ≤ 99 := by rw [ez85_]; exact (hI.2 35) _ (cl_lt (n := 12) o54 o55)
          refine lv_if_ne (tgt := 300) hx hb dX12_work_293 rfl (fun c86_ => ?_) (fun c86_ => ?_)
          · have tc86_ := (show z85_.toInt ≠ 0 from ti_ne rfl rg_11 c86_)
            refine lv_iconst (v := 0) hx hb dX12_work_300 rg_0 ?_
            refine lv_goto (tgt := 333) hx hb dX12_work_301 rfl ?_
            refine lv_istore (lv' := [(7, .int 0), (6, .int z2_), (0, .ref h), (1, .int st9), (2, .ref (ad 32)), (3, .int base), (4, .ref (ad 42)), (5, .int ch9)]) hx hb dX12_work_333 hl (Nat.le_of_ble_eq_true rfl) rfl (fun ls hl => ?_)
            refine lv_iload hx hb dX12_work_335 (lv_at hl 0 rfl) ?_
            refine lv_if_eq (tgt := 353) hx hb dX12_work_337 rfl (fun _ => ?_) (fun cc => absurd (by decide) cc)
            refine lv_aload hx hb dX12_work_353 (lv_at hl 6 rfl) ?_
            refine lv_aload_n hx hb dX12_work_355 rfl (lv_at hl 2 rfl) ?_
            refine va_get (D := (dC, dI)) (ci := 12) (v := .ref (ad 19)) (C := RX12) (T := TX12) (N := 59) hx hb hts hin12 hown hK hP 0 rfl rfl 19 (Nat.le_of_ble_eq_true rfl) (ho (.fieldLink RX12 45 "NearEnoughModel" "sB" "[I") (List.mem_of_getElem? (i := 3) rfl)) (fun _ h9 => h9) rfl dX12_work_356 ?_
            refine lv_iload hx hb dX12_work_359 (lv_at hl 1 rfl) ?_
            refine va_iald hx hb hK hP 11 10 rfl rfl (ti_inx o4 o5) dX12_work_361 ?_
            refine lv_topi (fun z87_ ez87_ => ?_)
            have gz87_ : z87_.toInt = ((σ.2.1 19) (Int32.toNatClampNeg z2_)).toInt := congrArg Int32.toInt (ez87_.trans (congrFun rfl (Int32.toNatClampNeg z2_)))
            have bz87_ : (-99) ≤ z87_.toInt ∧ z87_.toInt ≤ 99 := by rw [ez87_]; exact (hI.2 19) _ (cl_lt (n := 24) o4 o5)
            have o68 : 0 ≤ z87_.toInt := by omega
            have o69 : z87_.toInt < ((12 : Nat) : Int) := by omega
            refine va_lald hx hb hK hP 30 29 rfl rfl (ti_inx o68 o69) dX12_work_362 ?_
            refine lv_topl (fun y88_ ey88_ => ?_)
            rw [hQ]
            have o70 : (σ.2.1 17 (Int32.toNatClampNeg z2_)).toInt = 7 := by omega
            have K89_ : (σ.2.1 17 (12 * (σ.1 29).toNatClampNeg + st9.toNatClampNeg)).toInt = 7 := by rw [← Xz2_]; exact o70
            have o71 : 0 ≤ ch9.toInt ∧ (σ.2.1 34 (Int32.toNatClampNeg ch9)).toInt = 2 := by omega
            have o72 : ¬ (σ.2.1 35 (Int32.toNatClampNeg ch9)).toInt = 0 := by omega
            have R90_ : y88_ = wkF (σ.1 29).toNatClampNeg (cor σ) false (σ.2.1 32) (σ.2.2.1 42) st9.toNatClampNeg base ch9 := by rw [wk_7 (T := cor σ) K89_]; rw [if_pos (show OnK (cor σ) ch9 2 from o71), if_neg (show ¬ (cor σ 35 (Int32.toNatClampNeg ch9)).toInt = 0 from o72)]; simp only [ez4_, ez67_, ez85_, ez87_, ey88_, Xz2_] <;> rfl
            exact W.lret (v := y88_) hx hb hr (fun t ht hW => ⟨⟨y88_, σ, rfl, ⟨rfl, R90_⟩, wEn_of hP (hK.sub [] rfl) hD ht hW⟩, hS.F ht⟩) hS.2.2 dX12_work_363
          · have tc86_ := (show z85_.toInt = 0 from ti_eq rfl rg_11 c86_)
            refine lv_iconst (v := 1) hx hb dX12_work_296 rg_6 ?_
            refine lv_goto (tgt := 333) hx hb dX12_work_297 rfl ?_
            refine lv_istore (lv' := [(7, .int 1), (6, .int z2_), (0, .ref h), (1, .int st9), (2, .ref (ad 32)), (3, .int base), (4, .ref (ad 42)), (5, .int ch9)]) hx hb dX12_work_333 hl (Nat.le_of_ble_eq_true rfl) rfl (fun ls hl => ?_)
            refine lv_iload hx hb dX12_work_335 (lv_at hl 0 rfl) ?_
            refine lv_if_eq (tgt := 353) hx hb dX12_work_337 rfl (fun cc => absurd cc (by decide)) (fun _ => ?_)
            refine lv_aload hx hb dX12_work_340 (lv_at hl 6 rfl) ?_
            refine lv_aload_n hx hb dX12_work_342 rfl (lv_at hl 2 rfl) ?_
            refine va_get (D := (dC, dI)) (ci := 12) (v := .ref (ad 18)) (C := RX12) (T := TX12) (N := 59) hx hb hts hin12 hown hK hP 0 rfl rfl 18 (Nat.le_of_ble_eq_true rfl) (ho (.fieldLink RX12 42 "NearEnoughModel" "sA" "[I") (List.mem_of_getElem? (i := 4) rfl)) (fun _ h9 => h9) rfl dX12_work_343 ?_
            refine lv_iload hx hb dX12_work_346 (lv_at hl 1 rfl) ?_
            refine va_iald hx hb hK hP 10 9 rfl rfl (ti_inx o4 o5) dX12_work_348 ?_
            refine lv_topi (fun z91_ ez91_ => ?_)
            have gz91_ : z91_.toInt = ((σ.2.1 18) (Int32.toNatClampNeg z2_)).toInt := congrArg Int32.toInt (ez91_.trans (congrFun rfl (Int32.toNatClampNeg z2_)))
            have bz91_ : (-1) ≤ z91_.toInt ∧ z91_.toInt ≤ 11 := by rw [ez91_]; exact (hI.2 18) _ (cl_lt (n := 24) o4 o5)
            have o73 : 0 ≤ z91_.toInt := by omega
            have o74 : z91_.toInt < ((12 : Nat) : Int) := by omega
            refine va_lald hx hb hK hP 30 29 rfl rfl (ti_inx o73 o74) dX12_work_349 ?_
            refine lv_topl (fun y92_ ey92_ => ?_)
            refine lv_goto (tgt := 363) hx hb dX12_work_350 rfl ?_
            rw [hQ]
            have o75 : (σ.2.1 17 (Int32.toNatClampNeg z2_)).toInt = 7 := by omega
            have K93_ : (σ.2.1 17 (12 * (σ.1 29).toNatClampNeg + st9.toNatClampNeg)).toInt = 7 := by rw [← Xz2_]; exact o75
            have o76 : 0 ≤ ch9.toInt ∧ (σ.2.1 34 (Int32.toNatClampNeg ch9)).toInt = 2 := by omega
            have o77 : (σ.2.1 35 (Int32.toNatClampNeg ch9)).toInt = 0 := by omega
            have R94_ : y92_ = wkF (σ.1 29).toNatClampNeg (cor σ) false (σ.2.1 32) (σ.2.2.1 42) st9.toNatClampNeg base ch9 := by rw [wk_7 (T := cor σ) K93_]; rw [if_pos (show OnK (cor σ) ch9 2 from o76), if_pos (show (cor σ 35 (Int32.toNatClampNeg ch9)).toInt = 0 from o77)]; simp only [ez4_, ez67_, ez85_, ez91_, ey92_, Xz2_] <;> rfl
            exact W.lret (v := y92_) hx hb hr (fun t ht hW => ⟨⟨y92_, σ, rfl, ⟨rfl, R94_⟩, wEn_of hP (hK.sub [] rfl) hD ht hW⟩, hS.F ht⟩) hS.2.2 dX12_work_363
    · rcases (show z4_.toInt = 0 ∨ z4_.toInt = 1 ∨ z4_.toInt = 2 ∨ z4_.toInt = 3 ∨ z4_.toInt = 4 ∨ z4_.toInt = 5 ∨ z4_.toInt = 6 by omega) with t_sw | t_sw | t_sw | t_sw | t_sw | t_sw | t_sw
      · refine lv_tableIn (tgt := 56) (off := 42) hx hb dX12_work_14 (by rw [t_sw]; decide) (by rw [t_sw]; decide) (by rw [t_sw]; decide) (by decide) ?_
        refine lv_aload_n hx hb dX12_work_56 rfl (lv_at hl 1 rfl) ?_
        refine lv_iload_n hx hb dX12_work_57 rfl (lv_at hl 2 rfl) ?_
        refine lv_aload_n hx hb dX12_work_58 rfl (lv_at hl 3 rfl) ?_
        refine lv_iload_n hx hb dX12_work_59 rfl (lv_at hl 4 rfl) ?_
        refine lv_iload hx hb dX12_work_60 (lv_at hl 6 rfl) ?_
        have o78 : 0 ≤ base.toInt := by omega
        have o79 : base.toInt ≤ 0 := by omega
        have o80 : (σ.2.1 17 (Int32.toNatClampNeg z2_)).toInt = 0 ∨ (σ.2.1 17 (Int32.toNatClampNeg z2_)).toInt = 1 ∨ (σ.2.1 17 (Int32.toNatClampNeg z2_)).toInt = 6 := by omega
        have K95_ : (σ.2.1 17 (12 * (σ.1 29).toNatClampNeg + st9.toNatClampNeg)).toInt = 0 ∨ (σ.2.1 17 (12 * (σ.1 29).toNatClampNeg + st9.toNatClampNeg)).toInt = 1 ∨ (σ.2.1 17 (12 * (σ.1 29).toNatClampNeg + st9.toNatClampNeg)).toInt = 6 := by rw [← Xz2_]; exact o80
        have o81 : base.toInt = 0 ∨ 12 ≤ base.toInt := by omega
        refine zy_l (va_runV (As := [.int st9, .ref (ad 32), .int base, .int ch9]) (rest := []) ⟨hx, hb, hml, hown, hts⟩ (n_ofRow_c l dC dI h ad cl H.size σ st9 base ch9 hI ⟨o1, o2⟩ ⟨o78, o79⟩ (show base.toInt = 0 ∨ 12 ≤ base.toInt from o81) hch0 (WkOk.row hI hwk K95_)) (cwV 4 hts gd_n_work_cp_360_n_ofRow_c rfl rfl rfl dd_n_ofRow_c ⟨Nat.le_of_ble_eq_true rfl, Nat.le_of_ble_eq_true rfl⟩) (preV hP hK hD hE (ci := 12) (q0 := 0) rfl rfl) rfl rfl hl.1 rfl (lv_room (Nat.le_of_ble_eq_true rfl)) dX12_work_62 ⟨Nat.le_of_ble_eq_true rfl, Nat.le_of_ble_eq_true rfl⟩) hD hS hA (fun y97_ τ96_ H locs hq hP hD hS => ?_)
        obtain ⟨rfl, f98_⟩ := hq
        refine W.widen (k := 0) (n := 0) (Nat.le_of_ble_eq_true rfl) (Nat.le_of_ble_eq_true rfl) ?_
        rw [hQ]
        have o82 : (σ.2.1 17 (Int32.toNatClampNeg z2_)).toInt = 0 ∨ (σ.2.1 17 (Int32.toNatClampNeg z2_)).toInt = 1 := by omega
        have K99_ : (σ.2.1 17 (12 * (σ.1 29).toNatClampNeg + st9.toNatClampNeg)).toInt = 0 ∨ (σ.2.1 17 (12 * (σ.1 29).toNatClampNeg + st9.toNatClampNeg)).toInt = 1 := by rw [← Xz2_]; exact o82
        exact W.lret (v := y97_) hx hb hr (fun t ht hW => ⟨⟨y97_, σ, rfl, ⟨rfl, (f98_.trans (wk_0 (T := cor σ) K99_).symm)⟩, wEn_of hP (hK.sub [] rfl) hD ht hW⟩, hS.F ht⟩) hS.2.2 dX12_work_65
      · refine lv_tableIn (tgt := 56) (off := 42) hx hb dX12_work_14 (by rw [t_sw]; decide) (by rw [t_sw]; decide) (by rw [t_sw]; decide) (by decide) ?_
        refine lv_aload_n hx hb dX12_work_56 rfl (lv_at hl 1 rfl) ?_
        refine lv_iload_n hx hb dX12_work_57 rfl (lv_at hl 2 rfl) ?_
        refine lv_aload_n hx hb dX12_work_58 rfl (lv_at hl 3 rfl) ?_
        refine lv_iload_n hx hb dX12_work_59 rfl (lv_at hl 4 rfl) ?_
        refine lv_iload hx hb dX12_work_60 (lv_at hl 6 rfl) ?_
        have o83 : 0 ≤ base.toInt := by omega
        have o84 : base.toInt ≤ 0 := by omega
        have o85 : (σ.2.1 17 (Int32.toNatClampNeg z2_)).toInt = 0 ∨ (σ.2.1 17 (Int32.toNatClampNeg z2_)).toInt = 1 ∨ (σ.2.1 17 (Int32.toNatClampNeg z2_)).toInt = 6 := by omega
        have K100_ : (σ.2.1 17 (12 * (σ.1 29).toNatClampNeg + st9.toNatClampNeg)).toInt = 0 ∨ (σ.2.1 17 (12 * (σ.1 29).toNatClampNeg + st9.toNatClampNeg)).toInt = 1 ∨ (σ.2.1 17 (12 * (σ.1 29).toNatClampNeg + st9.toNatClampNeg)).toInt = 6 := by rw [← Xz2_]; exact o85
        have o86 : base.toInt = 0 ∨ 12 ≤ base.toInt := by omega
        refine zy_l (va_runV (As := [.int st9, .ref (ad 32), .int base, .int ch9]) (rest := []) ⟨hx, hb, hml, hown, hts⟩ (n_ofRow_c l dC dI h ad cl H.size σ st9 base ch9 hI ⟨o1, o2⟩ ⟨o83, o84⟩ (show base.toInt = 0 ∨ 12 ≤ base.toInt from o86) hch0 (WkOk.row hI hwk K100_)) (cwV 4 hts gd_n_work_cp_360_n_ofRow_c rfl rfl rfl dd_n_ofRow_c ⟨Nat.le_of_ble_eq_true rfl, Nat.le_of_ble_eq_true rfl⟩) (preV hP hK hD hE (ci := 12) (q0 := 0) rfl rfl) rfl rfl hl.1 rfl (lv_room (Nat.le_of_ble_eq_true rfl)) dX12_work_62 ⟨Nat.le_of_ble_eq_true rfl, Nat.le_of_ble_eq_true rfl⟩) hD hS hA (fun y102_ τ101_ H locs hq hP hD hS => ?_)
        obtain ⟨rfl, f103_⟩ := hq
        refine W.widen (k := 0) (n := 0) (Nat.le_of_ble_eq_true rfl) (Nat.le_of_ble_eq_true rfl) ?_
        rw [hQ]
        have o87 : (σ.2.1 17 (Int32.toNatClampNeg z2_)).toInt = 0 ∨ (σ.2.1 17 (Int32.toNatClampNeg z2_)).toInt = 1 := by omega
        have K104_ : (σ.2.1 17 (12 * (σ.1 29).toNatClampNeg + st9.toNatClampNeg)).toInt = 0 ∨ (σ.2.1 17 (12 * (σ.1 29).toNatClampNeg + st9.toNatClampNeg)).toInt = 1 := by rw [← Xz2_]; exact o87
        exact W.lret (v := y102_) hx hb hr (fun t ht hW => ⟨⟨y102_, σ, rfl, ⟨rfl, (f103_.trans (wk_0 (T := cor σ) K104_).symm)⟩, wEn_of hP (hK.sub [] rfl) hD ht hW⟩, hS.F ht⟩) hS.2.2 dX12_work_65
      · refine lv_tableIn (tgt := 66) (off := 52) hx hb dX12_work_14 (by rw [t_sw]; decide) (by rw [t_sw]; decide) (by rw [t_sw]; decide) (by decide) ?_
        refine lv_aload hx hb dX12_work_66 (lv_at hl 5 rfl) ?_
        refine lv_aload_n hx hb dX12_work_68 rfl (lv_at hl 1 rfl) ?_
        refine va_get (D := (dC, dI)) (ci := 12) (v := .ref (ad 18)) (C := RX12) (T := TX12) (N := 59) hx hb hts hin12 hown hK hP 0 rfl rfl 18 (Nat.le_of_ble_eq_true rfl) (ho (.fieldLink RX12 42 "NearEnoughModel" "sA" "[I") (List.mem_of_getElem? (i := 4) rfl)) (fun _ h9 => h9) rfl dX12_work_69 ?_
        refine lv_iload hx hb dX12_work_72 (lv_at hl 0 rfl) ?_
        refine va_iald hx hb hK hP 10 9 rfl rfl (ti_inx o4 o5) dX12_work_74 ?_
        refine lv_topi (fun z105_ ez105_ => ?_)
        have gz105_ : z105_.toInt = ((σ.2.1 18) (Int32.toNatClampNeg z2_)).toInt := congrArg Int32.toInt (ez105_.trans (congrFun rfl (Int32.toNatClampNeg z2_)))
        have bz105_ : (-1) ≤ z105_.toInt ∧ z105_.toInt ≤ 11 := by rw [ez105_]; exact (hI.2 18) _ (cl_lt (n := 24) o4 o5)
        have o88 : 0 ≤ z105_.toInt := by omega
        have o89 : z105_.toInt < ((12 : Nat) : Int) := by omega
        refine va_lald hx hb hK hP 30 29 rfl rfl (ti_inx o88 o89) dX12_work_75 ?_
        refine lv_topl (fun y106_ ey106_ => ?_)
        refine lv_aload hx hb dX12_work_76 (lv_at hl 5 rfl) ?_
        refine lv_aload_n hx hb dX12_work_78 rfl (lv_at hl 1 rfl) ?_
        refine va_get (D := (dC, dI)) (ci := 12) (v := .ref (ad 19)) (C := RX12) (T := TX12) (N := 59) hx hb hts hin12 hown hK hP 0 rfl rfl 19 (Nat.le_of_ble_eq_true rfl) (ho (.fieldLink RX12 45 "NearEnoughModel" "sB" "[I") (List.mem_of_getElem? (i := 3) rfl)) (fun _ h9 => h9) rfl dX12_work_79 ?_
        refine lv_iload hx hb dX12_work_82 (lv_at hl 0 rfl) ?_
        refine va_iald hx hb hK hP 11 10 rfl rfl (ti_inx o4 o5) dX12_work_84 ?_
        refine lv_topi (fun z107_ ez107_ => ?_)
        have gz107_ : z107_.toInt = ((σ.2.1 19) (Int32.toNatClampNeg z2_)).toInt := congrArg Int32.toInt (ez107_.trans (congrFun rfl (Int32.toNatClampNeg z2_)))
        have bz107_ : (-99) ≤ z107_.toInt ∧ z107_.toInt ≤ 99 := by rw [ez107_]; exact (hI.2 19) _ (cl_lt (n := 24) o4 o5)
        have o90 : 0 ≤ z107_.toInt := by omega
        have o91 : z107_.toInt < ((12 : Nat) : Int) := by omega
        refine va_lald hx hb hK hP 30 29 rfl rfl (ti_inx o90 o91) dX12_work_85 ?_
        refine lv_topl (fun y108_ ey108_ => ?_)
        refine lv_ladd hx hb dX12_work_86 ?_
        refine lv_topl (fun y109_ ey109_ => ?_)
        rw [hQ]
        have o92 : (σ.2.1 17 (Int32.toNatClampNeg z2_)).toInt = 2 := by omega
        have K110_ : (σ.2.1 17 (12 * (σ.1 29).toNatClampNeg + st9.toNatClampNeg)).toInt = 2 := by rw [← Xz2_]; exact o92
        have R111_ : y109_ = wkF (σ.1 29).toNatClampNeg (cor σ) false (σ.2.1 32) (σ.2.2.1 42) st9.toNatClampNeg base ch9 := by rw [wk_2 (T := cor σ) K110_]; simp only [ez4_, ez105_, ey106_, ez107_, ey108_, ey109_, Xz2_] <;> rfl
        exact W.lret (v := y109_) hx hb hr (fun t ht hW => ⟨⟨y109_, σ, rfl, ⟨rfl, R111_⟩, wEn_of hP (hK.sub [] rfl) hD ht hW⟩, hS.F ht⟩) hS.2.2 dX12_work_87
      · refine lv_tableIn (tgt := 88) (off := 74) hx hb dX12_work_14 (by rw [t_sw]; decide) (by rw [t_sw]; decide) (by rw [t_sw]; decide) (by decide) ?_
        refine lv_aload hx hb dX12_work_88 (lv_at hl 5 rfl) ?_
        refine lv_aload_n hx hb dX12_work_90 rfl (lv_at hl 1 rfl) ?_
        refine va_get (D := (dC, dI)) (ci := 12) (v := .ref (ad 18)) (C := RX12) (T := TX12) (N := 59) hx hb hts hin12 hown hK hP 0 rfl rfl 18 (Nat.le_of_ble_eq_true rfl) (ho (.fieldLink RX12 42 "NearEnoughModel" "sA" "[I") (List.mem_of_getElem? (i := 4) rfl)) (fun _ h9 => h9) rfl dX12_work_91 ?_
        refine lv_iload hx hb dX12_work_94 (lv_at hl 0 rfl) ?_
        refine va_iald hx hb hK hP 10 9 rfl rfl (ti_inx o4 o5) dX12_work_96 ?_
        refine lv_topi (fun z112_ ez112_ => ?_)
        have gz112_ : z112_.toInt = ((σ.2.1 18) (Int32.toNatClampNeg z2_)).toInt := congrArg Int32.toInt (ez112_.trans (congrFun rfl (Int32.toNatClampNeg z2_)))
        have bz112_ : (-1) ≤ z112_.toInt ∧ z112_.toInt ≤ 11 := by rw [ez112_]; exact (hI.2 18) _ (cl_lt (n := 24) o4 o5)
        have o93 : 0 ≤ z112_.toInt := by omega
        have o94 : z112_.toInt < ((12 : Nat) : Int) := by omega
        refine va_lald hx hb hK hP 30 29 rfl rfl (ti_inx o93 o94) dX12_work_97 ?_
        refine lv_topl (fun y113_ ey113_ => ?_)
        refine lv_aload hx hb dX12_work_98 (lv_at hl 5 rfl) ?_
        refine lv_aload_n hx hb dX12_work_100 rfl (lv_at hl 1 rfl) ?_
        refine va_get (D := (dC, dI)) (ci := 12) (v := .ref (ad 19)) (C := RX12) (T := TX12) (N := 59) hx hb hts hin12 hown hK hP 0 rfl rfl 19 (Nat.le_of_ble_eq_true rfl) (ho (.fieldLink RX12 45 "NearEnoughModel" "sB" "[I") (List.mem_of_getElem? (i := 3) rfl)) (fun _ h9 => h9) rfl dX12_work_101 ?_
        refine lv_iload hx hb dX12_work_104 (lv_at hl 0 rfl) ?_
        refine va_iald hx hb hK hP 11 10 rfl rfl (ti_inx o4 o5) dX12_work_106 ?_
        refine lv_topi (fun z114_ ez114_ => ?_)
        have gz114_ : z114_.toInt = ((σ.2.1 19) (Int32.toNatClampNeg z2_)).toInt := congrArg Int32.toInt (ez114_.trans (congrFun rfl (Int32.toNatClampNeg z2_)))
        have bz114_ : (-99) ≤ z114_.toInt ∧ z114_.toInt ≤ 99 := by rw [ez114_]; exact (hI.2 19) _ (cl_lt (n := 24) o4 o5)
        have o95 : 0 ≤ z114_.toInt := by omega
        have o96 : z114_.toInt < ((12 : Nat) : Int) := by omega
        refine va_lald hx hb hK hP 30 29 rfl rfl (ti_inx o95 o96) dX12_work_107 ?_
        refine lv_topl (fun y115_ ey115_ => ?_)
        refine lv_lsub hx hb dX12_work_108 ?_
        refine lv_topl (fun y116_ ey116_ => ?_)
        rw [hQ]
        have o97 : (σ.2.1 17 (Int32.toNatClampNeg z2_)).toInt = 3 := by omega
        have K117_ : (σ.2.1 17 (12 * (σ.1 29).toNatClampNeg + st9.toNatClampNeg)).toInt = 3 := by rw [← Xz2_]; exact o97
        have R118_ : y116_ = wkF (σ.1 29).toNatClampNeg (cor σ) false (σ.2.1 32) (σ.2.2.1 42) st9.toNatClampNeg base ch9 := by rw [wk_3 (T := cor σ) K117_]; simp only [ez4_, ez112_, ey113_, ez114_, ey115_, ey116_, Xz2_] <;> rfl
        exact W.lret (v := y116_) hx hb hr (fun t ht hW => ⟨⟨y116_, σ, rfl, ⟨rfl, R118_⟩, wEn_of hP (hK.sub [] rfl) hD ht hW⟩, hS.F ht⟩) hS.2.2 dX12_work_109
      · refine lv_tableIn (tgt := 110) (off := 96) hx hb dX12_work_14 (by rw [t_sw]; decide) (by rw [t_sw]; decide) (by rw [t_sw]; decide) (by decide) ?_
        refine lv_aload hx hb dX12_work_110 (lv_at hl 5 rfl) ?_
        refine lv_aload_n hx hb dX12_work_112 rfl (lv_at hl 1 rfl) ?_
        refine va_get (D := (dC, dI)) (ci := 12) (v := .ref (ad 18)) (C := RX12) (T := TX12) (N := 59) hx hb hts hin12 hown hK hP 0 rfl rfl 18 (Nat.le_of_ble_eq_true rfl) (ho (.fieldLink RX12 42 "NearEnoughModel" "sA" "[I") (List.mem_of_getElem? (i := 4) rfl)) (fun _ h9 => h9) rfl dX12_work_113 ?_
        refine lv_iload hx hb dX12_work_116 (lv_at hl 0 rfl) ?_
        refine va_iald hx hb hK hP 10 9 rfl rfl (ti_inx o4 o5) dX12_work_118 ?_
        refine lv_topi (fun z119_ ez119_ => ?_)
        have gz119_ : z119_.toInt = ((σ.2.1 18) (Int32.toNatClampNeg z2_)).toInt := congrArg Int32.toInt (ez119_.trans (congrFun rfl (Int32.toNatClampNeg z2_)))
        have bz119_ : (-1) ≤ z119_.toInt ∧ z119_.toInt ≤ 11 := by rw [ez119_]; exact (hI.2 18) _ (cl_lt (n := 24) o4 o5)
        have o98 : 0 ≤ z119_.toInt := by omega
        have o99 : z119_.toInt < ((12 : Nat) : Int) := by omega
        refine va_lald hx hb hK hP 30 29 rfl rfl (ti_inx o98 o99) dX12_work_119 ?_
        refine lv_topl (fun y120_ ey120_ => ?_)
        refine lv_aload hx hb dX12_work_120 (lv_at hl 5 rfl) ?_
        refine lv_aload_n hx hb dX12_work_122 rfl (lv_at hl 1 rfl) ?_
        refine va_get (D := (dC, dI)) (ci := 12) (v := .ref (ad 19)) (C := RX12) (T := TX12) (N := 59) hx hb hts hin12 hown hK hP 0 rfl rfl 19 (Nat.le_of_ble_eq_true rfl) (ho (.fieldLink RX12 45 "NearEnoughModel" "sB" "[I") (List.mem_of_getElem? (i := 3) rfl)) (fun _ h9 => h9) rfl dX12_work_123 ?_
        refine lv_iload hx hb dX12_work_126 (lv_at hl 0 rfl) ?_
        refine va_iald hx hb hK hP 11 10 rfl rfl (ti_inx o4 o5) dX12_work_128 ?_
        refine lv_topi (fun z121_ ez121_ => ?_)
        have gz121_ : z121_.toInt = ((σ.2.1 19) (Int32.toNatClampNeg z2_)).toInt := congrArg Int32.toInt (ez121_.trans (congrFun rfl (Int32.toNatClampNeg z2_)))
        have bz121_ : (-99) ≤ z121_.toInt ∧ z121_.toInt ≤ 99 := by rw [ez121_]; exact (hI.2 19) _ (cl_lt (n := 24) o4 o5)
        have o100 : 0 ≤ z121_.toInt := by omega
        have o101 : z121_.toInt < ((12 : Nat) : Int) := by omega
        refine va_lald hx hb hK hP 30 29 rfl rfl (ti_inx o100 o101) dX12_work_129 ?_
        refine lv_topl (fun y122_ ey122_ => ?_)
        refine lv_lmul hx hb dX12_work_130 ?_
        refine lv_topl (fun y123_ ey123_ => ?_)
        rw [hQ]
        have o102 : (σ.2.1 17 (Int32.toNatClampNeg z2_)).toInt = 4 := by omega
        have K124_ : (σ.2.1 17 (12 * (σ.1 29).toNatClampNeg + st9.toNatClampNeg)).toInt = 4 := by rw [← Xz2_]; exact o102
        have R125_ : y123_ = wkF (σ.1 29).toNatClampNeg (cor σ) false (σ.2.1 32) (σ.2.2.1 42) st9.toNatClampNeg base ch9 := by rw [wk_4 (T := cor σ) K124_]; simp only [ez4_, ez119_, ey120_, ez121_, ey122_, ey123_, Xz2_] <;> rfl
        exact W.lret (v := y123_) hx hb hr (fun t ht hW => ⟨⟨y123_, σ, rfl, ⟨rfl, R125_⟩, wEn_of hP (hK.sub [] rfl) hD ht hW⟩, hS.F ht⟩) hS.2.2 dX12_work_131
      · refine lv_tableIn (tgt := 132) (off := 118) hx hb dX12_work_14 (by rw [t_sw]; decide) (by rw [t_sw]; decide) (by rw [t_sw]; decide) (by decide) ?_
        refine lv_aload hx hb dX12_work_132 (lv_at hl 5 rfl) ?_
        refine lv_aload_n hx hb dX12_work_134 rfl (lv_at hl 1 rfl) ?_
        refine va_get (D := (dC, dI)) (ci := 12) (v := .ref (ad 18)) (C := RX12) (T := TX12) (N := 59) hx hb hts hin12 hown hK hP 0 rfl rfl 18 (Nat.le_of_ble_eq_true rfl) (ho (.fieldLink RX12 42 "NearEnoughModel" "sA" "[I") (List.mem_of_getElem? (i := 4) rfl)) (fun _ h9 => h9) rfl dX12_work_135 ?_
        refine lv_iload hx hb dX12_work_138 (lv_at hl 0 rfl) ?_
        refine va_iald hx hb hK hP 10 9 rfl rfl (ti_inx o4 o5) dX12_work_140 ?_
        refine lv_topi (fun z126_ ez126_ => ?_)
        have gz126_ : z126_.toInt = ((σ.2.1 18) (Int32.toNatClampNeg z2_)).toInt := congrArg Int32.toInt (ez126_.trans (congrFun rfl (Int32.toNatClampNeg z2_)))
        have bz126_ : (-1) ≤ z126_.toInt ∧ z126_.toInt ≤ 11 := by rw [ez126_]; exact (hI.2 18) _ (cl_lt (n := 24) o4 o5)
        have o103 : 0 ≤ z126_.toInt := by omega
        have o104 : z126_.toInt < ((12 : Nat) : Int) := by omega
        refine va_lald hx hb hK hP 30 29 rfl rfl (ti_inx o103 o104) dX12_work_141 ?_
        refine lv_topl (fun y127_ ey127_ => ?_)
        refine lv_aload_n hx hb dX12_work_142 rfl (lv_at hl 1 rfl) ?_
        refine va_get (D := (dC, dI)) (ci := 12) (v := .ref (ad 19)) (C := RX12) (T := TX12) (N := 59) hx hb hts hin12 hown hK hP 0 rfl rfl 19 (Nat.le_of_ble_eq_true rfl) (ho (.fieldLink RX12 45 "NearEnoughModel" "sB" "[I") (List.mem_of_getElem? (i := 3) rfl)) (fun _ h9 => h9) rfl dX12_work_143 ?_
        refine lv_iload hx hb dX12_work_146 (lv_at hl 0 rfl) ?_
        refine va_iald hx hb hK hP 11 10 rfl rfl (ti_inx o4 o5) dX12_work_148 ?_
        refine lv_topi (fun z128_ ez128_ => ?_)
        have gz128_ : z128_.toInt = ((σ.2.1 19) (Int32.toNatClampNeg z2_)).toInt := congrArg Int32.toInt (ez128_.trans (congrFun rfl (Int32.toNatClampNeg z2_)))
        have bz128_ : (-99) ≤ z128_.toInt ∧ z128_.toInt ≤ 99 := by rw [ez128_]; exact (hI.2 19) _ (cl_lt (n := 24) o4 o5)
        refine lv_i2l hx hb dX12_work_149 rfl ?_
        refine lv_topl (fun y129_ ey129_ => ?_)
        refine lv_lmul hx hb dX12_work_150 ?_
        refine lv_topl (fun y130_ ey130_ => ?_)
        refine lv_aload_n hx hb dX12_work_151 rfl (lv_at hl 1 rfl) ?_
        refine va_get (D := (dC, dI)) (ci := 12) (v := .ref (ad 20)) (C := RX12) (T := TX12) (N := 59) hx hb hts hin12 hown hK hP 0 rfl rfl 20 (Nat.le_of_ble_eq_true rfl) (ho (.fieldLink RX12 48 "NearEnoughModel" "sC" "[I") (List.mem_of_getElem? (i := 1) rfl)) (fun _ h9 => h9) rfl dX12_work_152 ?_
        refine lv_iload hx hb dX12_work_155 (lv_at hl 0 rfl) ?_
        refine va_iald hx hb hK hP 12 11 rfl rfl (ti_inx o4 o5) dX12_work_157 ?_
        refine lv_topi (fun z131_ ez131_ => ?_)
        have gz131_ : z131_.toInt = ((σ.2.1 20) (Int32.toNatClampNeg z2_)).toInt := congrArg Int32.toInt (ez131_.trans (congrFun rfl (Int32.toNatClampNeg z2_)))
        have bz131_ : (-1) ≤ z131_.toInt ∧ z131_.toInt ≤ 99 := by rw [ez131_]; exact (hI.2 20) _ (cl_lt (n := 24) o4 o5)
        refine lv_i2l hx hb dX12_work_158 rfl ?_
        refine lv_topl (fun y132_ ey132_ => ?_)
        have o105 : z131_.toInt ≠ 0 := by omega
        refine lv_ldiv hx hb dX12_work_159 (i2l_ne ey132_ o105) ?_
        refine lv_topl (fun y133_ ey133_ => ?_)
        rw [hQ]
        have o106 : (σ.2.1 17 (Int32.toNatClampNeg z2_)).toInt = 5 := by omega
        have K134_ : (σ.2.1 17 (12 * (σ.1 29).toNatClampNeg + st9.toNatClampNeg)).toInt = 5 := by rw [← Xz2_]; exact o106
        have R135_ : y133_ = wkF (σ.1 29).toNatClampNeg (cor σ) false (σ.2.1 32) (σ.2.2.1 42) st9.toNatClampNeg base ch9 := by rw [wk_5 (T := cor σ) K134_]; simp only [ez4_, ez126_, ey127_, ez128_, ey129_, ey130_, ez131_, ey132_, ey133_, Xz2_] <;> rfl
        exact W.lret (v := y133_) hx hb hr (fun t ht hW => ⟨⟨y133_, σ, rfl, ⟨rfl, R135_⟩, wEn_of hP (hK.sub [] rfl) hD ht hW⟩, hS.F ht⟩) hS.2.2 dX12_work_160
      · refine lv_tableIn (tgt := 161) (off := 147) hx hb dX12_work_14 (by rw [t_sw]; decide) (by rw [t_sw]; decide) (by rw [t_sw]; decide) (by decide) ?_
        refine lv_aload_n hx hb dX12_work_161 rfl (lv_at hl 1 rfl) ?_
        refine va_get (D := (dC, dI)) (ci := 12) (v := .ref (ad 14)) (C := RX12) (T := TX12) (N := 59) hx hb hts hin12 hown hK hP 0 rfl rfl 14 (Nat.le_of_ble_eq_true rfl) (ho (.fieldLink RX12 30 "NearEnoughModel" "rHas" "[I") (List.mem_of_getElem? (i := 7) rfl)) (fun _ h9 => h9) rfl dX12_work_162 ?_
        refine lv_iconst (v := 2) hx hb dX12_work_165 rg_19 ?_
        refine lv_aload_n hx hb dX12_work_166 rfl (lv_at hl 1 rfl) ?_
        refine va_get (D := (dC, dI)) (ci := 12) (v := .int (σ.1 29)) (C := RX12) (T := TX12) (N := 59) hx hb hts hin12 hown hK hP 0 rfl rfl 29 (Nat.le_of_ble_eq_true rfl) (ho (.fieldLink RX12 240 "NearEnoughModel" "bank" "I") (List.mem_of_getElem? (i := 8) rfl)) (fun _ h9 => h9) rfl dX12_work_167 ?_
        have bσ_29 : 0 ≤ (σ.1 29).toInt ∧ (σ.1 29).toInt ≤ 1 := hI.1 29
        refine lv_imul hx hb dX12_work_170 ?_
        refine lv_topi (fun z136_ ez136_ => ?_)
        have o107 : -2147483648 ≤ 2 * (σ.1 29).toInt := by omega
        have o108 : 2 * (σ.1 29).toInt ≤ 2147483647 := by omega
        have tz136_ : z136_.toInt = 2 * (σ.1 29).toInt := ti_mul ez136_ rg_20 rfl o107 o108
        refine lv_aload_n hx hb dX12_work_171 rfl (lv_at hl 1 rfl) ?_
        refine va_get (D := (dC, dI)) (ci := 12) (v := .ref (ad 18)) (C := RX12) (T := TX12) (N := 59) hx hb hts hin12 hown hK hP 0 rfl rfl 18 (Nat.le_of_ble_eq_true rfl) (ho (.fieldLink RX12 42 "NearEnoughModel" "sA" "[I") (List.mem_of_getElem? (i := 4) rfl)) (fun _ h9 => h9) rfl dX12_work_172 ?_
        refine lv_iload hx hb dX12_work_175 (lv_at hl 0 rfl) ?_
        refine va_iald hx hb hK hP 10 9 rfl rfl (ti_inx o4 o5) dX12_work_177 ?_
        refine lv_topi (fun z137_ ez137_ => ?_)
        have gz137_ : z137_.toInt = ((σ.2.1 18) (Int32.toNatClampNeg z2_)).toInt := congrArg Int32.toInt (ez137_.trans (congrFun rfl (Int32.toNatClampNeg z2_)))
        have bz137_ : (-1) ≤ z137_.toInt ∧ z137_.toInt ≤ 11 := by rw [ez137_]; exact (hI.2 18) _ (cl_lt (n := 24) o4 o5)
        refine lv_iadd hx hb dX12_work_178 ?_
        refine lv_topi (fun z138_ ez138_ => ?_)
        have o109 : -2147483648 ≤ z136_.toInt + z137_.toInt := by omega
        have o110 : z136_.toInt + z137_.toInt ≤ 2147483647 := by omega
        have tz138_ : z138_.toInt = z136_.toInt + z137_.toInt := ti_add ez138_ rfl rfl o109 o110
        have o111 : 0 ≤ z138_.toInt := by omega
        have o112 : z138_.toInt < ((4 : Nat) : Int) := by omega
        refine va_iald hx hb hK hP 6 5 rfl rfl (ti_inx o111 o112) dX12_work_179 ?_
        refine lv_topi (fun z139_ ez139_ => ?_)
        have gz139_ : z139_.toInt = ((σ.2.1 14) (Int32.toNatClampNeg z138_)).toInt := congrArg Int32.toInt (ez139_.trans (congrFun rfl (Int32.toNatClampNeg z138_)))
        have bz139_ : 0 ≤ z139_.toInt ∧ z139_.toInt ≤ 6 := by rw [ez139_]; exact (hI.2 14) _ (cl_lt (n := 4) o111 o112)
        refine lv_istore (lv' := [(7, .int z139_), (6, .int z2_), (0, .ref h), (1, .int st9), (2, .ref (ad 32)), (3, .int base), (4, .ref (ad 42)), (5, .int ch9)]) hx hb dX12_work_180 hl (Nat.le_of_ble_eq_true rfl) rfl (fun ls hl => ?_)
        refine lv_aload hx hb dX12_work_182 (lv_at hl 6 rfl) ?_
        refine lv_aload_n hx hb dX12_work_184 rfl (lv_at hl 2 rfl) ?_
        refine va_get (D := (dC, dI)) (ci := 12) (v := .ref (ad 19)) (C := RX12) (T := TX12) (N := 59) hx hb hts hin12 hown hK hP 0 rfl rfl 19 (Nat.le_of_ble_eq_true rfl) (ho (.fieldLink RX12 45 "NearEnoughModel" "sB" "[I") (List.mem_of_getElem? (i := 3) rfl)) (fun _ h9 => h9) rfl dX12_work_185 ?_
        refine lv_iload hx hb dX12_work_188 (lv_at hl 1 rfl) ?_
        refine va_iald hx hb hK hP 11 10 rfl rfl (ti_inx o4 o5) dX12_work_190 ?_
        refine lv_topi (fun z140_ ez140_ => ?_)
        have gz140_ : z140_.toInt = ((σ.2.1 19) (Int32.toNatClampNeg z2_)).toInt := congrArg Int32.toInt (ez140_.trans (congrFun rfl (Int32.toNatClampNeg z2_)))
        have bz140_ : (-99) ≤ z140_.toInt ∧ z140_.toInt ≤ 99 := by rw [ez140_]; exact (hI.2 19) _ (cl_lt (n := 24) o4 o5)
        have o113 : 0 ≤ z140_.toInt := by omega
        have o114 : z140_.toInt < ((12 : Nat) : Int) := by omega
        refine va_lald hx hb hK hP 30 29 rfl rfl (ti_inx o113 o114) dX12_work_191 ?_
        refine lv_topl (fun y141_ ey141_ => ?_)
        refine lv_aload hx hb dX12_work_192 (lv_at hl 6 rfl) ?_
        refine lv_aload_n hx hb dX12_work_194 rfl (lv_at hl 2 rfl) ?_
        refine va_get (D := (dC, dI)) (ci := 12) (v := .ref (ad 19)) (C := RX12) (T := TX12) (N := 59) hx hb hts hin12 hown hK hP 0 rfl rfl 19 (Nat.le_of_ble_eq_true rfl) (ho (.fieldLink RX12 45 "NearEnoughModel" "sB" "[I") (List.mem_of_getElem? (i := 3) rfl)) (fun _ h9 => h9) rfl dX12_work_195 ?_
        refine lv_iload hx hb dX12_work_198 (lv_at hl 1 rfl) ?_
        refine va_iald hx hb hK hP 11 10 rfl rfl (ti_inx o4 o5) dX12_work_200 ?_
        refine lv_topi (fun z142_ ez142_ => ?_)
        have qq143_ : z142_.toInt = z140_.toInt := congrArg Int32.toInt ((ez142_.trans (congrFun rfl (Int32.toNatClampNeg z2_))).trans ((ez140_.trans (congrFun rfl (Int32.toNatClampNeg z2_)))).symm)
        have gz142_ : z142_.toInt = ((σ.2.1 19) (Int32.toNatClampNeg z2_)).toInt := congrArg Int32.toInt (ez142_.trans (congrFun rfl (Int32.toNatClampNeg z2_)))
        have bz142_ : (-99) ≤ z142_.toInt ∧ z142_.toInt ≤ 99 := by rw [ez142_]; exact (hI.2 19) _ (cl_lt (n := 24) o4 o5)
        have o115 : 0 ≤ z142_.toInt := by omega
        have o116 : z142_.toInt < ((12 : Nat) : Int) := by omega
        refine va_lald hx hb hK hP 30 29 rfl rfl (ti_inx o115 o116) dX12_work_201 ?_
        refine lv_topl (fun y144_ ey144_ => ?_)
        refine lv_iload hx hb dX12_work_202 (lv_at hl 0 rfl) ?_
        refine lv_i2l hx hb dX12_work_204 rfl ?_
        refine lv_topl (fun y145_ ey145_ => ?_)
        have o117 : (σ.2.1 17 (Int32.toNatClampNeg z2_)).toInt = 0 ∨ (σ.2.1 17 (Int32.toNatClampNeg z2_)).toInt = 1 ∨ (σ.2.1 17 (Int32.toNatClampNeg z2_)).toInt = 6 := by omega
        have K147_ : (σ.2.1 17 (12 * (σ.1 29).toNatClampNeg + st9.toNatClampNeg)).toInt = 0 ∨ (σ.2.1 17 (12 * (σ.1 29).toNatClampNeg + st9.toNatClampNeg)).toInt = 1 ∨ (σ.2.1 17 (12 * (σ.1 29).toNatClampNeg + st9.toNatClampNeg)).toInt = 6 := by rw [← Xz2_]; exact o117
        have hrw : RwOk σ st9 := (WkOk.row hI hwk K147_)
        have o118 : 0 ≤ z137_.toInt := by omega
        have o119 : z138_.toInt = 2 * (σ.1 29).toInt + z137_.toInt := by omega
        have QN146_ : z138_.toNatClampNeg = 2 * (σ.1 29).toNatClampNeg + (σ.2.1 18 (12 * (σ.1 29).toNatClampNeg + st9.toNatClampNeg)).toNatClampNeg := by rw [← Xz2_, ← ez137_]; exact row_x (hI.1 29).1 o118 o119
        have N146_ : z139_ = ofA (σ.1 29).toNatClampNeg (cor σ) st9.toNatClampNeg := by rw [ez139_, QN146_]; rfl
        have BN146_ : 1 ≤ z139_.toInt := by rw [N146_]; exact hrw.2.2
        have o120 : z139_.toInt ≠ 0 := by omega
        refine zs_l (va_runS (As := [.long y144_, .long y145_]) (rest := [.long y141_]) ⟨hx, hb, hml, hown, hts⟩ (n_floorOver l dC dI y144_ y145_ (i2l_ne ey145_ o120) H.size) (va_cwS 2 hts gd_n_work_cp_337_n_floorOver rfl rfl rfl dd_n_floorOver ⟨Nat.le_of_ble_eq_true rfl, Nat.le_of_ble_eq_true rfl⟩) (preS (A := A) empP (hK.sub (tys' := []) [] rfl) empD hE) rfl rfl hl.1 rfl (lv_room (Nat.le_of_ble_eq_true rfl)) dX12_work_205 ⟨Nat.le_of_ble_eq_true rfl, Nat.le_of_ble_eq_true rfl⟩) hP hD hS hA (fun y148_ H locs hq hP hD hS => ?_)
        have f149_ := hq
        refine W.widen (k := 0) (n := 0) (Nat.le_of_ble_eq_true rfl) (Nat.le_of_ble_eq_true rfl) ?_
        refine lv_iload hx hb dX12_work_208 (lv_at hl 0 rfl) ?_
        refine lv_i2l hx hb dX12_work_210 rfl ?_
        refine lv_topl (fun y150_ ey150_ => ?_)
        refine lv_lmul hx hb dX12_work_211 ?_
        refine lv_topl (fun y151_ ey151_ => ?_)
        refine lv_lsub hx hb dX12_work_212 ?_
        refine lv_topl (fun y152_ ey152_ => ?_)
        refine lv_lstore (lv' := [(8, .long y152_), (7, .int z139_), (6, .int z2_), (0, .ref h), (1, .int st9), (2, .ref (ad 32)), (3, .int base), (4, .ref (ad 42)), (5, .int ch9)]) hx hb dX12_work_213 hl (Nat.le_of_ble_eq_true rfl) rfl (fun ls hl => ?_)
        refine lv_aload_n hx hb dX12_work_215 rfl (lv_at hl 3 rfl) ?_
        refine lv_aload_n hx hb dX12_work_216 rfl (lv_at hl 5 rfl) ?_
        refine lv_aload_n hx hb dX12_work_217 rfl (lv_at hl 3 rfl) ?_
        refine lv_aload_n hx hb dX12_work_218 rfl (lv_at hl 5 rfl) ?_
        refine lv_iload_n hx hb dX12_work_219 rfl (lv_at hl 6 rfl) ?_
        refine lv_iload hx hb dX12_work_220 (lv_at hl 8 rfl) ?_
        have o121 : 0 ≤ base.toInt := by omega
        have o122 : base.toInt ≤ 0 := by omega
        have o123 : -1 ≤ ch9.toInt := by omega
        have o124 : ch9.toInt ≤ 11 := by omega
        have o125 : base.toInt = 0 ∨ 12 ≤ base.toInt := by omega
        refine zy_i (va_runV (As := [.ref (ad 32), .int base, .int ch9]) (rest := [.ref (ad 32), .ref h]) ⟨hx, hb, hml, hown, hts⟩ (n_baseOf_c l dC dI h ad cl H.size σ base ch9 hI ⟨o121, o122⟩ (show base.toInt = 0 ∨ 12 ≤ base.toInt from o125) ⟨o123, o124⟩) (cwV 3 hts gd_n_work_cp_344_n_baseOf_c rfl rfl rfl dd_n_baseOf_c ⟨Nat.le_of_ble_eq_true rfl, Nat.le_of_ble_eq_true rfl⟩) (preV hP hK hD hE (ci := 12) (q0 := 0) rfl rfl) rfl rfl hl.1 rfl (lv_room (Nat.le_of_ble_eq_true rfl)) dX12_work_222 ⟨Nat.le_of_ble_eq_true rfl, Nat.le_of_ble_eq_true rfl⟩) hD hS hA (fun z154_ τ153_ H locs hq hP hD hS => ?_)
        obtain ⟨rfl, f155_, f156_, f157_⟩ := hq
        refine W.widen (k := 0) (n := 0) (Nat.le_of_ble_eq_true rfl) (Nat.le_of_ble_eq_true rfl) ?_
        refine lv_aload_n hx hb dX12_work_225 rfl (lv_at hl 3 rfl) ?_
        refine va_get (D := (dC, dI)) (ci := 12) (v := .ref (ad 18)) (C := RX12) (T := TX12) (N := 59) hx hb hts hin12 hown hK hP 0 rfl rfl 18 (Nat.le_of_ble_eq_true rfl) (ho (.fieldLink RX12 42 "NearEnoughModel" "sA" "[I") (List.mem_of_getElem? (i := 4) rfl)) (fun _ h9 => h9) rfl dX12_work_226 ?_
        refine lv_iload hx hb dX12_work_229 (lv_at hl 2 rfl) ?_
        refine va_iald hx hb hK hP 10 9 rfl rfl (ti_inx o4 o5) dX12_work_231 ?_
        refine lv_topi (fun z158_ ez158_ => ?_)
        have qq159_ : z158_.toInt = z137_.toInt := congrArg Int32.toInt ((ez158_.trans (congrFun rfl (Int32.toNatClampNeg z2_))).trans ((ez137_.trans (congrFun rfl (Int32.toNatClampNeg z2_)))).symm)
        have gz158_ : z158_.toInt = ((σ.2.1 18) (Int32.toNatClampNeg z2_)).toInt := congrArg Int32.toInt (ez158_.trans (congrFun rfl (Int32.toNatClampNeg z2_)))
        have bz158_ : (-1) ≤ z158_.toInt ∧ z158_.toInt ≤ 11 := by rw [ez158_]; exact (hI.2 18) _ (cl_lt (n := 24) o4 o5)
        refine lv_lload hx hb dX12_work_232 (lv_at hl 0 rfl) ?_
        refine lv_l2i hx hb dX12_work_234 rfl ?_
        refine lv_topi (fun z160_ ez160_ => ?_)
        have o126 : 1 ≤ z139_.toInt := by omega
        have o127 : z139_.toInt ≤ 6 := by omega
        have tz160_ := mod_rng (h := z139_) (v := (σ.2.2.1 42) (Int32.toNatClampNeg (σ.2.1 19 (Int32.toNatClampNeg z2_)))) (y := y152_) (z := z160_) o126 o127 (by simp only [ez4_, ez136_, ez137_, ez138_, ez139_, ez140_, ey141_, ez142_, ey144_, ey145_, f149_, ey150_, ey151_, ey152_, ez158_]) ez160_
        have o128 : 0 ≤ z154_.toInt := by omega
        have o129 : z154_.toInt ≤ 0 := by omega
        have o130 : 0 ≤ z158_.toInt := by omega
        have o131 : z158_.toInt ≤ 1 := by omega
        have o132 : 0 ≤ z160_.toInt := by omega
        have o133 : z160_.toInt ≤ 5 := by omega
        refine zy_i (va_runV (As := [.ref (ad 32), .int z154_, .int z158_, .int z160_]) (rest := []) ⟨hx, hb, hml, hown, hts⟩ (n_numberAt_c l dC dI h ad cl H.size σ z154_ z158_ z160_ hI ⟨o128, o129⟩ ⟨o130, o131⟩ ⟨o132, o133⟩) (cwV 4 hts gd_n_work_cp_353_n_numberAt_c rfl rfl rfl dd_n_numberAt_c ⟨Nat.le_of_ble_eq_true rfl, Nat.le_of_ble_eq_true rfl⟩) (preV hP hK hD hE (ci := 12) (q0 := 0) rfl rfl) rfl rfl hl.1 rfl (lv_room (Nat.le_of_ble_eq_true rfl)) dX12_work_235 ⟨Nat.le_of_ble_eq_true rfl, Nat.le_of_ble_eq_true rfl⟩) hD hS hA (fun z162_ τ161_ H locs hq hP hD hS => ?_)
        obtain ⟨rfl, f163_⟩ := hq
        refine W.widen (k := 0) (n := 0) (Nat.le_of_ble_eq_true rfl) (Nat.le_of_ble_eq_true rfl) ?_
        refine lv_iload hx hb dX12_work_238 (lv_at hl 8 rfl) ?_
        refine lv_if_lt (tgt := 264) hx hb dX12_work_240 rfl (fun c164_ => ?_) (fun c164_ => ?_)
        · have tc164_ := (show ch9.toInt < 0 from ti_lt rfl rg_11 c164_)
          refine lv_iconst (v := 1) hx hb dX12_work_264 rg_6 ?_
          have kk165_ : (1 : Int32).toInt = 1 := rg_18
          have o134 : (1 : Int32).toInt ≠ 0 := by omega
          refine zs_i (va_runS (As := [.int z162_, .int 1]) (rest := []) ⟨hx, hb, hml, hown, hts⟩ (n_coarse l dC dI z162_ 1 o134 H.size) (va_cwS 2 hts gd_n_work_cp_357_n_coarse rfl rfl rfl dd_n_coarse ⟨Nat.le_of_ble_eq_true rfl, Nat.le_of_ble_eq_true rfl⟩) (preS (A := A) empP (hK.sub (tys' := []) [] rfl) empD hE) rfl rfl hl.1 rfl (lv_room (Nat.le_of_ble_eq_true rfl)) dX12_work_265 ⟨Nat.le_of_ble_eq_true rfl, Nat.le_of_ble_eq_true rfl⟩) hP hD hS hA (fun z166_ H locs hq hP hD hS => ?_)
          have f167_ := hq
          refine W.widen (k := 0) (n := 0) (Nat.le_of_ble_eq_true rfl) (Nat.le_of_ble_eq_true rfl) ?_
          refine lv_i2l hx hb dX12_work_268 rfl ?_
          refine lv_topl (fun y168_ ey168_ => ?_)
          rw [hQ]
          have o135 : (σ.2.1 17 (Int32.toNatClampNeg z2_)).toInt = 6 := by omega
          have K169_ : (σ.2.1 17 (12 * (σ.1 29).toNatClampNeg + st9.toNatClampNeg)).toInt = 6 := by rw [← Xz2_]; exact o135
          have o136 : ¬ (0 ≤ ch9.toInt ∧ (σ.2.1 34 (Int32.toNatClampNeg ch9)).toInt = 3) := by omega
          have HR170_ := (by_n (T := cor σ) (show ¬ (0 ≤ ch9.toInt ∧ (σ.2.1 34 (Int32.toNatClampNeg ch9)).toInt = 3) from o136))
          have R170_ : y168_ = wkF (σ.1 29).toNatClampNeg (cor σ) false (σ.2.1 32) (σ.2.2.1 42) st9.toNatClampNeg base ch9 := by rw [wk_6 (T := cor σ) K169_]; rw [← f155_, ← N146_, ← HR170_]; simp only [ez4_, ez136_, ez137_, ez138_, ez139_, ez140_, ey141_, ez142_, ey144_, ey145_, f149_, ey150_, ey151_, ey152_, ez158_, ez160_, f163_, f167_, ey168_, Xz2_] <;> rfl
          exact W.lret (v := y168_) hx hb hr (fun t ht hW => ⟨⟨y168_, σ, rfl, ⟨rfl, R170_⟩, wEn_of hP (hK.sub [] rfl) hD ht hW⟩, hS.F ht⟩) hS.2.2 dX12_work_269
        · have tc164_ := (show 0 ≤ ch9.toInt from ti_nlt rfl rg_11 c164_)
          refine lv_aload_n hx hb dX12_work_243 rfl (lv_at hl 3 rfl) ?_
          refine va_get (D := (dC, dI)) (ci := 12) (v := .ref (ad 34)) (C := RX12) (T := TX12) (N := 59) hx hb hts hin12 hown hK hP 0 rfl rfl 34 (Nat.le_of_ble_eq_true rfl) (ho (.fieldLink RX12 85 "NearEnoughModel" "cKind" "[I") (List.mem_of_getElem? (i := 5) rfl)) (fun _ h9 => h9) rfl dX12_work_244 ?_
          refine lv_iload hx hb dX12_work_247 (lv_at hl 8 rfl) ?_
          have o137 : 0 ≤ ch9.toInt := by omega
          have o138 : ch9.toInt < ((12 : Nat) : Int) := by omega
          refine va_iald hx hb hK hP 24 23 rfl rfl (ti_inx o137 o138) dX12_work_249 ?_
          refine lv_topi (fun z171_ ez171_ => ?_)
          have gz171_ : z171_.toInt = ((σ.2.1 34) (Int32.toNatClampNeg ch9)).toInt := congrArg Int32.toInt (ez171_.trans (congrFun rfl (Int32.toNatClampNeg ch9)))
          have bz171_ : 0 ≤ z171_.toInt ∧ z171_.toInt ≤ 6 := by rw [ez171_]; exact (hI.2 34) _ (cl_lt (n := 12) o137 o138)
          refine lv_iconst (v := 3) hx hb dX12_work_250 rg_16 ?_
          refine lv_icmp_ne (tgt := 264) hx hb dX12_work_251 rfl (fun c172_ => ?_) (fun c172_ => ?_)
          · have tc172_ := (show z171_.toInt ≠ 3 from ti_ne rfl rg_17 c172_)
            refine lv_iconst (v := 1) hx hb dX12_work_264 rg_6 ?_
            have kk173_ : (1 : Int32).toInt = 1 := rg_18
            have o139 : (1 : Int32).toInt ≠ 0 := by omega
            refine zs_i (va_runS (As := [.int z162_, .int 1]) (rest := []) ⟨hx, hb, hml, hown, hts⟩ (n_coarse l dC dI z162_ 1 o139 H.size) (va_cwS 2 hts gd_n_work_cp_357_n_coarse rfl rfl rfl dd_n_coarse ⟨Nat.le_of_ble_eq_true rfl, Nat.le_of_ble_eq_true rfl⟩) (preS (A := A) empP (hK.sub (tys' := []) [] rfl) empD hE) rfl rfl hl.1 rfl (lv_room (Nat.le_of_ble_eq_true rfl)) dX12_work_265 ⟨Nat.le_of_ble_eq_true rfl, Nat.le_of_ble_eq_true rfl⟩) hP hD hS hA (fun z174_ H locs hq hP hD hS => ?_)
            have f175_ := hq
            refine W.widen (k := 0) (n := 0) (Nat.le_of_ble_eq_true rfl) (Nat.le_of_ble_eq_true rfl) ?_
            refine lv_i2l hx hb dX12_work_268 rfl ?_
            refine lv_topl (fun y176_ ey176_ => ?_)
            rw [hQ]
            have o140 : (σ.2.1 17 (Int32.toNatClampNeg z2_)).toInt = 6 := by omega
            have K177_ : (σ.2.1 17 (12 * (σ.1 29).toNatClampNeg + st9.toNatClampNeg)).toInt = 6 := by rw [← Xz2_]; exact o140
            have o141 : ¬ (0 ≤ ch9.toInt ∧ (σ.2.1 34 (Int32.toNatClampNeg ch9)).toInt = 3) := by omega
            have HR178_ := (by_n (T := cor σ) (show ¬ (0 ≤ ch9.toInt ∧ (σ.2.1 34 (Int32.toNatClampNeg ch9)).toInt = 3) from o141))
            have R178_ : y176_ = wkF (σ.1 29).toNatClampNeg (cor σ) false (σ.2.1 32) (σ.2.2.1 42) st9.toNatClampNeg base ch9 := by rw [wk_6 (T := cor σ) K177_]; rw [← f155_, ← N146_, ← HR178_]; simp only [ez4_, ez136_, ez137_, ez138_, ez139_, ez140_, ey141_, ez142_, ey144_, ey145_, f149_, ey150_, ey151_, ey152_, ez158_, ez160_, f163_, ez171_, f175_, ey176_, Xz2_] <;> rfl
            exact W.lret (v := y176_) hx hb hr (fun t ht hW => ⟨⟨y176_, σ, rfl, ⟨rfl, R178_⟩, wEn_of hP (hK.sub [] rfl) hD ht hW⟩, hS.F ht⟩) hS.2.2 dX12_work_269
          · have tc172_ := (show z171_.toInt = 3 from ti_eq rfl rg_17 c172_)
            refine lv_aload_n hx hb dX12_work_254 rfl (lv_at hl 3 rfl) ?_
            refine va_get (D := (dC, dI)) (ci := 12) (v := .ref (ad 35)) (C := RX12) (T := TX12) (N := 59) hx hb hts hin12 hown hK hP 0 rfl rfl 35 (Nat.le_of_ble_eq_true rfl) (ho (.fieldLink RX12 88 "NearEnoughModel" "cN" "[I") (List.mem_of_getElem? (i := 6) rfl)) (fun _ h9 => h9) rfl dX12_work_255 ?_
            refine lv_iload hx hb dX12_work_258 (lv_at hl 8 rfl) ?_
            refine va_iald hx hb hK hP 25 24 rfl rfl (ti_inx o137 o138) dX12_work_260 ?_
            refine lv_topi (fun z179_ ez179_ => ?_)
            have gz179_ : z179_.toInt = ((σ.2.1 35) (Int32.toNatClampNeg ch9)).toInt := congrArg Int32.toInt (ez179_.trans (congrFun rfl (Int32.toNatClampNeg ch9)))
            have bz179_ : 0 ≤ z179_.toInt ∧ z179_.toInt ≤ 99 := by rw [ez179_]; exact (hI.2 35) _ (cl_lt (n := 12) o137 o138)
            refine lv_goto (tgt := 265) hx hb dX12_work_261 rfl ?_
            have o142 : z179_.toInt ≠ 0 := by omega
            refine zs_i (va_runS (As := [.int z162_, .int z179_]) (rest := []) ⟨hx, hb, hml, hown, hts⟩ (n_coarse l dC dI z162_ z179_ o142 H.size) (va_cwS 2 hts gd_n_work_cp_357_n_coarse rfl rfl rfl dd_n_coarse ⟨Nat.le_of_ble_eq_true rfl, Nat.le_of_ble_eq_true rfl⟩) (preS (A := A) empP (hK.sub (tys' := []) [] rfl) empD hE) rfl rfl hl.1 rfl (lv_room (Nat.le_of_ble_eq_true rfl)) dX12_work_265 ⟨Nat.le_of_ble_eq_true rfl, Nat.le_of_ble_eq_true rfl⟩) hP hD hS hA (fun z180_ H locs hq hP hD hS => ?_)
            have f181_ := hq
            refine W.widen (k := 0) (n := 0) (Nat.le_of_ble_eq_true rfl) (Nat.le_of_ble_eq_true rfl) ?_
            refine lv_i2l hx hb dX12_work_268 rfl ?_
            refine lv_topl (fun y182_ ey182_ => ?_)
            rw [hQ]
            have o143 : (σ.2.1 17 (Int32.toNatClampNeg z2_)).toInt = 6 := by omega
            have K183_ : (σ.2.1 17 (12 * (σ.1 29).toNatClampNeg + st9.toNatClampNeg)).toInt = 6 := by rw [← Xz2_]; exact o143
            have o144 : 0 ≤ ch9.toInt ∧ (σ.2.1 34 (Int32.toNatClampNeg ch9)).toInt = 3 := by omega
            have HR184_ := (by_y (T := cor σ) (show 0 ≤ ch9.toInt ∧ (σ.2.1 34 (Int32.toNatClampNeg ch9)).toInt = 3 from o144) ez179_)
            have R184_ : y182_ = wkF (σ.1 29).toNatClampNeg (cor σ) false (σ.2.1 32) (σ.2.2.1 42) st9.toNatClampNeg base ch9 := by rw [wk_6 (T := cor σ) K183_]; rw [← f155_, ← N146_, ← HR184_]; simp only [ez4_, ez136_, ez137_, ez138_, ez139_, ez140_, ey141_, ez142_, ey144_, ey145_, f149_, ey150_, ey151_, ey152_, ez158_, ez160_, f163_, ez171_, ez179_, f181_, ey182_, Xz2_] <;> rfl
            exact W.lret (v := y182_) hx hb hr (fun t ht hW => ⟨⟨y182_, σ, rfl, ⟨rfl, R184_⟩, wEn_of hP (hK.sub [] rfl) hD ht hW⟩, hS.F ht⟩) hS.2.2 dX12_work_269
def ow_n_work_cc : List Cond := [.fieldLink RX12 39 "NearEnoughModel" "sKind" "[I", .fieldLink RX12 48 "NearEnoughModel" "sC" "[I", .fieldLink RX12 51 "NearEnoughModel" "sD" "[I", .fieldLink RX12 45 "NearEnoughModel" "sB" "[I", .fieldLink RX12 42 "NearEnoughModel" "sA" "[I", .fieldLink RX12 85 "NearEnoughModel" "cKind" "[I", .fieldLink RX12 88 "NearEnoughModel" "cN" "[I", .fieldLink RX12 30 "NearEnoughModel" "rHas" "[I", .fieldLink RX12 240 "NearEnoughModel" "bank" "I"]
def vs_n_work_cc : List Cond := .code yX12_work cX12_work 10 (some .long) :: (ow_n_work_cc ++ (([.methodLink RX12 331 yX12_at0, .instanceMethod yX12_at0, .selects RX12 yX12_at0 yX12_at0, .initialized RX12] : List Cond) ++ (vs_n_at0 ++ (([.methodLink RX12 360 yX12_ofRow, .instanceMethod yX12_ofRow, .selects RX12 yX12_ofRow yX12_ofRow, .initialized RX12] : List Cond) ++ (vs_n_ofRow_c ++ (([.methodLink RX12 337 yX12_floorOver, .static yX12_floorOver, .initialized yX12_floorOver.cls] : List Cond) ++ (vs_n_floorOver ++ (([.methodLink RX12 344 yX12_baseOf, .instanceMethod yX12_baseOf, .selects RX12 yX12_baseOf yX12_baseOf, .initialized RX12] : List Cond) ++ (vs_n_baseOf_c ++ (([.methodLink RX12 353 yX12_numberAt, .instanceMethod yX12_numberAt, .selects RX12 yX12_numberAt yX12_numberAt, .initialized RX12] : List Cond) ++ (vs_n_numberAt_c ++ (([.methodLink RX12 357 yX12_coarse, .static yX12_coarse, .initialized yX12_coarse.cls] : List Cond) ++ (vs_n_coarse ++ (wsX120))))))))))))))
theorem vg_n_work_cc : vs_n_work_cc.all goodWord = true := by decide +kernel
theorem dd_n_work_cc : yX12_work.cls = RX12 ∧ yX12_work.cls ≠ "java/lang/invoke/MethodHandle" ∧ yX12_work.cls ≠ "java/lang/invoke/VarHandle" ∧ (parseMethodDescriptor yX12_work.desc).map (fun d => d.parameters.length) = some 5 := by decide +kernel
def rm_n_work_cc : Room := { frames := 3, cells := 0, slots := 0, locals := 83 }
theorem gd_n_work_cc_331_n_at0 : GoodIn vs_n_work_cc (wsV RX12 331 RX12 yX12_at0 vs_n_at0) := goodIn_app (goodIn_sub (fun w h => (List.mem_cons_of_mem _ (List.mem_append_right _ (List.mem_append_left _ h)))) (by decide +kernel)) (goodIn_sub (fun w h => (List.mem_cons_of_mem _ (List.mem_append_right _ (List.mem_append_right _ (List.mem_append_left _ h))))) vg_n_at0)
theorem gd_n_work_cc_360_n_ofRow_c : GoodIn vs_n_work_cc (wsV RX12 360 RX12 yX12_ofRow vs_n_ofRow_c) := goodIn_app (goodIn_sub (fun w h => (List.mem_cons_of_mem _ (List.mem_append_right _ (List.mem_append_right _ (List.mem_append_right _ (List.mem_append_left _ h)))))) (by decide +kernel)) (goodIn_sub (fun w h => (List.mem_cons_of_mem _ (List.mem_append_right _ (List.mem_append_right _ (List.mem_append_right _ (List.mem_append_right _ (List.mem_append_left _ h))))))) vg_n_ofRow_c)
theorem gd_n_work_cc_337_n_floorOver : GoodIn vs_n_work_cc (va_wsS RX12 337 yX12_floorOver vs_n_floorOver) := goodIn_app (goodIn_sub (fun w h => (List.mem_cons_of_mem _ (List.mem_append_right _ (List.mem_append_right _ (List.mem_append_right _ (List.mem_append_right _ (List.mem_append_right _ (List.mem_append_left _ h)))))))) (by decide +kernel)) (goodIn_sub (fun w h => (List.mem_cons_of_mem _ (List.mem_append_right _ (List.mem_append_right _ (List.mem_append_right _ (List.mem_append_right _ (List.mem_append_right _ (List.mem_append_right _ (List.mem_append_left _ h))))))))) vg_n_floorOver)
theorem gd_n_work_cc_344_n_baseOf_c : GoodIn vs_n_work_cc (wsV RX12 344 RX12 yX12_baseOf vs_n_baseOf_c) := goodIn_app (goodIn_sub (fun w h => (List.mem_cons_of_mem _ (List.mem_append_right _ (List.mem_append_right _ (List.mem_append_right _ (List.mem_append_right _ (List.mem_append_right _ (List.mem_append_right _ (List.mem_append_right _ (List.mem_append_left _ h)))))))))) (by decide +kernel)) (goodIn_sub (fun w h => (List.mem_cons_of_mem _ (List.mem_append_right _ (List.mem_append_right _ (List.mem_append_right _ (List.mem_append_right _ (List.mem_append_right _ (List.mem_append_right _ (List.mem_append_right _ (List.mem_append_right _ (List.mem_append_left _ h))))))))))) vg_n_baseOf_c)
theorem gd_n_work_cc_353_n_numberAt_c : GoodIn vs_n_work_cc (wsV RX12 353 RX12 yX12_numberAt vs_n_numberAt_c) := goodIn_app (goodIn_sub (fun w h => (List.mem_cons_of_mem _ (List.mem_append_right _ (List.mem_append_right _ (List.mem_append_right _ (List.mem_append_right _ (List.mem_append_right _ (List.mem_append_right _ (List.mem_append_right _ (List.mem_append_right _ (List.mem_append_right _ (List.mem_append_left _ h)))))))))))) (by decide +kernel)) (goodIn_sub (fun w h => (List.mem_cons_of_mem _ (List.mem_append_right _ (List.mem_append_right _ (List.mem_append_right _ (List.mem_append_right _ (List.mem_append_right _ (List.mem_append_right _ (List.mem_append_right _ (List.mem_append_right _ (List.mem_append_right _ (List.mem_append_right _ (List.mem_append_left _ h))))))))))))) vg_n_numberAt_c)
theorem gd_n_work_cc_357_n_coarse : GoodIn vs_n_work_cc (va_wsS RX12 357 yX12_coarse vs_n_coarse) := goodIn_app (goodIn_sub (fun w h => (List.mem_cons_of_mem _ (List.mem_append_right _ (List.mem_append_right _ (List.mem_append_right _ (List.mem_append_right _ (List.mem_append_right _ (List.mem_append_right _ (List.mem_append_right _ (List.mem_append_right _ (List.mem_append_right _ (List.mem_append_right _ (List.mem_append_right _ (List.mem_append_left _ h)))))))))))))) (by decide +kernel)) (goodIn_sub (fun w h => (List.mem_cons_of_mem _ (List.mem_append_right _ (List.mem_append_right _ (List.mem_append_right _ (List.mem_append_right _ (List.mem_append_right _ (List.mem_append_right _ (List.mem_append_right _ (List.mem_append_right _ (List.mem_append_right _ (List.mem_append_right _ (List.mem_append_right _ (List.mem_append_right _ (List.mem_append_left _ h))))))))))))))) vg_n_coarse)
set_option maxHeartbeats 4000000 in
set_option maxRecDepth 100000 in
theorem n_work_cc (l : Launch) (dC : Nat → ClassId) (dI : Nat → Nat → Nat) (h : Nat) (ad : Nat → Nat) (cl : Nat → ClassId) (sz : Nat) (σ : MS) (st9 : Int32) (base : Int32) (ch9 : Int32) (hI : Inv σ) (hs : 0 ≤ st9.toInt ∧ st9.toInt ≤ 11) (hba : 0 ≤ base.toInt ∧ base.toInt ≤ 0) (hbm : base.toInt = 0 ∨ 12 ≤ base.toInt) (hch : ChOk σ ch9) (hwk : WkOk σ st9) : Met l yX12_work vs_n_work_cc rm_n_work_cc (va_Pc [.ref h, .int st9, .ref (ad 32), .int base, .ref (ad 41), .int ch9] (wSt dC dI (mW h ad cl σ) (mT cl) sz)) (va_Ql (fun (r : Int64) (τ : MS) => σ = τ ∧ r = wkF (σ.1 29).toNatClampNeg (cor σ) false (σ.2.1 32) (σ.2.2.1 41) st9.toNatClampNeg base ch9) (fun (τ : MS) => wEn dC dI (va_A (mW h ad cl σ) sz) (mW h ad cl τ) []) (va_A (mW h ad cl σ) sz)) 0 0 (va_A (mW h ad cl σ) sz) := by
  refine Met.ofW (cc := cX12_work) (maxL := 10) (ret := (some .long)) (by decide) rfl ?_
  intro p e s m args below meth c s₁ B hml hv
  obtain ⟨rfl, hsz, hP, hK, hD0, hE⟩ := hv
  have hx := B.exec
  have hb := B.bytes
  have hr := B.returns
  have hts := atoms_spec (ws := vs_n_work_cc) B.pre
  have hown : s.vm.findClass RX12 = some m.cls := findClass_of_methodNamed B.named
  have hlocks := B.notSynchronized
  subst hsz
  have hD := hD0.self (sz := s.heap.size)
  generalize hAe : va_A (mW h ad cl σ) s.heap.size = A at hD ⊢
  have hA : ∀ q : Nat, s.heap.size ≤ q → A q := fun q h => by rw [← hAe]; exact Or.inr h
  have hl := lv_entry ([.ref h, .int st9, .ref (ad 32), .int base, .ref (ad 41), .int ch9]) (n := 10) (Nat.le_of_ble_eq_true rfl)
  rw [lg_entry_eq]
  generalize (lg_sl ([.ref h, .int st9, .ref (ad 32), .int base, .ref (ad 41), .int ch9]) ++ List.replicate (10 - (lg_sl ([.ref h, .int st9, .ref (ad 32), .int base, .ref (ad 41), .int ch9])).length) Slot.unset).toArray = ls at hl ⊢
  have hl : lv_has ls 10 [(0, .ref h), (1, .int st9), (2, .ref (ad 32)), (3, .int base), (4, .ref (ad 41)), (5, .int ch9)] := hl
  have ho := fun w (h : w ∈ ow_n_work_cc) => hts w (List.mem_cons_of_mem _ (List.mem_append_left _ h))
  have hin12 : ∀ w ∈ u_ws RX12 TX12 59, w ∈ vs_n_work_cc := fun w h => (List.mem_cons_of_mem _ (List.mem_append_right _ (List.mem_append_right _ (List.mem_append_right _ (List.mem_append_right _ (List.mem_append_right _ (List.mem_append_right _ (List.mem_append_right _ (List.mem_append_right _ (List.mem_append_right _ (List.mem_append_right _ (List.mem_append_right _ (List.mem_append_right _ (List.mem_append_right _ h))))))))))))))
  refine zQ (fun Q hQ => ?_)
  have hch0 : ChOk σ ch9 := hch
  unfold ChOk at hch
  have hrows : (σ.2.1 11 (σ.1 29).toNatClampNeg).toInt ≤ 2 := (hI.2 11 _ (cl_lt (n := 2) (hI.1 29).1 (Int.lt_of_le_of_lt (hI.1 29).2 (by decide)))).2
  refine zH (A := A) (ws := mW h ad cl σ) (fun H hP hS => ?_) hP
  have bσ_29 : 0 ≤ (σ.1 29).toInt ∧ (σ.1 29).toInt ≤ 1 := hI.1 29
  refine lv_aload_n hx hb dX12_work_0 rfl (lv_at hl 0 rfl) ?_
  refine lv_iload_n hx hb dX12_work_1 rfl (lv_at hl 1 rfl) ?_
  have o1 : 0 ≤ st9.toInt := by omega
  have o2 : st9.toInt ≤ 11 := by omega
  refine zy_i (va_runV (As := [.int st9]) (rest := []) ⟨hx, hb, hml, hown, hts⟩ (n_at0 l dC dI h ad cl H.size σ st9 hI ⟨o1, o2⟩) (cwV 1 hts gd_n_work_cc_331_n_at0 rfl rfl rfl dd_n_at0 ⟨Nat.le_of_ble_eq_true rfl, Nat.le_of_ble_eq_true rfl⟩) (preV hP hK hD hE (ci := 12) (q0 := 0) rfl rfl) rfl rfl hl.1 rfl (lv_room (Nat.le_of_ble_eq_true rfl)) dX12_work_2 ⟨Nat.le_of_ble_eq_true rfl, Nat.le_of_ble_eq_true rfl⟩) hD hS hA (fun z2_ τ1_ H locs hq hP hD hS => ?_)
  obtain ⟨rfl, f3_⟩ := hq
  refine W.widen (k := 0) (n := 0) (Nat.le_of_ble_eq_true rfl) (Nat.le_of_ble_eq_true rfl) ?_
  have o3 : z2_.toInt = 12 * (σ.1 29).toInt + st9.toInt := by omega
  have Xz2_ : z2_.toNatClampNeg = 12 * (σ.1 29).toNatClampNeg + st9.toNatClampNeg := at0x (hI.1 29).1 o1 o3
  have hst := hwk.st2 Xz2_
  unfold StOk at hst
  refine lv_istore (lv' := [(6, .int z2_), (0, .ref h), (1, .int st9), (2, .ref (ad 32)), (3, .int base), (4, .ref (ad 41)), (5, .int ch9)]) hx hb dX12_work_5 hl (Nat.le_of_ble_eq_true rfl) rfl (fun ls hl => ?_)
  refine lv_aload_n hx hb dX12_work_7 rfl (lv_at hl 1 rfl) ?_
  refine va_get (D := (dC, dI)) (ci := 12) (v := .ref (ad 17)) (C := RX12) (T := TX12) (N := 59) hx hb hts hin12 hown hK hP 0 rfl rfl 17 (Nat.le_of_ble_eq_true rfl) (ho (.fieldLink RX12 39 "NearEnoughModel" "sKind" "[I") (List.mem_of_getElem? (i := 0) rfl)) (fun _ h9 => h9) rfl dX12_work_8 ?_
  refine lv_iload hx hb dX12_work_11 (lv_at hl 0 rfl) ?_
  have o4 : 0 ≤ z2_.toInt := by omega
  have o5 : z2_.toInt < ((24 : Nat) : Int) := by omega
  refine va_iald hx hb hK hP 9 8 rfl rfl (ti_inx o4 o5) dX12_work_13 ?_
  refine lv_topi (fun z4_ ez4_ => ?_)
  have gz4_ : z4_.toInt = ((σ.2.1 17) (Int32.toNatClampNeg z2_)).toInt := congrArg Int32.toInt (ez4_.trans (congrFun rfl (Int32.toNatClampNeg z2_)))
  have bz4_ : 0 ≤ z4_.toInt ∧ z4_.toInt ≤ 7 := by rw [ez4_]; exact (hI.2 17) _ (cl_lt (n := 24) o4 o5)
  by_cases c_lo : z4_.toInt < 0
  · refine lv_tableOut (tgt := 270) hx hb dX12_work_14 (Or.inl c_lo) rfl ?_
    refine lv_iload hx hb dX12_work_270 (lv_at hl 6 rfl) ?_
    refine lv_if_lt (tgt := 304) hx hb dX12_work_272 rfl (fun c5_ => ?_) (fun c5_ => ?_)
    · have tc5_ := (show ch9.toInt < 0 from ti_lt rfl rg_11 c5_)
      refine lv_aload hx hb dX12_work_304 (lv_at hl 5 rfl) ?_
      refine lv_aload_n hx hb dX12_work_306 rfl (lv_at hl 1 rfl) ?_
      refine va_get (D := (dC, dI)) (ci := 12) (v := .ref (ad 20)) (C := RX12) (T := TX12) (N := 59) hx hb hts hin12 hown hK hP 0 rfl rfl 20 (Nat.le_of_ble_eq_true rfl) (ho (.fieldLink RX12 48 "NearEnoughModel" "sC" "[I") (List.mem_of_getElem? (i := 1) rfl)) (fun _ h9 => h9) rfl dX12_work_307 ?_
      refine lv_iload hx hb dX12_work_310 (lv_at hl 0 rfl) ?_
      refine va_iald hx hb hK hP 12 11 rfl rfl (ti_inx o4 o5) dX12_work_312 ?_
      refine lv_topi (fun z6_ ez6_ => ?_)
      have gz6_ : z6_.toInt = ((σ.2.1 20) (Int32.toNatClampNeg z2_)).toInt := congrArg Int32.toInt (ez6_.trans (congrFun rfl (Int32.toNatClampNeg z2_)))
      have bz6_ : (-1) ≤ z6_.toInt ∧ z6_.toInt ≤ 99 := by rw [ez6_]; exact (hI.2 20) _ (cl_lt (n := 24) o4 o5)
      have o6 : 0 ≤ z6_.toInt := by omega
      have o7 : z6_.toInt < ((12 : Nat) : Int) := by omega
      refine va_lald hx hb hK hP 29 28 rfl rfl (ti_inx o6 o7) dX12_work_313 ?_
      refine lv_topl (fun y7_ ey7_ => ?_)
      refine lv_aload hx hb dX12_work_314 (lv_at hl 5 rfl) ?_
      refine lv_aload_n hx hb dX12_work_316 rfl (lv_at hl 1 rfl) ?_
      refine va_get (D := (dC, dI)) (ci := 12) (v := .ref (ad 21)) (C := RX12) (T := TX12) (N := 59) hx hb hts hin12 hown hK hP 0 rfl rfl 21 (Nat.le_of_ble_eq_true rfl) (ho (.fieldLink RX12 51 "NearEnoughModel" "sD" "[I") (List.mem_of_getElem? (i := 2) rfl)) (fun _ h9 => h9) rfl dX12_work_317 ?_
      refine lv_iload hx hb dX12_work_320 (lv_at hl 0 rfl) ?_
      refine va_iald hx hb hK hP 13 12 rfl rfl (ti_inx o4 o5) dX12_work_322 ?_
      refine lv_topi (fun z8_ ez8_ => ?_)
      have gz8_ : z8_.toInt = ((σ.2.1 21) (Int32.toNatClampNeg z2_)).toInt := congrArg Int32.toInt (ez8_.trans (congrFun rfl (Int32.toNatClampNeg z2_)))
      have bz8_ : (-1) ≤ z8_.toInt ∧ z8_.toInt ≤ 11 := by rw [ez8_]; exact (hI.2 21) _ (cl_lt (n := 24) o4 o5)
      have o8 : 0 ≤ z8_.toInt := by omega
      have o9 : z8_.toInt < ((12 : Nat) : Int) := by omega
      refine va_lald hx hb hK hP 29 28 rfl rfl (ti_inx o8 o9) dX12_work_323 ?_
      refine lv_topl (fun y9_ ey9_ => ?_)
      refine W.lcmp hx hb dX12_work_324 ?_
      refine lv_topi (fun z10_ ez10_ => ?_)
      refine lv_if_ge (tgt := 332) hx hb dX12_work_325 rfl (fun c11_ => ?_) (fun c11_ => ?_)
      · have tc11_ := (show 0 ≤ z10_.toInt from ti_le rg_11 rfl c11_)
        have lc11_ : y9_ ≤ y7_ := (lg_cmp_ge y7_ y9_).mp (by rw [← ez10_]; exact c11_)
        refine lv_iconst (v := 0) hx hb dX12_work_332 rg_0 ?_
        refine lv_istore (lv' := [(7, .int 0), (6, .int z2_), (0, .ref h), (1, .int st9), (2, .ref (ad 32)), (3, .int base), (4, .ref (ad 41)), (5, .int ch9)]) hx hb dX12_work_333 hl (Nat.le_of_ble_eq_true rfl) rfl (fun ls hl => ?_)
        refine lv_iload hx hb dX12_work_335 (lv_at hl 0 rfl) ?_
        refine lv_if_eq (tgt := 353) hx hb dX12_work_337 rfl (fun _ => ?_) (fun cc => absurd (by decide) cc)
        refine lv_aload hx hb dX12_work_353 (lv_at hl 6 rfl) ?_
        refine lv_aload_n hx hb dX12_work_355 rfl (lv_at hl 2 rfl) ?_
        refine va_get (D := (dC, dI)) (ci := 12) (v := .ref (ad 19)) (C := RX12) (T := TX12) (N := 59) hx hb hts hin12 hown hK hP 0 rfl rfl 19 (Nat.le_of_ble_eq_true rfl) (ho (.fieldLink RX12 45 "NearEnoughModel" "sB" "[I") (List.mem_of_getElem? (i := 3) rfl)) (fun _ h9 => h9) rfl dX12_work_356 ?_
        refine lv_iload hx hb dX12_work_359 (lv_at hl 1 rfl) ?_
        refine va_iald hx hb hK hP 11 10 rfl rfl (ti_inx o4 o5) dX12_work_361 ?_
        refine lv_topi (fun z12_ ez12_ => ?_)
        have gz12_ : z12_.toInt = ((σ.2.1 19) (Int32.toNatClampNeg z2_)).toInt := congrArg Int32.toInt (ez12_.trans (congrFun rfl (Int32.toNatClampNeg z2_)))
        have bz12_ : (-99) ≤ z12_.toInt ∧ z12_.toInt ≤ 99 := by rw [ez12_]; exact (hI.2 19) _ (cl_lt (n := 24) o4 o5)
        have o10 : 0 ≤ z12_.toInt := by omega
        have o11 : z12_.toInt < ((12 : Nat) : Int) := by omega
        refine va_lald hx hb hK hP 29 28 rfl rfl (ti_inx o10 o11) dX12_work_362 ?_
        refine lv_topl (fun y13_ ey13_ => ?_)
        rw [hQ]
        have o12 : (σ.2.1 17 (Int32.toNatClampNeg z2_)).toInt = 7 := by omega
        have K14_ : (σ.2.1 17 (12 * (σ.1 29).toNatClampNeg + st9.toNatClampNeg)).toInt = 7 := by rw [← Xz2_]; exact o12
        have o13 : ¬ (0 ≤ ch9.toInt ∧ (σ.2.1 34 (Int32.toNatClampNeg ch9)).toInt = 2) := by omega
        have L16_ : ¬ ((σ.2.2.1 41) (σ.2.1 20 (12 * (σ.1 29).toNatClampNeg + st9.toNatClampNeg)).toNatClampNeg < (σ.2.2.1 41) (σ.2.1 21 (12 * (σ.1 29).toNatClampNeg + st9.toNatClampNeg)).toNatClampNeg) := by rw [← Xz2_, ← ez6_, ← ez8_, ← ey7_, ← ey9_]; exact Int64.not_lt.mpr lc11_
        have R15_ : y13_ = wkF (σ.1 29).toNatClampNeg (cor σ) false (σ.2.1 32) (σ.2.2.1 41) st9.toNatClampNeg base ch9 := by rw [wk_7 (T := cor σ) K14_]; rw [if_neg (show ¬ OnK (cor σ) ch9 2 from o13), if_neg (show ¬ ((σ.2.2.1 41) (cor σ 20 (12 * (σ.1 29).toNatClampNeg + st9.toNatClampNeg)).toNatClampNeg < (σ.2.2.1 41) (cor σ 21 (12 * (σ.1 29).toNatClampNeg + st9.toNatClampNeg)).toNatClampNeg) from L16_)]; simp only [ez4_, ez6_, ey7_, ez8_, ey9_, ez10_, ez12_, ey13_, Xz2_] <;> rfl
        exact W.lret (v := y13_) hx hb hr (fun t ht hW => ⟨⟨y13_, σ, rfl, ⟨rfl, R15_⟩, wEn_of hP (hK.sub [] rfl) hD ht hW⟩, hS.F ht⟩) hS.2.2 dX12_work_363
      · have tc11_ := (show z10_.toInt < 0 from ti_nle rg_11 rfl c11_)
        have lc11_ : ¬ y9_ ≤ y7_ := fun h => c11_ (by rw [ez10_]; exact (lg_cmp_ge y7_ y9_).mpr h)
        refine lv_iconst (v := 1) hx hb dX12_work_328 rg_6 ?_
        refine lv_goto (tgt := 333) hx hb dX12_work_329 rfl ?_
        refine lv_istore (lv' := [(7, .int 1), (6, .int z2_), (0, .ref h), (1, .int st9), (2, .ref (ad 32)), (3, .int base), (4, .ref (ad 41)), (5, .int ch9)]) hx hb dX12_work_333 hl (Nat.le_of_ble_eq_true rfl) rfl (fun ls hl => ?_)
        refine lv_iload hx hb dX12_work_335 (lv_at hl 0 rfl) ?_
        refine lv_if_eq (tgt := 353) hx hb dX12_work_337 rfl (fun cc => absurd cc (by decide)) (fun _ => ?_)
        refine lv_aload hx hb dX12_work_340 (lv_at hl 6 rfl) ?_
        refine lv_aload_n hx hb dX12_work_342 rfl (lv_at hl 2 rfl) ?_
        refine va_get (D := (dC, dI)) (ci := 12) (v := .ref (ad 18)) (C := RX12) (T := TX12) (N := 59) hx hb hts hin12 hown hK hP 0 rfl rfl 18 (Nat.le_of_ble_eq_true rfl) (ho (.fieldLink RX12 42 "NearEnoughModel" "sA" "[I") (List.mem_of_getElem? (i := 4) rfl)) (fun _ h9 => h9) rfl dX12_work_343 ?_
        refine lv_iload hx hb dX12_work_346 (lv_at hl 1 rfl) ?_
        refine va_iald hx hb hK hP 10 9 rfl rfl (ti_inx o4 o5) dX12_work_348 ?_
        refine lv_topi (fun z17_ ez17_ => ?_)
        have gz17_ : z17_.toInt = ((σ.2.1 18) (Int32.toNatClampNeg z2_)).toInt := congrArg Int32.toInt (ez17_.trans (congrFun rfl (Int32.toNatClampNeg z2_)))
        have bz17_ : (-1) ≤ z17_.toInt ∧ z17_.toInt ≤ 11 := by rw [ez17_]; exact (hI.2 18) _ (cl_lt (n := 24) o4 o5)
        have o14 : 0 ≤ z17_.toInt := by omega
        have o15 : z17_.toInt < ((12 : Nat) : Int) := by omega
        refine va_lald hx hb hK hP 29 28 rfl rfl (ti_inx o14 o15) dX12_work_349 ?_
        refine lv_topl (fun y18_ ey18_ => ?_)
        refine lv_goto (tgt := 363) hx hb dX12_work_350 rfl ?_
        rw [hQ]
        have o16 : (σ.2.1 17 (Int32.toNatClampNeg z2_)).toInt = 7 := by omega
        have K19_ : (σ.2.1 17 (12 * (σ.1 29).toNatClampNeg + st9.toNatClampNeg)).toInt = 7 := by rw [← Xz2_]; exact o16
        have o17 : ¬ (0 ≤ ch9.toInt ∧ (σ.2.1 34 (Int32.toNatClampNeg ch9)).toInt = 2) := by omega
        have L21_ : (σ.2.2.1 41) (σ.2.1 20 (12 * (σ.1 29).toNatClampNeg + st9.toNatClampNeg)).toNatClampNeg < (σ.2.2.1 41) (σ.2.1 21 (12 * (σ.1 29).toNatClampNeg + st9.toNatClampNeg)).toNatClampNeg := by rw [← Xz2_, ← ez6_, ← ez8_, ← ey7_, ← ey9_]; exact Int64.not_le.mp lc11_
        have R20_ : y18_ = wkF (σ.1 29).toNatClampNeg (cor σ) false (σ.2.1 32) (σ.2.2.1 41) st9.toNatClampNeg base ch9 := by rw [wk_7 (T := cor σ) K19_]; rw [if_neg (show ¬ OnK (cor σ) ch9 2 from o17), if_pos (show (σ.2.2.1 41) (cor σ 20 (12 * (σ.1 29).toNatClampNeg + st9.toNatClampNeg)).toNatClampNeg < (σ.2.2.1 41) (cor σ 21 (12 * (σ.1 29).toNatClampNeg + st9.toNatClampNeg)).toNatClampNeg from L21_)]; simp only [ez4_, ez6_, ey7_, ez8_, ey9_, ez10_, ez17_, ey18_, Xz2_] <;> rfl
        exact W.lret (v := y18_) hx hb hr (fun t ht hW => ⟨⟨y18_, σ, rfl, ⟨rfl, R20_⟩, wEn_of hP (hK.sub [] rfl) hD ht hW⟩, hS.F ht⟩) hS.2.2 dX12_work_363
    · have tc5_ := (show 0 ≤ ch9.toInt from ti_nlt rfl rg_11 c5_)
      refine lv_aload_n hx hb dX12_work_275 rfl (lv_at hl 1 rfl) ?_
      refine va_get (D := (dC, dI)) (ci := 12) (v := .ref (ad 34)) (C := RX12) (T := TX12) (N := 59) hx hb hts hin12 hown hK hP 0 rfl rfl 34 (Nat.le_of_ble_eq_true rfl) (ho (.fieldLink RX12 85 "NearEnoughModel" "cKind" "[I") (List.mem_of_getElem? (i := 5) rfl)) (fun _ h9 => h9) rfl dX12_work_276 ?_
      refine lv_iload hx hb dX12_work_279 (lv_at hl 6 rfl) ?_
      have o18 : 0 ≤ ch9.toInt := by omega
      have o19 : ch9.toInt < ((12 : Nat) : Int) := by omega
      refine va_iald hx hb hK hP 24 23 rfl rfl (ti_inx o18 o19) dX12_work_281 ?_
      refine lv_topi (fun z22_ ez22_ => ?_)
      have gz22_ : z22_.toInt = ((σ.2.1 34) (Int32.toNatClampNeg ch9)).toInt := congrArg Int32.toInt (ez22_.trans (congrFun rfl (Int32.toNatClampNeg ch9)))
      have bz22_ : 0 ≤ z22_.toInt ∧ z22_.toInt ≤ 6 := by rw [ez22_]; exact (hI.2 34) _ (cl_lt (n := 12) o18 o19)
      refine lv_iconst (v := 2) hx hb dX12_work_282 rg_19 ?_
      refine lv_icmp_ne (tgt := 304) hx hb dX12_work_283 rfl (fun c23_ => ?_) (fun c23_ => ?_)
      · have tc23_ := (show z22_.toInt ≠ 2 from ti_ne rfl rg_20 c23_)
        refine lv_aload hx hb dX12_work_304 (lv_at hl 5 rfl) ?_
        refine lv_aload_n hx hb dX12_work_306 rfl (lv_at hl 1 rfl) ?_
        refine va_get (D := (dC, dI)) (ci := 12) (v := .ref (ad 20)) (C := RX12) (T := TX12) (N := 59) hx hb hts hin12 hown hK hP 0 rfl rfl 20 (Nat.le_of_ble_eq_true rfl) (ho (.fieldLink RX12 48 "NearEnoughModel" "sC" "[I") (List.mem_of_getElem? (i := 1) rfl)) (fun _ h9 => h9) rfl dX12_work_307 ?_
        refine lv_iload hx hb dX12_work_310 (lv_at hl 0 rfl) ?_
        refine va_iald hx hb hK hP 12 11 rfl rfl (ti_inx o4 o5) dX12_work_312 ?_
        refine lv_topi (fun z24_ ez24_ => ?_)
        have gz24_ : z24_.toInt = ((σ.2.1 20) (Int32.toNatClampNeg z2_)).toInt := congrArg Int32.toInt (ez24_.trans (congrFun rfl (Int32.toNatClampNeg z2_)))
        have bz24_ : (-1) ≤ z24_.toInt ∧ z24_.toInt ≤ 99 := by rw [ez24_]; exact (hI.2 20) _ (cl_lt (n := 24) o4 o5)
        have o20 : 0 ≤ z24_.toInt := by omega
        have o21 : z24_.toInt < ((12 : Nat) : Int) := by omega
        refine va_lald hx hb hK hP 29 28 rfl rfl (ti_inx o20 o21) dX12_work_313 ?_
        refine lv_topl (fun y25_ ey25_ => ?_)
        refine lv_aload hx hb dX12_work_314 (lv_at hl 5 rfl) ?_
        refine lv_aload_n hx hb dX12_work_316 rfl (lv_at hl 1 rfl) ?_
        refine va_get (D := (dC, dI)) (ci := 12) (v := .ref (ad 21)) (C := RX12) (T := TX12) (N := 59) hx hb hts hin12 hown hK hP 0 rfl rfl 21 (Nat.le_of_ble_eq_true rfl) (ho (.fieldLink RX12 51 "NearEnoughModel" "sD" "[I") (List.mem_of_getElem? (i := 2) rfl)) (fun _ h9 => h9) rfl dX12_work_317 ?_
        refine lv_iload hx hb dX12_work_320 (lv_at hl 0 rfl) ?_
        refine va_iald hx hb hK hP 13 12 rfl rfl (ti_inx o4 o5) dX12_work_322 ?_
        refine lv_topi (fun z26_ ez26_ => ?_)
        have gz26_ : z26_.toInt = ((σ.2.1 21) (Int32.toNatClampNeg z2_)).toInt := congrArg Int32.toInt (ez26_.trans (congrFun rfl (Int32.toNatClampNeg z2_)))
        have bz26_ : (-1) ≤ z26_.toInt ∧ z26_.toInt ≤ 11 := by rw [ez26_]; exact (hI.2 21) _ (cl_lt (n := 24) o4 o5)
        have o22 : 0 ≤ z26_.toInt := by omega
        have o23 : z26_.toInt < ((12 : Nat) : Int) := by omega
        refine va_lald hx hb hK hP 29 28 rfl rfl (ti_inx o22 o23) dX12_work_323 ?_
        refine lv_topl (fun y27_ ey27_ => ?_)
        refine W.lcmp hx hb dX12_work_324 ?_
        refine lv_topi (fun z28_ ez28_ => ?_)
        refine lv_if_ge (tgt := 332) hx hb dX12_work_325 rfl (fun c29_ => ?_) (fun c29_ => ?_)
        · have tc29_ := (show 0 ≤ z28_.toInt from ti_le rg_11 rfl c29_)
          have lc29_ : y27_ ≤ y25_ := (lg_cmp_ge y25_ y27_).mp (by rw [← ez28_]; exact c29_)
          refine lv_iconst (v := 0) hx hb dX12_work_332 rg_0 ?_
          refine lv_istore (lv' := [(7, .int 0), (6, .int z2_), (0, .ref h), (1, .int st9), (2, .ref (ad 32)), (3, .int base), (4, .ref (ad 41)), (5, .int ch9)]) hx hb dX12_work_333 hl (Nat.le_of_ble_eq_true rfl) rfl (fun ls hl => ?_)
          refine lv_iload hx hb dX12_work_335 (lv_at hl 0 rfl) ?_
          refine lv_if_eq (tgt := 353) hx hb dX12_work_337 rfl (fun _ => ?_) (fun cc => absurd (by decide) cc)
          refine lv_aload hx hb dX12_work_353 (lv_at hl 6 rfl) ?_
          refine lv_aload_n hx hb dX12_work_355 rfl (lv_at hl 2 rfl) ?_
          refine va_get (D := (dC, dI)) (ci := 12) (v := .ref (ad 19)) (C := RX12) (T := TX12) (N := 59) hx hb hts hin12 hown hK hP 0 rfl rfl 19 (Nat.le_of_ble_eq_true rfl) (ho (.fieldLink RX12 45 "NearEnoughModel" "sB" "[I") (List.mem_of_getElem? (i := 3) rfl)) (fun _ h9 => h9) rfl dX12_work_356 ?_
          refine lv_iload hx hb dX12_work_359 (lv_at hl 1 rfl) ?_
          refine va_iald hx hb hK hP 11 10 rfl rfl (ti_inx o4 o5) dX12_work_361 ?_
          refine lv_topi (fun z30_ ez30_ => ?_)
          have gz30_ : z30_.toInt = ((σ.2.1 19) (Int32.toNatClampNeg z2_)).toInt := congrArg Int32.toInt (ez30_.trans (congrFun rfl (Int32.toNatClampNeg z2_)))
          have bz30_ : (-99) ≤ z30_.toInt ∧ z30_.toInt ≤ 99 := by rw [ez30_]; exact (hI.2 19) _ (cl_lt (n := 24) o4 o5)
          have o24 : 0 ≤ z30_.toInt := by omega
          have o25 : z30_.toInt < ((12 : Nat) : Int) := by omega
          refine va_lald hx hb hK hP 29 28 rfl rfl (ti_inx o24 o25) dX12_work_362 ?_
          refine lv_topl (fun y31_ ey31_ => ?_)
          rw [hQ]
          have o26 : (σ.2.1 17 (Int32.toNatClampNeg z2_)).toInt = 7 := by omega
          have K32_ : (σ.2.1 17 (12 * (σ.1 29).toNatClampNeg + st9.toNatClampNeg)).toInt = 7 := by rw [← Xz2_]; exact o26
          have o27 : ¬ (0 ≤ ch9.toInt ∧ (σ.2.1 34 (Int32.toNatClampNeg ch9)).toInt = 2) := by omega
          have L34_ : ¬ ((σ.2.2.1 41) (σ.2.1 20 (12 * (σ.1 29).toNatClampNeg + st9.toNatClampNeg)).toNatClampNeg < (σ.2.2.1 41) (σ.2.1 21 (12 * (σ.1 29).toNatClampNeg + st9.toNatClampNeg)).toNatClampNeg) := by rw [← Xz2_, ← ez24_, ← ez26_, ← ey25_, ← ey27_]; exact Int64.not_lt.mpr lc29_
          have R33_ : y31_ = wkF (σ.1 29).toNatClampNeg (cor σ) false (σ.2.1 32) (σ.2.2.1 41) st9.toNatClampNeg base ch9 := by rw [wk_7 (T := cor σ) K32_]; rw [if_neg (show ¬ OnK (cor σ) ch9 2 from o27), if_neg (show ¬ ((σ.2.2.1 41) (cor σ 20 (12 * (σ.1 29).toNatClampNeg + st9.toNatClampNeg)).toNatClampNeg < (σ.2.2.1 41) (cor σ 21 (12 * (σ.1 29).toNatClampNeg + st9.toNatClampNeg)).toNatClampNeg) from L34_)]; simp only [ez4_, ez22_, ez24_, ey25_, ez26_, ey27_, ez28_, ez30_, ey31_, Xz2_] <;> rfl
          exact W.lret (v := y31_) hx hb hr (fun t ht hW => ⟨⟨y31_, σ, rfl, ⟨rfl, R33_⟩, wEn_of hP (hK.sub [] rfl) hD ht hW⟩, hS.F ht⟩) hS.2.2 dX12_work_363
        · have tc29_ := (show z28_.toInt < 0 from ti_nle rg_11 rfl c29_)
          have lc29_ : ¬ y27_ ≤ y25_ := fun h => c29_ (by rw [ez28_]; exact (lg_cmp_ge y25_ y27_).mpr h)
          refine lv_iconst (v := 1) hx hb dX12_work_328 rg_6 ?_
          refine lv_goto (tgt := 333) hx hb dX12_work_329 rfl ?_
          refine lv_istore (lv' := [(7, .int 1), (6, .int z2_), (0, .ref h), (1, .int st9), (2, .ref (ad 32)), (3, .int base), (4, .ref (ad 41)), (5, .int ch9)]) hx hb dX12_work_333 hl (Nat.le_of_ble_eq_true rfl) rfl (fun ls hl => ?_)
          refine lv_iload hx hb dX12_work_335 (lv_at hl 0 rfl) ?_
          refine lv_if_eq (tgt := 353) hx hb dX12_work_337 rfl (fun cc => absurd cc (by decide)) (fun _ => ?_)
          refine lv_aload hx hb dX12_work_340 (lv_at hl 6 rfl) ?_
          refine lv_aload_n hx hb dX12_work_342 rfl (lv_at hl 2 rfl) ?_
          refine va_get (D := (dC, dI)) (ci := 12) (v := .ref (ad 18)) (C := RX12) (T := TX12) (N := 59) hx hb hts hin12 hown hK hP 0 rfl rfl 18 (Nat.le_of_ble_eq_true rfl) (ho (.fieldLink RX12 42 "NearEnoughModel" "sA" "[I") (List.mem_of_getElem? (i := 4) rfl)) (fun _ h9 => h9) rfl dX12_work_343 ?_
          refine lv_iload hx hb dX12_work_346 (lv_at hl 1 rfl) ?_
          refine va_iald hx hb hK hP 10 9 rfl rfl (ti_inx o4 o5) dX12_work_348 ?_
          refine lv_topi (fun z35_ ez35_ => ?_)
          have gz35_ : z35_.toInt = ((σ.2.1 18) (Int32.toNatClampNeg z2_)).toInt := congrArg Int32.toInt (ez35_.trans (congrFun rfl (Int32.toNatClampNeg z2_)))
          have bz35_ : (-1) ≤ z35_.toInt ∧ z35_.toInt ≤ 11 := by rw [ez35_]; exact (hI.2 18) _ (cl_lt (n := 24) o4 o5)
          have o28 : 0 ≤ z35_.toInt := by omega
          have o29 : z35_.toInt < ((12 : Nat) : Int) := by omega
          refine va_lald hx hb hK hP 29 28 rfl rfl (ti_inx o28 o29) dX12_work_349 ?_
          refine lv_topl (fun y36_ ey36_ => ?_)
          refine lv_goto (tgt := 363) hx hb dX12_work_350 rfl ?_
          rw [hQ]
          have o30 : (σ.2.1 17 (Int32.toNatClampNeg z2_)).toInt = 7 := by omega
          have K37_ : (σ.2.1 17 (12 * (σ.1 29).toNatClampNeg + st9.toNatClampNeg)).toInt = 7 := by rw [← Xz2_]; exact o30
          have o31 : ¬ (0 ≤ ch9.toInt ∧ (σ.2.1 34 (Int32.toNatClampNeg ch9)).toInt = 2) := by omega
          have L39_ : (σ.2.2.1 41) (σ.2.1 20 (12 * (σ.1 29).toNatClampNeg + st9.toNatClampNeg)).toNatClampNeg < (σ.2.2.1 41) (σ.2.1 21 (12 * (σ.1 29).toNatClampNeg + st9.toNatClampNeg)).toNatClampNeg := by rw [← Xz2_, ← ez24_, ← ez26_, ← ey25_, ← ey27_]; exact Int64.not_le.mp lc29_
          have R38_ : y36_ = wkF (σ.1 29).toNatClampNeg (cor σ) false (σ.2.1 32) (σ.2.2.1 41) st9.toNatClampNeg base ch9 := by rw [wk_7 (T := cor σ) K37_]; rw [if_neg (show ¬ OnK (cor σ) ch9 2 from o31), if_pos (show (σ.2.2.1 41) (cor σ 20 (12 * (σ.1 29).toNatClampNeg + st9.toNatClampNeg)).toNatClampNeg < (σ.2.2.1 41) (cor σ 21 (12 * (σ.1 29).toNatClampNeg + st9.toNatClampNeg)).toNatClampNeg from L39_)]; simp only [ez4_, ez22_, ez24_, ey25_, ez26_, ey27_, ez28_, ez35_, ey36_, Xz2_] <;> rfl
          exact W.lret (v := y36_) hx hb hr (fun t ht hW => ⟨⟨y36_, σ, rfl, ⟨rfl, R38_⟩, wEn_of hP (hK.sub [] rfl) hD ht hW⟩, hS.F ht⟩) hS.2.2 dX12_work_363
      · have tc23_ := (show z22_.toInt = 2 from ti_eq rfl rg_20 c23_)
        refine lv_aload_n hx hb dX12_work_286 rfl (lv_at hl 1 rfl) ?_
        refine va_get (D := (dC, dI)) (ci := 12) (v := .ref (ad 35)) (C := RX12) (T := TX12) (N := 59) hx hb hts hin12 hown hK hP 0 rfl rfl 35 (Nat.le_of_ble_eq_true rfl) (ho (.fieldLink RX12 88 "NearEnoughModel" "cN" "[I") (List.mem_of_getElem? (i := 6) rfl)) (fun _ h9 => h9) rfl dX12_work_287 ?_
        refine lv_iload hx hb dX12_work_290 (lv_at hl 6 rfl) ?_
        refine va_iald hx hb hK hP 25 24 rfl rfl (ti_inx o18 o19) dX12_work_292 ?_
        refine lv_topi (fun z40_ ez40_ => ?_)
        have gz40_ : z40_.toInt = ((σ.2.1 35) (Int32.toNatClampNeg ch9)).toInt := congrArg Int32.toInt (ez40_.trans (congrFun rfl (Int32.toNatClampNeg ch9)))
        have bz40_ : 0 ≤ z40_.toInt ∧ z40_.toInt ≤ 99 := by rw [ez40_]; exact (hI.2 35) _ (cl_lt (n := 12) o18 o19)
        refine lv_if_ne (tgt := 300) hx hb dX12_work_293 rfl (fun c41_ => ?_) (fun c41_ => ?_)
        · have tc41_ := (show z40_.toInt ≠ 0 from ti_ne rfl rg_11 c41_)
          refine lv_iconst (v := 0) hx hb dX12_work_300 rg_0 ?_
          refine lv_goto (tgt := 333) hx hb dX12_work_301 rfl ?_
          refine lv_istore (lv' := [(7, .int 0), (6, .int z2_), (0, .ref h), (1, .int st9), (2, .ref (ad 32)), (3, .int base), (4, .ref (ad 41)), (5, .int ch9)]) hx hb dX12_work_333 hl (Nat.le_of_ble_eq_true rfl) rfl (fun ls hl => ?_)
          refine lv_iload hx hb dX12_work_335 (lv_at hl 0 rfl) ?_
          refine lv_if_eq (tgt := 353) hx hb dX12_work_337 rfl (fun _ => ?_) (fun cc => absurd (by decide) cc)
          refine lv_aload hx hb dX12_work_353 (lv_at hl 6 rfl) ?_
          refine lv_aload_n hx hb dX12_work_355 rfl (lv_at hl 2 rfl) ?_
          refine va_get (D := (dC, dI)) (ci := 12) (v := .ref (ad 19)) (C := RX12) (T := TX12) (N := 59) hx hb hts hin12 hown hK hP 0 rfl rfl 19 (Nat.le_of_ble_eq_true rfl) (ho (.fieldLink RX12 45 "NearEnoughModel" "sB" "[I") (List.mem_of_getElem? (i := 3) rfl)) (fun _ h9 => h9) rfl dX12_work_356 ?_
          refine lv_iload hx hb dX12_work_359 (lv_at hl 1 rfl) ?_
          refine va_iald hx hb hK hP 11 10 rfl rfl (ti_inx o4 o5) dX12_work_361 ?_
          refine lv_topi (fun z42_ ez42_ => ?_)
          have gz42_ : z42_.toInt = ((σ.2.1 19) (Int32.toNatClampNeg z2_)).toInt := congrArg Int32.toInt (ez42_.trans (congrFun rfl (Int32.toNatClampNeg z2_)))
          have bz42_ : (-99) ≤ z42_.toInt ∧ z42_.toInt ≤ 99 := by rw [ez42_]; exact (hI.2 19) _ (cl_lt (n := 24) o4 o5)
          have o32 : 0 ≤ z42_.toInt := by omega
          have o33 : z42_.toInt < ((12 : Nat) : Int) := by omega
          refine va_lald hx hb hK hP 29 28 rfl rfl (ti_inx o32 o33) dX12_work_362 ?_
          refine lv_topl (fun y43_ ey43_ => ?_)
          rw [hQ]
          have o34 : (σ.2.1 17 (Int32.toNatClampNeg z2_)).toInt = 7 := by omega
          have K44_ : (σ.2.1 17 (12 * (σ.1 29).toNatClampNeg + st9.toNatClampNeg)).toInt = 7 := by rw [← Xz2_]; exact o34
          have o35 : 0 ≤ ch9.toInt ∧ (σ.2.1 34 (Int32.toNatClampNeg ch9)).toInt = 2 := by omega
          have o36 : ¬ (σ.2.1 35 (Int32.toNatClampNeg ch9)).toInt = 0 := by omega
          have R45_ : y43_ = wkF (σ.1 29).toNatClampNeg (cor σ) false (σ.2.1 32) (σ.2.2.1 41) st9.toNatClampNeg base ch9 := by rw [wk_7 (T := cor σ) K44_]; rw [if_pos (show OnK (cor σ) ch9 2 from o35), if_neg (show ¬ (cor σ 35 (Int32.toNatClampNeg ch9)).toInt = 0 from o36)]; simp only [ez4_, ez22_, ez40_, ez42_, ey43_, Xz2_] <;> rfl
          exact W.lret (v := y43_) hx hb hr (fun t ht hW => ⟨⟨y43_, σ, rfl, ⟨rfl, R45_⟩, wEn_of hP (hK.sub [] rfl) hD ht hW⟩, hS.F ht⟩) hS.2.2 dX12_work_363
        · have tc41_ := (show z40_.toInt = 0 from ti_eq rfl rg_11 c41_)
          refine lv_iconst (v := 1) hx hb dX12_work_296 rg_6 ?_
          refine lv_goto (tgt := 333) hx hb dX12_work_297 rfl ?_
          refine lv_istore (lv' := [(7, .int 1), (6, .int z2_), (0, .ref h), (1, .int st9), (2, .ref (ad 32)), (3, .int base), (4, .ref (ad 41)), (5, .int ch9)]) hx hb dX12_work_333 hl (Nat.le_of_ble_eq_true rfl) rfl (fun ls hl => ?_)
          refine lv_iload hx hb dX12_work_335 (lv_at hl 0 rfl) ?_
          refine lv_if_eq (tgt := 353) hx hb dX12_work_337 rfl (fun cc => absurd cc (by decide)) (fun _ => ?_)
          refine lv_aload hx hb dX12_work_340 (lv_at hl 6 rfl) ?_
          refine lv_aload_n hx hb dX12_work_342 rfl (lv_at hl 2 rfl) ?_
          refine va_get (D := (dC, dI)) (ci := 12) (v := .ref (ad 18)) (C := RX12) (T := TX12) (N := 59) hx hb hts hin12 hown hK hP 0 rfl rfl 18 (Nat.le_of_ble_eq_true rfl) (ho (.fieldLink RX12 42 "NearEnoughModel" "sA" "[I") (List.mem_of_getElem? (i := 4) rfl)) (fun _ h9 => h9) rfl dX12_work_343 ?_
          refine lv_iload hx hb dX12_work_346 (lv_at hl 1 rfl) ?_
          refine va_iald hx hb hK hP 10 9 rfl rfl (ti_inx o4 o5) dX12_work_348 ?_
          refine lv_topi (fun z46_ ez46_ => ?_)
          have gz46_ : z46_.toInt = ((σ.2.1 18) (Int32.toNatClampNeg z2_)).toInt := congrArg Int32.toInt (ez46_.trans (congrFun rfl (Int32.toNatClampNeg z2_)))
          have bz46_ : (-1) ≤ z46_.toInt ∧ z46_.toInt ≤ 11 := by rw [ez46_]; exact (hI.2 18) _ (cl_lt (n := 24) o4 o5)
          have o37 : 0 ≤ z46_.toInt := by omega
          have o38 : z46_.toInt < ((12 : Nat) : Int) := by omega
          refine va_lald hx hb hK hP 29 28 rfl rfl (ti_inx o37 o38) dX12_work_349 ?_
          refine lv_topl (fun y47_ ey47_ => ?_)
          refine lv_goto (tgt := 363) hx hb dX12_work_350 rfl ?_
          rw [hQ]
          have o39 : (σ.2.1 17 (Int32.toNatClampNeg z2_)).toInt = 7 := by omega
          have K48_ : (σ.2.1 17 (12 * (σ.1 29).toNatClampNeg + st9.toNatClampNeg)).toInt = 7 := by rw [← Xz2_]; exact o39
          have o40 : 0 ≤ ch9.toInt ∧ (σ.2.1 34 (Int32.toNatClampNeg ch9)).toInt = 2 := by omega
          have o41 : (σ.2.1 35 (Int32.toNatClampNeg ch9)).toInt = 0 := by omega
          have R49_ : y47_ = wkF (σ.1 29).toNatClampNeg (cor σ) false (σ.2.1 32) (σ.2.2.1 41) st9.toNatClampNeg base ch9 := by rw [wk_7 (T := cor σ) K48_]; rw [if_pos (show OnK (cor σ) ch9 2 from o40), if_pos (show (cor σ 35 (Int32.toNatClampNeg ch9)).toInt = 0 from o41)]; simp only [ez4_, ez22_, ez40_, ez46_, ey47_, Xz2_] <;> rfl
          exact W.lret (v := y47_) hx hb hr (fun t ht hW => ⟨⟨y47_, σ, rfl, ⟨rfl, R49_⟩, wEn_of hP (hK.sub [] rfl) hD ht hW⟩, hS.F ht⟩) hS.2.2 dX12_work_363
  · by_cases c_hi : 6 < z4_.toInt
    · refine lv_tableOut (tgt := 270) hx hb dX12_work_14 (Or.inr c_hi) rfl ?_
      refine lv_iload hx hb dX12_work_270 (lv_at hl 6 rfl) ?_
      refine lv_if_lt (tgt := 304) hx hb dX12_work_272 rfl (fun c50_ => ?_) (fun c50_ => ?_)
      · have tc50_ := (show ch9.toInt < 0 from ti_lt rfl rg_11 c50_)
        refine lv_aload hx hb dX12_work_304 (lv_at hl 5 rfl) ?_
        refine lv_aload_n hx hb dX12_work_306 rfl (lv_at hl 1 rfl) ?_
        refine va_get (D := (dC, dI)) (ci := 12) (v := .ref (ad 20)) (C := RX12) (T := TX12) (N := 59) hx hb hts hin12 hown hK hP 0 rfl rfl 20 (Nat.le_of_ble_eq_true rfl) (ho (.fieldLink RX12 48 "NearEnoughModel" "sC" "[I") (List.mem_of_getElem? (i := 1) rfl)) (fun _ h9 => h9) rfl dX12_work_307 ?_
        refine lv_iload hx hb dX12_work_310 (lv_at hl 0 rfl) ?_
        refine va_iald hx hb hK hP 12 11 rfl rfl (ti_inx o4 o5) dX12_work_312 ?_
        refine lv_topi (fun z51_ ez51_ => ?_)
        have gz51_ : z51_.toInt = ((σ.2.1 20) (Int32.toNatClampNeg z2_)).toInt := congrArg Int32.toInt (ez51_.trans (congrFun rfl (Int32.toNatClampNeg z2_)))
        have bz51_ : (-1) ≤ z51_.toInt ∧ z51_.toInt ≤ 99 := by rw [ez51_]; exact (hI.2 20) _ (cl_lt (n := 24) o4 o5)
        have o42 : 0 ≤ z51_.toInt := by omega
        have o43 : z51_.toInt < ((12 : Nat) : Int) := by omega
        refine va_lald hx hb hK hP 29 28 rfl rfl (ti_inx o42 o43) dX12_work_313 ?_
        refine lv_topl (fun y52_ ey52_ => ?_)
        refine lv_aload hx hb dX12_work_314 (lv_at hl 5 rfl) ?_
        refine lv_aload_n hx hb dX12_work_316 rfl (lv_at hl 1 rfl) ?_
        refine va_get (D := (dC, dI)) (ci := 12) (v := .ref (ad 21)) (C := RX12) (T := TX12) (N := 59) hx hb hts hin12 hown hK hP 0 rfl rfl 21 (Nat.le_of_ble_eq_true rfl) (ho (.fieldLink RX12 51 "NearEnoughModel" "sD" "[I") (List.mem_of_getElem? (i := 2) rfl)) (fun _ h9 => h9) rfl dX12_work_317 ?_
        refine lv_iload hx hb dX12_work_320 (lv_at hl 0 rfl) ?_
        refine va_iald hx hb hK hP 13 12 rfl rfl (ti_inx o4 o5) dX12_work_322 ?_
        refine lv_topi (fun z53_ ez53_ => ?_)
        have gz53_ : z53_.toInt = ((σ.2.1 21) (Int32.toNatClampNeg z2_)).toInt := congrArg Int32.toInt (ez53_.trans (congrFun rfl (Int32.toNatClampNeg z2_)))
        have bz53_ : (-1) ≤ z53_.toInt ∧ z53_.toInt ≤ 11 := by rw [ez53_]; exact (hI.2 21) _ (cl_lt (n := 24) o4 o5)
        have o44 : 0 ≤ z53_.toInt := by omega
        have o45 : z53_.toInt < ((12 : Nat) : Int) := by omega
        refine va_lald hx hb hK hP 29 28 rfl rfl (ti_inx o44 o45) dX12_work_323 ?_
        refine lv_topl (fun y54_ ey54_ => ?_)
        refine W.lcmp hx hb dX12_work_324 ?_
        refine lv_topi (fun z55_ ez55_ => ?_)
        refine lv_if_ge (tgt := 332) hx hb dX12_work_325 rfl (fun c56_ => ?_) (fun c56_ => ?_)
        · have tc56_ := (show 0 ≤ z55_.toInt from ti_le rg_11 rfl c56_)
          have lc56_ : y54_ ≤ y52_ := (lg_cmp_ge y52_ y54_).mp (by rw [← ez55_]; exact c56_)
          refine lv_iconst (v := 0) hx hb dX12_work_332 rg_0 ?_
          refine lv_istore (lv' := [(7, .int 0), (6, .int z2_), (0, .ref h), (1, .int st9), (2, .ref (ad 32)), (3, .int base), (4, .ref (ad 41)), (5, .int ch9)]) hx hb dX12_work_333 hl (Nat.le_of_ble_eq_true rfl) rfl (fun ls hl => ?_)
          refine lv_iload hx hb dX12_work_335 (lv_at hl 0 rfl) ?_
          refine lv_if_eq (tgt := 353) hx hb dX12_work_337 rfl (fun _ => ?_) (fun cc => absurd (by decide) cc)
          refine lv_aload hx hb dX12_work_353 (lv_at hl 6 rfl) ?_
          refine lv_aload_n hx hb dX12_work_355 rfl (lv_at hl 2 rfl) ?_
          refine va_get (D := (dC, dI)) (ci := 12) (v := .ref (ad 19)) (C := RX12) (T := TX12) (N := 59) hx hb hts hin12 hown hK hP 0 rfl rfl 19 (Nat.le_of_ble_eq_true rfl) (ho (.fieldLink RX12 45 "NearEnoughModel" "sB" "[I") (List.mem_of_getElem? (i := 3) rfl)) (fun _ h9 => h9) rfl dX12_work_356 ?_
          refine lv_iload hx hb dX12_work_359 (lv_at hl 1 rfl) ?_
          refine va_iald hx hb hK hP 11 10 rfl rfl (ti_inx o4 o5) dX12_work_361 ?_
          refine lv_topi (fun z57_ ez57_ => ?_)
          have gz57_ : z57_.toInt = ((σ.2.1 19) (Int32.toNatClampNeg z2_)).toInt := congrArg Int32.toInt (ez57_.trans (congrFun rfl (Int32.toNatClampNeg z2_)))
          have bz57_ : (-99) ≤ z57_.toInt ∧ z57_.toInt ≤ 99 := by rw [ez57_]; exact (hI.2 19) _ (cl_lt (n := 24) o4 o5)
          have o46 : 0 ≤ z57_.toInt := by omega
          have o47 : z57_.toInt < ((12 : Nat) : Int) := by omega
          refine va_lald hx hb hK hP 29 28 rfl rfl (ti_inx o46 o47) dX12_work_362 ?_
          refine lv_topl (fun y58_ ey58_ => ?_)
          rw [hQ]
          have o48 : (σ.2.1 17 (Int32.toNatClampNeg z2_)).toInt = 7 := by omega
          have K59_ : (σ.2.1 17 (12 * (σ.1 29).toNatClampNeg + st9.toNatClampNeg)).toInt = 7 := by rw [← Xz2_]; exact o48
          have o49 : ¬ (0 ≤ ch9.toInt ∧ (σ.2.1 34 (Int32.toNatClampNeg ch9)).toInt = 2) := by omega
          have L61_ : ¬ ((σ.2.2.1 41) (σ.2.1 20 (12 * (σ.1 29).toNatClampNeg + st9.toNatClampNeg)).toNatClampNeg < (σ.2.2.1 41) (σ.2.1 21 (12 * (σ.1 29).toNatClampNeg + st9.toNatClampNeg)).toNatClampNeg) := by rw [← Xz2_, ← ez51_, ← ez53_, ← ey52_, ← ey54_]; exact Int64.not_lt.mpr lc56_
          have R60_ : y58_ = wkF (σ.1 29).toNatClampNeg (cor σ) false (σ.2.1 32) (σ.2.2.1 41) st9.toNatClampNeg base ch9 := by rw [wk_7 (T := cor σ) K59_]; rw [if_neg (show ¬ OnK (cor σ) ch9 2 from o49), if_neg (show ¬ ((σ.2.2.1 41) (cor σ 20 (12 * (σ.1 29).toNatClampNeg + st9.toNatClampNeg)).toNatClampNeg < (σ.2.2.1 41) (cor σ 21 (12 * (σ.1 29).toNatClampNeg + st9.toNatClampNeg)).toNatClampNeg) from L61_)]; simp only [ez4_, ez51_, ey52_, ez53_, ey54_, ez55_, ez57_, ey58_, Xz2_] <;> rfl
          exact W.lret (v := y58_) hx hb hr (fun t ht hW => ⟨⟨y58_, σ, rfl, ⟨rfl, R60_⟩, wEn_of hP (hK.sub [] rfl) hD ht hW⟩, hS.F ht⟩) hS.2.2 dX12_work_363
        · have tc56_ := (show z55_.toInt < 0 from ti_nle rg_11 rfl c56_)
          have lc56_ : ¬ y54_ ≤ y52_ := fun h => c56_ (by rw [ez55_]; exact (lg_cmp_ge y52_ y54_).mpr h)
          refine lv_iconst (v := 1) hx hb dX12_work_328 rg_6 ?_
          refine lv_goto (tgt := 333) hx hb dX12_work_329 rfl ?_
          refine lv_istore (lv' := [(7, .int 1), (6, .int z2_), (0, .ref h), (1, .int st9), (2, .ref (ad 32)), (3, .int base), (4, .ref (ad 41)), (5, .int ch9)]) hx hb dX12_work_333 hl (Nat.le_of_ble_eq_true rfl) rfl (fun ls hl => ?_)
          refine lv_iload hx hb dX12_work_335 (lv_at hl 0 rfl) ?_
          refine lv_if_eq (tgt := 353) hx hb dX12_work_337 rfl (fun cc => absurd cc (by decide)) (fun _ => ?_)
          refine lv_aload hx hb dX12_work_340 (lv_at hl 6 rfl) ?_
          refine lv_aload_n hx hb dX12_work_342 rfl (lv_at hl 2 rfl) ?_
          refine va_get (D := (dC, dI)) (ci := 12) (v := .ref (ad 18)) (C := RX12) (T := TX12) (N := 59) hx hb hts hin12 hown hK hP 0 rfl rfl 18 (Nat.le_of_ble_eq_true rfl) (ho (.fieldLink RX12 42 "NearEnoughModel" "sA" "[I") (List.mem_of_getElem? (i := 4) rfl)) (fun _ h9 => h9) rfl dX12_work_343 ?_
          refine lv_iload hx hb dX12_work_346 (lv_at hl 1 rfl) ?_
          refine va_iald hx hb hK hP 10 9 rfl rfl (ti_inx o4 o5) dX12_work_348 ?_
          refine lv_topi (fun z62_ ez62_ => ?_)
          have gz62_ : z62_.toInt = ((σ.2.1 18) (Int32.toNatClampNeg z2_)).toInt := congrArg Int32.toInt (ez62_.trans (congrFun rfl (Int32.toNatClampNeg z2_)))
          have bz62_ : (-1) ≤ z62_.toInt ∧ z62_.toInt ≤ 11 := by rw [ez62_]; exact (hI.2 18) _ (cl_lt (n := 24) o4 o5)
          have o50 : 0 ≤ z62_.toInt := by omega
          have o51 : z62_.toInt < ((12 : Nat) : Int) := by omega
          refine va_lald hx hb hK hP 29 28 rfl rfl (ti_inx o50 o51) dX12_work_349 ?_
          refine lv_topl (fun y63_ ey63_ => ?_)
          refine lv_goto (tgt := 363) hx hb dX12_work_350 rfl ?_
          rw [hQ]
          have o52 : (σ.2.1 17 (Int32.toNatClampNeg z2_)).toInt = 7 := by omega
          have K64_ : (σ.2.1 17 (12 * (σ.1 29).toNatClampNeg + st9.toNatClampNeg)).toInt = 7 := by rw [← Xz2_]; exact o52
          have o53 : ¬ (0 ≤ ch9.toInt ∧ (σ.2.1 34 (Int32.toNatClampNeg ch9)).toInt = 2) := by omega
          have L66_ : (σ.2.2.1 41) (σ.2.1 20 (12 * (σ.1 29).toNatClampNeg + st9.toNatClampNeg)).toNatClampNeg < (σ.2.2.1 41) (σ.2.1 21 (12 * (σ.1 29).toNatClampNeg + st9.toNatClampNeg)).toNatClampNeg := by rw [← Xz2_, ← ez51_, ← ez53_, ← ey52_, ← ey54_]; exact Int64.not_le.mp lc56_
          have R65_ : y63_ = wkF (σ.1 29).toNatClampNeg (cor σ) false (σ.2.1 32) (σ.2.2.1 41) st9.toNatClampNeg base ch9 := by rw [wk_7 (T := cor σ) K64_]; rw [if_neg (show ¬ OnK (cor σ) ch9 2 from o53), if_pos (show (σ.2.2.1 41) (cor σ 20 (12 * (σ.1 29).toNatClampNeg + st9.toNatClampNeg)).toNatClampNeg < (σ.2.2.1 41) (cor σ 21 (12 * (σ.1 29).toNatClampNeg + st9.toNatClampNeg)).toNatClampNeg from L66_)]; simp only [ez4_, ez51_, ey52_, ez53_, ey54_, ez55_, ez62_, ey63_, Xz2_] <;> rfl
          exact W.lret (v := y63_) hx hb hr (fun t ht hW => ⟨⟨y63_, σ, rfl, ⟨rfl, R65_⟩, wEn_of hP (hK.sub [] rfl) hD ht hW⟩, hS.F ht⟩) hS.2.2 dX12_work_363
      · have tc50_ := (show 0 ≤ ch9.toInt from ti_nlt rfl rg_11 c50_)
        refine lv_aload_n hx hb dX12_work_275 rfl (lv_at hl 1 rfl) ?_
        refine va_get (D := (dC, dI)) (ci := 12) (v := .ref (ad 34)) (C := RX12) (T := TX12) (N := 59) hx hb hts hin12 hown hK hP 0 rfl rfl 34 (Nat.le_of_ble_eq_true rfl) (ho (.fieldLink RX12 85 "NearEnoughModel" "cKind" "[I") (List.mem_of_getElem? (i := 5) rfl)) (fun _ h9 => h9) rfl dX12_work_276 ?_
        refine lv_iload hx hb dX12_work_279 (lv_at hl 6 rfl) ?_
        have o54 : 0 ≤ ch9.toInt := by omega
        have o55 : ch9.toInt < ((12 : Nat) : Int) := by omega
        refine va_iald hx hb hK hP 24 23 rfl rfl (ti_inx o54 o55) dX12_work_281 ?_
        refine lv_topi (fun z67_ ez67_ => ?_)
        have gz67_ : z67_.toInt = ((σ.2.1 34) (Int32.toNatClampNeg ch9)).toInt := congrArg Int32.toInt (ez67_.trans (congrFun rfl (Int32.toNatClampNeg ch9)))
        have bz67_ : 0 ≤ z67_.toInt ∧ z67_.toInt ≤ 6 := by rw [ez67_]; exact (hI.2 34) _ (cl_lt (n := 12) o54 o55)
        refine lv_iconst (v := 2) hx hb dX12_work_282 rg_19 ?_
        refine lv_icmp_ne (tgt := 304) hx hb dX12_work_283 rfl (fun c68_ => ?_) (fun c68_ => ?_)
        · have tc68_ := (show z67_.toInt ≠ 2 from ti_ne rfl rg_20 c68_)
          refine lv_aload hx hb dX12_work_304 (lv_at hl 5 rfl) ?_
          refine lv_aload_n hx hb dX12_work_306 rfl (lv_at hl 1 rfl) ?_
          refine va_get (D := (dC, dI)) (ci := 12) (v := .ref (ad 20)) (C := RX12) (T := TX12) (N := 59) hx hb hts hin12 hown hK hP 0 rfl rfl 20 (Nat.le_of_ble_eq_true rfl) (ho (.fieldLink RX12 48 "NearEnoughModel" "sC" "[I") (List.mem_of_getElem? (i := 1) rfl)) (fun _ h9 => h9) rfl dX12_work_307 ?_
          refine lv_iload hx hb dX12_work_310 (lv_at hl 0 rfl) ?_
          refine va_iald hx hb hK hP 12 11 rfl rfl (ti_inx o4 o5) dX12_work_312 ?_
          refine lv_topi (fun z69_ ez69_ => ?_)
          have gz69_ : z69_.toInt = ((σ.2.1 20) (Int32.toNatClampNeg z2_)).toInt := congrArg Int32.toInt (ez69_.trans (congrFun rfl (Int32.toNatClampNeg z2_)))
          have bz69_ : (-1) ≤ z69_.toInt ∧ z69_.toInt ≤ 99 := by rw [ez69_]; exact (hI.2 20) _ (cl_lt (n := 24) o4 o5)
          have o56 : 0 ≤ z69_.toInt := by omega
          have o57 : z69_.toInt < ((12 : Nat) : Int) := by omega
          refine va_lald hx hb hK hP 29 28 rfl rfl (ti_inx o56 o57) dX12_work_313 ?_
          refine lv_topl (fun y70_ ey70_ => ?_)
          refine lv_aload hx hb dX12_work_314 (lv_at hl 5 rfl) ?_
          refine lv_aload_n hx hb dX12_work_316 rfl (lv_at hl 1 rfl) ?_
          refine va_get (D := (dC, dI)) (ci := 12) (v := .ref (ad 21)) (C := RX12) (T := TX12) (N := 59) hx hb hts hin12 hown hK hP 0 rfl rfl 21 (Nat.le_of_ble_eq_true rfl) (ho (.fieldLink RX12 51 "NearEnoughModel" "sD" "[I") (List.mem_of_getElem? (i := 2) rfl)) (fun _ h9 => h9) rfl dX12_work_317 ?_
          refine lv_iload hx hb dX12_work_320 (lv_at hl 0 rfl) ?_
          refine va_iald hx hb hK hP 13 12 rfl rfl (ti_inx o4 o5) dX12_work_322 ?_
          refine lv_topi (fun z71_ ez71_ => ?_)
          have gz71_ : z71_.toInt = ((σ.2.1 21) (Int32.toNatClampNeg z2_)).toInt := congrArg Int32.toInt (ez71_.trans (congrFun rfl (Int32.toNatClampNeg z2_)))
          have bz71_ : (-1) ≤ z71_.toInt ∧ z71_.toInt ≤ 11 := by rw [ez71_]; exact (hI.2 21) _ (cl_lt (n := 24) o4 o5)
          have o58 : 0 ≤ z71_.toInt := by omega
          have o59 : z71_.toInt < ((12 : Nat) : Int) := by omega
          refine va_lald hx hb hK hP 29 28 rfl rfl (ti_inx o58 o59) dX12_work_323 ?_
          refine lv_topl (fun y72_ ey72_ => ?_)
          refine W.lcmp hx hb dX12_work_324 ?_
          refine lv_topi (fun z73_ ez73_ => ?_)
          refine lv_if_ge (tgt := 332) hx hb dX12_work_325 rfl (fun c74_ => ?_) (fun c74_ => ?_)
          · have tc74_ := (show 0 ≤ z73_.toInt from ti_le rg_11 rfl c74_)
            have lc74_ : y72_ ≤ y70_ := (lg_cmp_ge y70_ y72_).mp (by rw [← ez73_]; exact c74_)
            refine lv_iconst (v := 0) hx hb dX12_work_332 rg_0 ?_
            refine lv_istore (lv' := [(7, .int 0), (6, .int z2_), (0, .ref h), (1, .int st9), (2, .ref (ad 32)), (3, .int base), (4, .ref (ad 41)), (5, .int ch9)]) hx hb dX12_work_333 hl (Nat.le_of_ble_eq_true rfl) rfl (fun ls hl => ?_)
            refine lv_iload hx hb dX12_work_335 (lv_at hl 0 rfl) ?_
            refine lv_if_eq (tgt := 353) hx hb dX12_work_337 rfl (fun _ => ?_) (fun cc => absurd (by decide) cc)
            refine lv_aload hx hb dX12_work_353 (lv_at hl 6 rfl) ?_
            refine lv_aload_n hx hb dX12_work_355 rfl (lv_at hl 2 rfl) ?_
            refine va_get (D := (dC, dI)) (ci := 12) (v := .ref (ad 19)) (C := RX12) (T := TX12) (N := 59) hx hb hts hin12 hown hK hP 0 rfl rfl 19 (Nat.le_of_ble_eq_true rfl) (ho (.fieldLink RX12 45 "NearEnoughModel" "sB" "[I") (List.mem_of_getElem? (i := 3) rfl)) (fun _ h9 => h9) rfl dX12_work_356 ?_
            refine lv_iload hx hb dX12_work_359 (lv_at hl 1 rfl) ?_
            refine va_iald hx hb hK hP 11 10 rfl rfl (ti_inx o4 o5) dX12_work_361 ?_
            refine lv_topi (fun z75_ ez75_ => ?_)
            have gz75_ : z75_.toInt = ((σ.2.1 19) (Int32.toNatClampNeg z2_)).toInt := congrArg Int32.toInt (ez75_.trans (congrFun rfl (Int32.toNatClampNeg z2_)))
            have bz75_ : (-99) ≤ z75_.toInt ∧ z75_.toInt ≤ 99 := by rw [ez75_]; exact (hI.2 19) _ (cl_lt (n := 24) o4 o5)
            have o60 : 0 ≤ z75_.toInt := by omega
            have o61 : z75_.toInt < ((12 : Nat) : Int) := by omega
            refine va_lald hx hb hK hP 29 28 rfl rfl (ti_inx o60 o61) dX12_work_362 ?_
            refine lv_topl (fun y76_ ey76_ => ?_)
            rw [hQ]
            have o62 : (σ.2.1 17 (Int32.toNatClampNeg z2_)).toInt = 7 := by omega
            have K77_ : (σ.2.1 17 (12 * (σ.1 29).toNatClampNeg + st9.toNatClampNeg)).toInt = 7 := by rw [← Xz2_]; exact o62
            have o63 : ¬ (0 ≤ ch9.toInt ∧ (σ.2.1 34 (Int32.toNatClampNeg ch9)).toInt = 2) := by omega
            have L79_ : ¬ ((σ.2.2.1 41) (σ.2.1 20 (12 * (σ.1 29).toNatClampNeg + st9.toNatClampNeg)).toNatClampNeg < (σ.2.2.1 41) (σ.2.1 21 (12 * (σ.1 29).toNatClampNeg + st9.toNatClampNeg)).toNatClampNeg) := by rw [← Xz2_, ← ez69_, ← ez71_, ← ey70_, ← ey72_]; exact Int64.not_lt.mpr lc74_
            have R78_ : y76_ = wkF (σ.1 29).toNatClampNeg (cor σ) false (σ.2.1 32) (σ.2.2.1 41) st9.toNatClampNeg base ch9 := by rw [wk_7 (T := cor σ) K77_]; rw [if_neg (show ¬ OnK (cor σ) ch9 2 from o63), if_neg (show ¬ ((σ.2.2.1 41) (cor σ 20 (12 * (σ.1 29).toNatClampNeg + st9.toNatClampNeg)).toNatClampNeg < (σ.2.2.1 41) (cor σ 21 (12 * (σ.1 29).toNatClampNeg + st9.toNatClampNeg)).toNatClampNeg) from L79_)]; simp only [ez4_, ez67_, ez69_, ey70_, ez71_, ey72_, ez73_, ez75_, ey76_, Xz2_] <;> rfl
            exact W.lret (v := y76_) hx hb hr (fun t ht hW => ⟨⟨y76_, σ, rfl, ⟨rfl, R78_⟩, wEn_of hP (hK.sub [] rfl) hD ht hW⟩, hS.F ht⟩) hS.2.2 dX12_work_363
          · have tc74_ := (show z73_.toInt < 0 from ti_nle rg_11 rfl c74_)
            have lc74_ : ¬ y72_ ≤ y70_ := fun h => c74_ (by rw [ez73_]; exact (lg_cmp_ge y70_ y72_).mpr h)
            refine lv_iconst (v := 1) hx hb dX12_work_328 rg_6 ?_
            refine lv_goto (tgt := 333) hx hb dX12_work_329 rfl ?_
            refine lv_istore (lv' := [(7, .int 1), (6, .int z2_), (0, .ref h), (1, .int st9), (2, .ref (ad 32)), (3, .int base), (4, .ref (ad 41)), (5, .int ch9)]) hx hb dX12_work_333 hl (Nat.le_of_ble_eq_true rfl) rfl (fun ls hl => ?_)
            refine lv_iload hx hb dX12_work_335 (lv_at hl 0 rfl) ?_
            refine lv_if_eq (tgt := 353) hx hb dX12_work_337 rfl (fun cc => absurd cc (by decide)) (fun _ => ?_)
            refine lv_aload hx hb dX12_work_340 (lv_at hl 6 rfl) ?_
            refine lv_aload_n hx hb dX12_work_342 rfl (lv_at hl 2 rfl) ?_
            refine va_get (D := (dC, dI)) (ci := 12) (v := .ref (ad 18)) (C := RX12) (T := TX12) (N := 59) hx hb hts hin12 hown hK hP 0 rfl rfl 18 (Nat.le_of_ble_eq_true rfl) (ho (.fieldLink RX12 42 "NearEnoughModel" "sA" "[I") (List.mem_of_getElem? (i := 4) rfl)) (fun _ h9 => h9) rfl dX12_work_343 ?_
            refine lv_iload hx hb dX12_work_346 (lv_at hl 1 rfl) ?_
            refine va_iald hx hb hK hP 10 9 rfl rfl (ti_inx o4 o5) dX12_work_348 ?_
            refine lv_topi (fun z80_ ez80_ => ?_)
            have gz80_ : z80_.toInt = ((σ.2.1 18) (Int32.toNatClampNeg z2_)).toInt := congrArg Int32.toInt (ez80_.trans (congrFun rfl (Int32.toNatClampNeg z2_)))
            have bz80_ : (-1) ≤ z80_.toInt ∧ z80_.toInt ≤ 11 := by rw [ez80_]; exact (hI.2 18) _ (cl_lt (n := 24) o4 o5)
            have o64 : 0 ≤ z80_.toInt := by omega
            have o65 : z80_.toInt < ((12 : Nat) : Int) := by omega
            refine va_lald hx hb hK hP 29 28 rfl rfl (ti_inx o64 o65) dX12_work_349 ?_
            refine lv_topl (fun y81_ ey81_ => ?_)
            refine lv_goto (tgt := 363) hx hb dX12_work_350 rfl ?_
            rw [hQ]
            have o66 : (σ.2.1 17 (Int32.toNatClampNeg z2_)).toInt = 7 := by omega
            have K82_ : (σ.2.1 17 (12 * (σ.1 29).toNatClampNeg + st9.toNatClampNeg)).toInt = 7 := by rw [← Xz2_]; exact o66
            have o67 : ¬ (0 ≤ ch9.toInt ∧ (σ.2.1 34 (Int32.toNatClampNeg ch9)).toInt = 2) := by omega
            have L84_ : (σ.2.2.1 41) (σ.2.1 20 (12 * (σ.1 29).toNatClampNeg + st9.toNatClampNeg)).toNatClampNeg < (σ.2.2.1 41) (σ.2.1 21 (12 * (σ.1 29).toNatClampNeg + st9.toNatClampNeg)).toNatClampNeg := by rw [← Xz2_, ← ez69_, ← ez71_, ← ey70_, ← ey72_]; exact Int64.not_le.mp lc74_
            have R83_ : y81_ = wkF (σ.1 29).toNatClampNeg (cor σ) false (σ.2.1 32) (σ.2.2.1 41) st9.toNatClampNeg base ch9 := by rw [wk_7 (T := cor σ) K82_]; rw [if_neg (show ¬ OnK (cor σ) ch9 2 from o67), if_pos (show (σ.2.2.1 41) (cor σ 20 (12 * (σ.1 29).toNatClampNeg + st9.toNatClampNeg)).toNatClampNeg < (σ.2.2.1 41) (cor σ 21 (12 * (σ.1 29).toNatClampNeg + st9.toNatClampNeg)).toNatClampNeg from L84_)]; simp only [ez4_, ez67_, ez69_, ey70_, ez71_, ey72_, ez73_, ez80_, ey81_, Xz2_] <;> rfl
            exact W.lret (v := y81_) hx hb hr (fun t ht hW => ⟨⟨y81_, σ, rfl, ⟨rfl, R83_⟩, wEn_of hP (hK.sub [] rfl) hD ht hW⟩, hS.F ht⟩) hS.2.2 dX12_work_363
        · have tc68_ := (show z67_.toInt = 2 from ti_eq rfl rg_20 c68_)
          refine lv_aload_n hx hb dX12_work_286 rfl (lv_at hl 1 rfl) ?_
          refine va_get (D := (dC, dI)) (ci := 12) (v := .ref (ad 35)) (C := RX12) (T := TX12) (N := 59) hx hb hts hin12 hown hK hP 0 rfl rfl 35 (Nat.le_of_ble_eq_true rfl) (ho (.fieldLink RX12 88 "NearEnoughModel" "cN" "[I") (List.mem_of_getElem? (i := 6) rfl)) (fun _ h9 => h9) rfl dX12_work_287 ?_
          refine lv_iload hx hb dX12_work_290 (lv_at hl 6 rfl) ?_
          refine va_iald hx hb hK hP 25 24 rfl rfl (ti_inx o54 o55) dX12_work_292 ?_
          refine lv_topi (fun z85_ ez85_ => ?_)
          have gz85_ : z85_.toInt = ((σ.2.1 35) (Int32.toNatClampNeg ch9)).toInt := congrArg Int32.toInt (ez85_.trans (congrFun rfl (Int32.toNatClampNeg ch9)))
          have bz85_ : 0 ≤ z85_.toInt ∧ z85_.toInt ≤ 99 := by rw [ez85_]; exact (hI.2 35) _ (cl_lt (n := 12) o54 o55)
          refine lv_if_ne (tgt := 300) hx hb dX12_work_293 rfl (fun c86_ => ?_) (fun c86_ => ?_)
          · have tc86_ := (show z85_.toInt ≠ 0 from ti_ne rfl rg_11 c86_)
            refine lv_iconst (v := 0) hx hb dX12_work_300 rg_0 ?_
            refine lv_goto (tgt := 333) hx hb dX12_work_301 rfl ?_
            refine lv_istore (lv' := [(7, .int 0), (6, .int z2_), (0, .ref h), (1, .int st9), (2, .ref (ad 32)), (3, .int base), (4, .ref (ad 41)), (5, .int ch9)]) hx hb dX12_work_333 hl (Nat.le_of_ble_eq_true rfl) rfl (fun ls hl => ?_)
            refine lv_iload hx hb dX12_work_335 (lv_at hl 0 rfl) ?_
            refine lv_if_eq (tgt := 353) hx hb dX12_work_337 rfl (fun _ => ?_) (fun cc => absurd (by decide) cc)
            refine lv_aload hx hb dX12_work_353 (lv_at hl 6 rfl) ?_
            refine lv_aload_n hx hb dX12_work_355 rfl (lv_at hl 2 rfl) ?_
            refine va_get (D := (dC, dI)) (ci := 12) (v := .ref (ad 19)) (C := RX12) (T := TX12) (N := 59) hx hb hts hin12 hown hK hP 0 rfl rfl 19 (Nat.le_of_ble_eq_true rfl) (ho (.fieldLink RX12 45 "NearEnoughModel" "sB" "[I") (List.mem_of_getElem? (i := 3) rfl)) (fun _ h9 => h9) rfl dX12_work_356 ?_
            refine lv_iload hx hb dX12_work_359 (lv_at hl 1 rfl) ?_
            refine va_iald hx hb hK hP 11 10 rfl rfl (ti_inx o4 o5) dX12_work_361 ?_
            refine lv_topi (fun z87_ ez87_ => ?_)
            have gz87_ : z87_.toInt = ((σ.2.1 19) (Int32.toNatClampNeg z2_)).toInt := congrArg Int32.toInt (ez87_.trans (congrFun rfl (Int32.toNatClampNeg z2_)))
            have bz87_ : (-99) ≤ z87_.toInt ∧ z87_.toInt ≤ 99 := by rw [ez87_]; exact (hI.2 19) _ (cl_lt (n := 24) o4 o5)
            have o68 : 0 ≤ z87_.toInt := by omega
            have o69 : z87_.toInt < ((12 : Nat) : Int) := by omega
            refine va_lald hx hb hK hP 29 28 rfl rfl (ti_inx o68 o69) dX12_work_362 ?_
            refine lv_topl (fun y88_ ey88_ => ?_)
            rw [hQ]
            have o70 : (σ.2.1 17 (Int32.toNatClampNeg z2_)).toInt = 7 := by omega
            have K89_ : (σ.2.1 17 (12 * (σ.1 29).toNatClampNeg + st9.toNatClampNeg)).toInt = 7 := by rw [← Xz2_]; exact o70
            have o71 : 0 ≤ ch9.toInt ∧ (σ.2.1 34 (Int32.toNatClampNeg ch9)).toInt = 2 := by omega
            have o72 : ¬ (σ.2.1 35 (Int32.toNatClampNeg ch9)).toInt = 0 := by omega
            have R90_ : y88_ = wkF (σ.1 29).toNatClampNeg (cor σ) false (σ.2.1 32) (σ.2.2.1 41) st9.toNatClampNeg base ch9 := by rw [wk_7 (T := cor σ) K89_]; rw [if_pos (show OnK (cor σ) ch9 2 from o71), if_neg (show ¬ (cor σ 35 (Int32.toNatClampNeg ch9)).toInt = 0 from o72)]; simp only [ez4_, ez67_, ez85_, ez87_, ey88_, Xz2_] <;> rfl
            exact W.lret (v := y88_) hx hb hr (fun t ht hW => ⟨⟨y88_, σ, rfl, ⟨rfl, R90_⟩, wEn_of hP (hK.sub [] rfl) hD ht hW⟩, hS.F ht⟩) hS.2.2 dX12_work_363
          · have tc86_ := (show z85_.toInt = 0 from ti_eq rfl rg_11 c86_)
            refine lv_iconst (v := 1) hx hb dX12_work_296 rg_6 ?_
            refine lv_goto (tgt := 333) hx hb dX12_work_297 rfl ?_
            refine lv_istore (lv' := [(7, .int 1), (6, .int z2_), (0, .ref h), (1, .int st9), (2, .ref (ad 32)), (3, .int base), (4, .ref (ad 41)), (5, .int ch9)]) hx hb dX12_work_333 hl (Nat.le_of_ble_eq_true rfl) rfl (fun ls hl => ?_)
            refine lv_iload hx hb dX12_work_335 (lv_at hl 0 rfl) ?_
            refine lv_if_eq (tgt := 353) hx hb dX12_work_337 rfl (fun cc => absurd cc (by decide)) (fun _ => ?_)
            refine lv_aload hx hb dX12_work_340 (lv_at hl 6 rfl) ?_
            refine lv_aload_n hx hb dX12_work_342 rfl (lv_at hl 2 rfl) ?_
            refine va_get (D := (dC, dI)) (ci := 12) (v := .ref (ad 18)) (C := RX12) (T := TX12) (N := 59) hx hb hts hin12 hown hK hP 0 rfl rfl 18 (Nat.le_of_ble_eq_true rfl) (ho (.fieldLink RX12 42 "NearEnoughModel" "sA" "[I") (List.mem_of_getElem? (i := 4) rfl)) (fun _ h9 => h9) rfl dX12_work_343 ?_
            refine lv_iload hx hb dX12_work_346 (lv_at hl 1 rfl) ?_
            refine va_iald hx hb hK hP 10 9 rfl rfl (ti_inx o4 o5) dX12_work_348 ?_
            refine lv_topi (fun z91_ ez91_ => ?_)
            have gz91_ : z91_.toInt = ((σ.2.1 18) (Int32.toNatClampNeg z2_)).toInt := congrArg Int32.toInt (ez91_.trans (congrFun rfl (Int32.toNatClampNeg z2_)))
            have bz91_ : (-1) ≤ z91_.toInt ∧ z91_.toInt ≤ 11 := by rw [ez91_]; exact (hI.2 18) _ (cl_lt (n := 24) o4 o5)
            have o73 : 0 ≤ z91_.toInt := by omega
            have o74 : z91_.toInt < ((12 : Nat) : Int) := by omega
            refine va_lald hx hb hK hP 29 28 rfl rfl (ti_inx o73 o74) dX12_work_349 ?_
            refine lv_topl (fun y92_ ey92_ => ?_)
            refine lv_goto (tgt := 363) hx hb dX12_work_350 rfl ?_
            rw [hQ]
            have o75 : (σ.2.1 17 (Int32.toNatClampNeg z2_)).toInt = 7 := by omega
            have K93_ : (σ.2.1 17 (12 * (σ.1 29).toNatClampNeg + st9.toNatClampNeg)).toInt = 7 := by rw [← Xz2_]; exact o75
            have o76 : 0 ≤ ch9.toInt ∧ (σ.2.1 34 (Int32.toNatClampNeg ch9)).toInt = 2 := by omega
            have o77 : (σ.2.1 35 (Int32.toNatClampNeg ch9)).toInt = 0 := by omega
            have R94_ : y92_ = wkF (σ.1 29).toNatClampNeg (cor σ) false (σ.2.1 32) (σ.2.2.1 41) st9.toNatClampNeg base ch9 := by rw [wk_7 (T := cor σ) K93_]; rw [if_pos (show OnK (cor σ) ch9 2 from o76), if_pos (show (cor σ 35 (Int32.toNatClampNeg ch9)).toInt = 0 from o77)]; simp only [ez4_, ez67_, ez85_, ez91_, ey92_, Xz2_] <;> rfl
            exact W.lret (v := y92_) hx hb hr (fun t ht hW => ⟨⟨y92_, σ, rfl, ⟨rfl, R94_⟩, wEn_of hP (hK.sub [] rfl) hD ht hW⟩, hS.F ht⟩) hS.2.2 dX12_work_363
    · rcases (show z4_.toInt = 0 ∨ z4_.toInt = 1 ∨ z4_.toInt = 2 ∨ z4_.toInt = 3 ∨ z4_.toInt = 4 ∨ z4_.toInt = 5 ∨ z4_.toInt = 6 by omega) with t_sw | t_sw | t_sw | t_sw | t_sw | t_sw | t_sw
      · refine lv_tableIn (tgt := 56) (off := 42) hx hb dX12_work_14 (by rw [t_sw]; decide) (by rw [t_sw]; decide) (by rw [t_sw]; decide) (by decide) ?_
        refine lv_aload_n hx hb dX12_work_56 rfl (lv_at hl 1 rfl) ?_
        refine lv_iload_n hx hb dX12_work_57 rfl (lv_at hl 2 rfl) ?_
        refine lv_aload_n hx hb dX12_work_58 rfl (lv_at hl 3 rfl) ?_
        refine lv_iload_n hx hb dX12_work_59 rfl (lv_at hl 4 rfl) ?_
        refine lv_iload hx hb dX12_work_60 (lv_at hl 6 rfl) ?_
        have o78 : 0 ≤ base.toInt := by omega
        have o79 : base.toInt ≤ 0 := by omega
        have o80 : (σ.2.1 17 (Int32.toNatClampNeg z2_)).toInt = 0 ∨ (σ.2.1 17 (Int32.toNatClampNeg z2_)).toInt = 1 ∨ (σ.2.1 17 (Int32.toNatClampNeg z2_)).toInt = 6 := by omega
        have K95_ : (σ.2.1 17 (12 * (σ.1 29).toNatClampNeg + st9.toNatClampNeg)).toInt = 0 ∨ (σ.2.1 17 (12 * (σ.1 29).toNatClampNeg + st9.toNatClampNeg)).toInt = 1 ∨ (σ.2.1 17 (12 * (σ.1 29).toNatClampNeg + st9.toNatClampNeg)).toInt = 6 := by rw [← Xz2_]; exact o80
        have o81 : base.toInt = 0 ∨ 12 ≤ base.toInt := by omega
        refine zy_l (va_runV (As := [.int st9, .ref (ad 32), .int base, .int ch9]) (rest := []) ⟨hx, hb, hml, hown, hts⟩ (n_ofRow_c l dC dI h ad cl H.size σ st9 base ch9 hI ⟨o1, o2⟩ ⟨o78, o79⟩ (show base.toInt = 0 ∨ 12 ≤ base.toInt from o81) hch0 (WkOk.row hI hwk K95_)) (cwV 4 hts gd_n_work_cc_360_n_ofRow_c rfl rfl rfl dd_n_ofRow_c ⟨Nat.le_of_ble_eq_true rfl, Nat.le_of_ble_eq_true rfl⟩) (preV hP hK hD hE (ci := 12) (q0 := 0) rfl rfl) rfl rfl hl.1 rfl (lv_room (Nat.le_of_ble_eq_true rfl)) dX12_work_62 ⟨Nat.le_of_ble_eq_true rfl, Nat.le_of_ble_eq_true rfl⟩) hD hS hA (fun y97_ τ96_ H locs hq hP hD hS => ?_)
        obtain ⟨rfl, f98_⟩ := hq
        refine W.widen (k := 0) (n := 0) (Nat.le_of_ble_eq_true rfl) (Nat.le_of_ble_eq_true rfl) ?_
        rw [hQ]
        have o82 : (σ.2.1 17 (Int32.toNatClampNeg z2_)).toInt = 0 ∨ (σ.2.1 17 (Int32.toNatClampNeg z2_)).toInt = 1 := by omega
        have K99_ : (σ.2.1 17 (12 * (σ.1 29).toNatClampNeg + st9.toNatClampNeg)).toInt = 0 ∨ (σ.2.1 17 (12 * (σ.1 29).toNatClampNeg + st9.toNatClampNeg)).toInt = 1 := by rw [← Xz2_]; exact o82
        exact W.lret (v := y97_) hx hb hr (fun t ht hW => ⟨⟨y97_, σ, rfl, ⟨rfl, (f98_.trans (wk_0 (T := cor σ) K99_).symm)⟩, wEn_of hP (hK.sub [] rfl) hD ht hW⟩, hS.F ht⟩) hS.2.2 dX12_work_65
      · refine lv_tableIn (tgt := 56) (off := 42) hx hb dX12_work_14 (by rw [t_sw]; decide) (by rw [t_sw]; decide) (by rw [t_sw]; decide) (by decide) ?_
        refine lv_aload_n hx hb dX12_work_56 rfl (lv_at hl 1 rfl) ?_
        refine lv_iload_n hx hb dX12_work_57 rfl (lv_at hl 2 rfl) ?_
        refine lv_aload_n hx hb dX12_work_58 rfl (lv_at hl 3 rfl) ?_
        refine lv_iload_n hx hb dX12_work_59 rfl (lv_at hl 4 rfl) ?_
        refine lv_iload hx hb dX12_work_60 (lv_at hl 6 rfl) ?_
        have o83 : 0 ≤ base.toInt := by omega
        have o84 : base.toInt ≤ 0 := by omega
        have o85 : (σ.2.1 17 (Int32.toNatClampNeg z2_)).toInt = 0 ∨ (σ.2.1 17 (Int32.toNatClampNeg z2_)).toInt = 1 ∨ (σ.2.1 17 (Int32.toNatClampNeg z2_)).toInt = 6 := by omega
        have K100_ : (σ.2.1 17 (12 * (σ.1 29).toNatClampNeg + st9.toNatClampNeg)).toInt = 0 ∨ (σ.2.1 17 (12 * (σ.1 29).toNatClampNeg + st9.toNatClampNeg)).toInt = 1 ∨ (σ.2.1 17 (12 * (σ.1 29).toNatClampNeg + st9.toNatClampNeg)).toInt = 6 := by rw [← Xz2_]; exact o85
        have o86 : base.toInt = 0 ∨ 12 ≤ base.toInt := by omega
        refine zy_l (va_runV (As := [.int st9, .ref (ad 32), .int base, .int ch9]) (rest := []) ⟨hx, hb, hml, hown, hts⟩ (n_ofRow_c l dC dI h ad cl H.size σ st9 base ch9 hI ⟨o1, o2⟩ ⟨o83, o84⟩ (show base.toInt = 0 ∨ 12 ≤ base.toInt from o86) hch0 (WkOk.row hI hwk K100_)) (cwV 4 hts gd_n_work_cc_360_n_ofRow_c rfl rfl rfl dd_n_ofRow_c ⟨Nat.le_of_ble_eq_true rfl, Nat.le_of_ble_eq_true rfl⟩) (preV hP hK hD hE (ci := 12) (q0 := 0) rfl rfl) rfl rfl hl.1 rfl (lv_room (Nat.le_of_ble_eq_true rfl)) dX12_work_62 ⟨Nat.le_of_ble_eq_true rfl, Nat.le_of_ble_eq_true rfl⟩) hD hS hA (fun y102_ τ101_ H locs hq hP hD hS => ?_)
        obtain ⟨rfl, f103_⟩ := hq
        refine W.widen (k := 0) (n := 0) (Nat.le_of_ble_eq_true rfl) (Nat.le_of_ble_eq_true rfl) ?_
        rw [hQ]
        have o87 : (σ.2.1 17 (Int32.toNatClampNeg z2_)).toInt = 0 ∨ (σ.2.1 17 (Int32.toNatClampNeg z2_)).toInt = 1 := by omega
        have K104_ : (σ.2.1 17 (12 * (σ.1 29).toNatClampNeg + st9.toNatClampNeg)).toInt = 0 ∨ (σ.2.1 17 (12 * (σ.1 29).toNatClampNeg + st9.toNatClampNeg)).toInt = 1 := by rw [← Xz2_]; exact o87
        exact W.lret (v := y102_) hx hb hr (fun t ht hW => ⟨⟨y102_, σ, rfl, ⟨rfl, (f103_.trans (wk_0 (T := cor σ) K104_).symm)⟩, wEn_of hP (hK.sub [] rfl) hD ht hW⟩, hS.F ht⟩) hS.2.2 dX12_work_65
      · refine lv_tableIn (tgt := 66) (off := 52) hx hb dX12_work_14 (by rw [t_sw]; decide) (by rw [t_sw]; decide) (by rw [t_sw]; decide) (by decide) ?_
        refine lv_aload hx hb dX12_work_66 (lv_at hl 5 rfl) ?_
        refine lv_aload_n hx hb dX12_work_68 rfl (lv_at hl 1 rfl) ?_
        refine va_get (D := (dC, dI)) (ci := 12) (v := .ref (ad 18)) (C := RX12) (T := TX12) (N := 59) hx hb hts hin12 hown hK hP 0 rfl rfl 18 (Nat.le_of_ble_eq_true rfl) (ho (.fieldLink RX12 42 "NearEnoughModel" "sA" "[I") (List.mem_of_getElem? (i := 4) rfl)) (fun _ h9 => h9) rfl dX12_work_69 ?_
        refine lv_iload hx hb dX12_work_72 (lv_at hl 0 rfl) ?_
        refine va_iald hx hb hK hP 10 9 rfl rfl (ti_inx o4 o5) dX12_work_74 ?_
        refine lv_topi (fun z105_ ez105_ => ?_)
        have gz105_ : z105_.toInt = ((σ.2.1 18) (Int32.toNatClampNeg z2_)).toInt := congrArg Int32.toInt (ez105_.trans (congrFun rfl (Int32.toNatClampNeg z2_)))
        have bz105_ : (-1) ≤ z105_.toInt ∧ z105_.toInt ≤ 11 := by rw [ez105_]; exact (hI.2 18) _ (cl_lt (n := 24) o4 o5)
        have o88 : 0 ≤ z105_.toInt := by omega
        have o89 : z105_.toInt < ((12 : Nat) : Int) := by omega
        refine va_lald hx hb hK hP 29 28 rfl rfl (ti_inx o88 o89) dX12_work_75 ?_
        refine lv_topl (fun y106_ ey106_ => ?_)
        refine lv_aload hx hb dX12_work_76 (lv_at hl 5 rfl) ?_
        refine lv_aload_n hx hb dX12_work_78 rfl (lv_at hl 1 rfl) ?_
        refine va_get (D := (dC, dI)) (ci := 12) (v := .ref (ad 19)) (C := RX12) (T := TX12) (N := 59) hx hb hts hin12 hown hK hP 0 rfl rfl 19 (Nat.le_of_ble_eq_true rfl) (ho (.fieldLink RX12 45 "NearEnoughModel" "sB" "[I") (List.mem_of_getElem? (i := 3) rfl)) (fun _ h9 => h9) rfl dX12_work_79 ?_
        refine lv_iload hx hb dX12_work_82 (lv_at hl 0 rfl) ?_
        refine va_iald hx hb hK hP 11 10 rfl rfl (ti_inx o4 o5) dX12_work_84 ?_
        refine lv_topi (fun z107_ ez107_ => ?_)
        have gz107_ : z107_.toInt = ((σ.2.1 19) (Int32.toNatClampNeg z2_)).toInt := congrArg Int32.toInt (ez107_.trans (congrFun rfl (Int32.toNatClampNeg z2_)))
        have bz107_ : (-99) ≤ z107_.toInt ∧ z107_.toInt ≤ 99 := by rw [ez107_]; exact (hI.2 19) _ (cl_lt (n := 24) o4 o5)
        have o90 : 0 ≤ z107_.toInt := by omega
        have o91 : z107_.toInt < ((12 : Nat) : Int) := by omega
        refine va_lald hx hb hK hP 29 28 rfl rfl (ti_inx o90 o91) dX12_work_85 ?_
        refine lv_topl (fun y108_ ey108_ => ?_)
        refine lv_ladd hx hb dX12_work_86 ?_
        refine lv_topl (fun y109_ ey109_ => ?_)
        rw [hQ]
        have o92 : (σ.2.1 17 (Int32.toNatClampNeg z2_)).toInt = 2 := by omega
        have K110_ : (σ.2.1 17 (12 * (σ.1 29).toNatClampNeg + st9.toNatClampNeg)).toInt = 2 := by rw [← Xz2_]; exact o92
        have R111_ : y109_ = wkF (σ.1 29).toNatClampNeg (cor σ) false (σ.2.1 32) (σ.2.2.1 41) st9.toNatClampNeg base ch9 := by rw [wk_2 (T := cor σ) K110_]; simp only [ez4_, ez105_, ey106_, ez107_, ey108_, ey109_, Xz2_] <;> rfl
        exact W.lret (v := y109_) hx hb hr (fun t ht hW => ⟨⟨y109_, σ, rfl, ⟨rfl, R111_⟩, wEn_of hP (hK.sub [] rfl) hD ht hW⟩, hS.F ht⟩) hS.2.2 dX12_work_87
      · refine lv_tableIn (tgt := 88) (off := 74) hx hb dX12_work_14 (by rw [t_sw]; decide) (by rw [t_sw]; decide) (by rw [t_sw]; decide) (by decide) ?_
        refine lv_aload hx hb dX12_work_88 (lv_at hl 5 rfl) ?_
        refine lv_aload_n hx hb dX12_work_90 rfl (lv_at hl 1 rfl) ?_
        refine va_get (D := (dC, dI)) (ci := 12) (v := .ref (ad 18)) (C := RX12) (T := TX12) (N := 59) hx hb hts hin12 hown hK hP 0 rfl rfl 18 (Nat.le_of_ble_eq_true rfl) (ho (.fieldLink RX12 42 "NearEnoughModel" "sA" "[I") (List.mem_of_getElem? (i := 4) rfl)) (fun _ h9 => h9) rfl dX12_work_91 ?_
        refine lv_iload hx hb dX12_work_94 (lv_at hl 0 rfl) ?_
        refine va_iald hx hb hK hP 10 9 rfl rfl (ti_inx o4 o5) dX12_work_96 ?_
        refine lv_topi (fun z112_ ez112_ => ?_)
        have gz112_ : z112_.toInt = ((σ.2.1 18) (Int32.toNatClampNeg z2_)).toInt := congrArg Int32.toInt (ez112_.trans (congrFun rfl (Int32.toNatClampNeg z2_)))
        have bz112_ : (-1) ≤ z112_.toInt ∧ z112_.toInt ≤ 11 := by rw [ez112_]; exact (hI.2 18) _ (cl_lt (n := 24) o4 o5)
        have o93 : 0 ≤ z112_.toInt := by omega
        have o94 : z112_.toInt < ((12 : Nat) : Int) := by omega
        refine va_lald hx hb hK hP 29 28 rfl rfl (ti_inx o93 o94) dX12_work_97 ?_
        refine lv_topl (fun y113_ ey113_ => ?_)
        refine lv_aload hx hb dX12_work_98 (lv_at hl 5 rfl) ?_
        refine lv_aload_n hx hb dX12_work_100 rfl (lv_at hl 1 rfl) ?_
        refine va_get (D := (dC, dI)) (ci := 12) (v := .ref (ad 19)) (C := RX12) (T := TX12) (N := 59) hx hb hts hin12 hown hK hP 0 rfl rfl 19 (Nat.le_of_ble_eq_true rfl) (ho (.fieldLink RX12 45 "NearEnoughModel" "sB" "[I") (List.mem_of_getElem? (i := 3) rfl)) (fun _ h9 => h9) rfl dX12_work_101 ?_
        refine lv_iload hx hb dX12_work_104 (lv_at hl 0 rfl) ?_
        refine va_iald hx hb hK hP 11 10 rfl rfl (ti_inx o4 o5) dX12_work_106 ?_
        refine lv_topi (fun z114_ ez114_ => ?_)
        have gz114_ : z114_.toInt = ((σ.2.1 19) (Int32.toNatClampNeg z2_)).toInt := congrArg Int32.toInt (ez114_.trans (congrFun rfl (Int32.toNatClampNeg z2_)))
        have bz114_ : (-99) ≤ z114_.toInt ∧ z114_.toInt ≤ 99 := by rw [ez114_]; exact (hI.2 19) _ (cl_lt (n := 24) o4 o5)
        have o95 : 0 ≤ z114_.toInt := by omega
        have o96 : z114_.toInt < ((12 : Nat) : Int) := by omega
        refine va_lald hx hb hK hP 29 28 rfl rfl (ti_inx o95 o96) dX12_work_107 ?_
        refine lv_topl (fun y115_ ey115_ => ?_)
        refine lv_lsub hx hb dX12_work_108 ?_
        refine lv_topl (fun y116_ ey116_ => ?_)
        rw [hQ]
        have o97 : (σ.2.1 17 (Int32.toNatClampNeg z2_)).toInt = 3 := by omega
        have K117_ : (σ.2.1 17 (12 * (σ.1 29).toNatClampNeg + st9.toNatClampNeg)).toInt = 3 := by rw [← Xz2_]; exact o97
        have R118_ : y116_ = wkF (σ.1 29).toNatClampNeg (cor σ) false (σ.2.1 32) (σ.2.2.1 41) st9.toNatClampNeg base ch9 := by rw [wk_3 (T := cor σ) K117_]; simp only [ez4_, ez112_, ey113_, ez114_, ey115_, ey116_, Xz2_] <;> rfl
        exact W.lret (v := y116_) hx hb hr (fun t ht hW => ⟨⟨y116_, σ, rfl, ⟨rfl, R118_⟩, wEn_of hP (hK.sub [] rfl) hD ht hW⟩, hS.F ht⟩) hS.2.2 dX12_work_109
      · refine lv_tableIn (tgt := 110) (off := 96) hx hb dX12_work_14 (by rw [t_sw]; decide) (by rw [t_sw]; decide) (by rw [t_sw]; decide) (by decide) ?_
        refine lv_aload hx hb dX12_work_110 (lv_at hl 5 rfl) ?_
        refine lv_aload_n hx hb dX12_work_112 rfl (lv_at hl 1 rfl) ?_
        refine va_get (D := (dC, dI)) (ci := 12) (v := .ref (ad 18)) (C := RX12) (T := TX12) (N := 59) hx hb hts hin12 hown hK hP 0 rfl rfl 18 (Nat.le_of_ble_eq_true rfl) (ho (.fieldLink RX12 42 "NearEnoughModel" "sA" "[I") (List.mem_of_getElem? (i := 4) rfl)) (fun _ h9 => h9) rfl dX12_work_113 ?_
        refine lv_iload hx hb dX12_work_116 (lv_at hl 0 rfl) ?_
        refine va_iald hx hb hK hP 10 9 rfl rfl (ti_inx o4 o5) dX12_work_118 ?_
        refine lv_topi (fun z119_ ez119_ => ?_)
        have gz119_ : z119_.toInt = ((σ.2.1 18) (Int32.toNatClampNeg z2_)).toInt := congrArg Int32.toInt (ez119_.trans (congrFun rfl (Int32.toNatClampNeg z2_)))
        have bz119_ : (-1) ≤ z119_.toInt ∧ z119_.toInt ≤ 11 := by rw [ez119_]; exact (hI.2 18) _ (cl_lt (n := 24) o4 o5)
        have o98 : 0 ≤ z119_.toInt := by omega
        have o99 : z119_.toInt < ((12 : Nat) : Int) := by omega
        refine va_lald hx hb hK hP 29 28 rfl rfl (ti_inx o98 o99) dX12_work_119 ?_
        refine lv_topl (fun y120_ ey120_ => ?_)
        refine lv_aload hx hb dX12_work_120 (lv_at hl 5 rfl) ?_
        refine lv_aload_n hx hb dX12_work_122 rfl (lv_at hl 1 rfl) ?_
        refine va_get (D := (dC, dI)) (ci := 12) (v := .ref (ad 19)) (C := RX12) (T := TX12) (N := 59) hx hb hts hin12 hown hK hP 0 rfl rfl 19 (Nat.le_of_ble_eq_true rfl) (ho (.fieldLink RX12 45 "NearEnoughModel" "sB" "[I") (List.mem_of_getElem? (i := 3) rfl)) (fun _ h9 => h9) rfl dX12_work_123 ?_
        refine lv_iload hx hb dX12_work_126 (lv_at hl 0 rfl) ?_
        refine va_iald hx hb hK hP 11 10 rfl rfl (ti_inx o4 o5) dX12_work_128 ?_
        refine lv_topi (fun z121_ ez121_ => ?_)
        have gz121_ : z121_.toInt = ((σ.2.1 19) (Int32.toNatClampNeg z2_)).toInt := congrArg Int32.toInt (ez121_.trans (congrFun rfl (Int32.toNatClampNeg z2_)))
        have bz121_ : (-99) ≤ z121_.toInt ∧ z121_.toInt ≤ 99 := by rw [ez121_]; exact (hI.2 19) _ (cl_lt (n := 24) o4 o5)
        have o100 : 0 ≤ z121_.toInt := by omega
        have o101 : z121_.toInt < ((12 : Nat) : Int) := by omega
        refine va_lald hx hb hK hP 29 28 rfl rfl (ti_inx o100 o101) dX12_work_129 ?_
        refine lv_topl (fun y122_ ey122_ => ?_)
        refine lv_lmul hx hb dX12_work_130 ?_
        refine lv_topl (fun y123_ ey123_ => ?_)
        rw [hQ]
        have o102 : (σ.2.1 17 (Int32.toNatClampNeg z2_)).toInt = 4 := by omega
        have K124_ : (σ.2.1 17 (12 * (σ.1 29).toNatClampNeg + st9.toNatClampNeg)).toInt = 4 := by rw [← Xz2_]; exact o102
        have R125_ : y123_ = wkF (σ.1 29).toNatClampNeg (cor σ) false (σ.2.1 32) (σ.2.2.1 41) st9.toNatClampNeg base ch9 := by rw [wk_4 (T := cor σ) K124_]; simp only [ez4_, ez119_, ey120_, ez121_, ey122_, ey123_, Xz2_] <;> rfl
        exact W.lret (v := y123_) hx hb hr (fun t ht hW => ⟨⟨y123_, σ, rfl, ⟨rfl, R125_⟩, wEn_of hP (hK.sub [] rfl) hD ht hW⟩, hS.F ht⟩) hS.2.2 dX12_work_131
      · refine lv_tableIn (tgt := 132) (off := 118) hx hb dX12_work_14 (by rw [t_sw]; decide) (by rw [t_sw]; decide) (by rw [t_sw]; decide) (by decide) ?_
        refine lv_aload hx hb dX12_work_132 (lv_at hl 5 rfl) ?_
        refine lv_aload_n hx hb dX12_work_134 rfl (lv_at hl 1 rfl) ?_
        refine va_get (D := (dC, dI)) (ci := 12) (v := .ref (ad 18)) (C := RX12) (T := TX12) (N := 59) hx hb hts hin12 hown hK hP 0 rfl rfl 18 (Nat.le_of_ble_eq_true rfl) (ho (.fieldLink RX12 42 "NearEnoughModel" "sA" "[I") (List.mem_of_getElem? (i := 4) rfl)) (fun _ h9 => h9) rfl dX12_work_135 ?_
        refine lv_iload hx hb dX12_work_138 (lv_at hl 0 rfl) ?_
        refine va_iald hx hb hK hP 10 9 rfl rfl (ti_inx o4 o5) dX12_work_140 ?_
        refine lv_topi (fun z126_ ez126_ => ?_)
        have gz126_ : z126_.toInt = ((σ.2.1 18) (Int32.toNatClampNeg z2_)).toInt := congrArg Int32.toInt (ez126_.trans (congrFun rfl (Int32.toNatClampNeg z2_)))
        have bz126_ : (-1) ≤ z126_.toInt ∧ z126_.toInt ≤ 11 := by rw [ez126_]; exact (hI.2 18) _ (cl_lt (n := 24) o4 o5)
        have o103 : 0 ≤ z126_.toInt := by omega
        have o104 : z126_.toInt < ((12 : Nat) : Int) := by omega
        refine va_lald hx hb hK hP 29 28 rfl rfl (ti_inx o103 o104) dX12_work_141 ?_
        refine lv_topl (fun y127_ ey127_ => ?_)
        refine lv_aload_n hx hb dX12_work_142 rfl (lv_at hl 1 rfl) ?_
        refine va_get (D := (dC, dI)) (ci := 12) (v := .ref (ad 19)) (C := RX12) (T := TX12) (N := 59) hx hb hts hin12 hown hK hP 0 rfl rfl 19 (Nat.le_of_ble_eq_true rfl) (ho (.fieldLink RX12 45 "NearEnoughModel" "sB" "[I") (List.mem_of_getElem? (i := 3) rfl)) (fun _ h9 => h9) rfl dX12_work_143 ?_
        refine lv_iload hx hb dX12_work_146 (lv_at hl 0 rfl) ?_
        refine va_iald hx hb hK hP 11 10 rfl rfl (ti_inx o4 o5) dX12_work_148 ?_
        refine lv_topi (fun z128_ ez128_ => ?_)
        have gz128_ : z128_.toInt = ((σ.2.1 19) (Int32.toNatClampNeg z2_)).toInt := congrArg Int32.toInt (ez128_.trans (congrFun rfl (Int32.toNatClampNeg z2_)))
        have bz128_ : (-99) ≤ z128_.toInt ∧ z128_.toInt ≤ 99 := by rw [ez128_]; exact (hI.2 19) _ (cl_lt (n := 24) o4 o5)
        refine lv_i2l hx hb dX12_work_149 rfl ?_
        refine lv_topl (fun y129_ ey129_ => ?_)
        refine lv_lmul hx hb dX12_work_150 ?_
        refine lv_topl (fun y130_ ey130_ => ?_)
        refine lv_aload_n hx hb dX12_work_151 rfl (lv_at hl 1 rfl) ?_
        refine va_get (D := (dC, dI)) (ci := 12) (v := .ref (ad 20)) (C := RX12) (T := TX12) (N := 59) hx hb hts hin12 hown hK hP 0 rfl rfl 20 (Nat.le_of_ble_eq_true rfl) (ho (.fieldLink RX12 48 "NearEnoughModel" "sC" "[I") (List.mem_of_getElem? (i := 1) rfl)) (fun _ h9 => h9) rfl dX12_work_152 ?_
        refine lv_iload hx hb dX12_work_155 (lv_at hl 0 rfl) ?_
        refine va_iald hx hb hK hP 12 11 rfl rfl (ti_inx o4 o5) dX12_work_157 ?_
        refine lv_topi (fun z131_ ez131_ => ?_)
        have gz131_ : z131_.toInt = ((σ.2.1 20) (Int32.toNatClampNeg z2_)).toInt := congrArg Int32.toInt (ez131_.trans (congrFun rfl (Int32.toNatClampNeg z2_)))
        have bz131_ : (-1) ≤ z131_.toInt ∧ z131_.toInt ≤ 99 := by rw [ez131_]; exact (hI.2 20) _ (cl_lt (n := 24) o4 o5)
        refine lv_i2l hx hb dX12_work_158 rfl ?_
        refine lv_topl (fun y132_ ey132_ => ?_)
        have o105 : z131_.toInt ≠ 0 := by omega
        refine lv_ldiv hx hb dX12_work_159 (i2l_ne ey132_ o105) ?_
        refine lv_topl (fun y133_ ey133_ => ?_)
        rw [hQ]
        have o106 : (σ.2.1 17 (Int32.toNatClampNeg z2_)).toInt = 5 := by omega
        have K134_ : (σ.2.1 17 (12 * (σ.1 29).toNatClampNeg + st9.toNatClampNeg)).toInt = 5 := by rw [← Xz2_]; exact o106
        have R135_ : y133_ = wkF (σ.1 29).toNatClampNeg (cor σ) false (σ.2.1 32) (σ.2.2.1 41) st9.toNatClampNeg base ch9 := by rw [wk_5 (T := cor σ) K134_]; simp only [ez4_, ez126_, ey127_, ez128_, ey129_, ey130_, ez131_, ey132_, ey133_, Xz2_] <;> rfl
        exact W.lret (v := y133_) hx hb hr (fun t ht hW => ⟨⟨y133_, σ, rfl, ⟨rfl, R135_⟩, wEn_of hP (hK.sub [] rfl) hD ht hW⟩, hS.F ht⟩) hS.2.2 dX12_work_160
      · refine lv_tableIn (tgt := 161) (off := 147) hx hb dX12_work_14 (by rw [t_sw]; decide) (by rw [t_sw]; decide) (by rw [t_sw]; decide) (by decide) ?_
        refine lv_aload_n hx hb dX12_work_161 rfl (lv_at hl 1 rfl) ?_
        refine va_get (D := (dC, dI)) (ci := 12) (v := .ref (ad 14)) (C := RX12) (T := TX12) (N := 59) hx hb hts hin12 hown hK hP 0 rfl rfl 14 (Nat.le_of_ble_eq_true rfl) (ho (.fieldLink RX12 30 "NearEnoughModel" "rHas" "[I") (List.mem_of_getElem? (i := 7) rfl)) (fun _ h9 => h9) rfl dX12_work_162 ?_
        refine lv_iconst (v := 2) hx hb dX12_work_165 rg_19 ?_
        refine lv_aload_n hx hb dX12_work_166 rfl (lv_at hl 1 rfl) ?_
        refine va_get (D := (dC, dI)) (ci := 12) (v := .int (σ.1 29)) (C := RX12) (T := TX12) (N := 59) hx hb hts hin12 hown hK hP 0 rfl rfl 29 (Nat.le_of_ble_eq_true rfl) (ho (.fieldLink RX12 240 "NearEnoughModel" "bank" "I") (List.mem_of_getElem? (i := 8) rfl)) (fun _ h9 => h9) rfl dX12_work_167 ?_
        have bσ_29 : 0 ≤ (σ.1 29).toInt ∧ (σ.1 29).toInt ≤ 1 := hI.1 29
        refine lv_imul hx hb dX12_work_170 ?_
        refine lv_topi (fun z136_ ez136_ => ?_)
        have o107 : -2147483648 ≤ 2 * (σ.1 29).toInt := by omega
        have o108 : 2 * (σ.1 29).toInt ≤ 2147483647 := by omega
        have tz136_ : z136_.toInt = 2 * (σ.1 29).toInt := ti_mul ez136_ rg_20 rfl o107 o108
        refine lv_aload_n hx hb dX12_work_171 rfl (lv_at hl 1 rfl) ?_
        refine va_get (D := (dC, dI)) (ci := 12) (v := .ref (ad 18)) (C := RX12) (T := TX12) (N := 59) hx hb hts hin12 hown hK hP 0 rfl rfl 18 (Nat.le_of_ble_eq_true rfl) (ho (.fieldLink RX12 42 "NearEnoughModel" "sA" "[I") (List.mem_of_getElem? (i := 4) rfl)) (fun _ h9 => h9) rfl dX12_work_172 ?_
        refine lv_iload hx hb dX12_work_175 (lv_at hl 0 rfl) ?_
        refine va_iald hx hb hK hP 10 9 rfl rfl (ti_inx o4 o5) dX12_work_177 ?_
        refine lv_topi (fun z137_ ez137_ => ?_)
        have gz137_ : z137_.toInt = ((σ.2.1 18) (Int32.toNatClampNeg z2_)).toInt := congrArg Int32.toInt (ez137_.trans (congrFun rfl (Int32.toNatClampNeg z2_)))
        have bz137_ : (-1) ≤ z137_.toInt ∧ z137_.toInt ≤ 11 := by rw [ez137_]; exact (hI.2 18) _ (cl_lt (n := 24) o4 o5)
        refine lv_iadd hx hb dX12_work_178 ?_
        refine lv_topi (fun z138_ ez138_ => ?_)
        have o109 : -2147483648 ≤ z136_.toInt + z137_.toInt := by omega
        have o110 : z136_.toInt + z137_.toInt ≤ 2147483647 := by omega
        have tz138_ : z138_.toInt = z136_.toInt + z137_.toInt := ti_add ez138_ rfl rfl o109 o110
        have o111 : 0 ≤ z138_.toInt := by omega
        have o112 : z138_.toInt < ((4 : Nat) : Int) := by omega
        refine va_iald hx hb hK hP 6 5 rfl rfl (ti_inx o111 o112) dX12_work_179 ?_
        refine lv_topi (fun z139_ ez139_ => ?_)
        have gz139_ : z139_.toInt = ((σ.2.1 14) (Int32.toNatClampNeg z138_)).toInt := congrArg Int32.toInt (ez139_.trans (congrFun rfl (Int32.toNatClampNeg z138_)))
        have bz139_ : 0 ≤ z139_.toInt ∧ z139_.toInt ≤ 6 := by rw [ez139_]; exact (hI.2 14) _ (cl_lt (n := 4) o111 o112)
        refine lv_istore (lv' := [(7, .int z139_), (6, .int z2_), (0, .ref h), (1, .int st9), (2, .ref (ad 32)), (3, .int base), (4, .ref (ad 41)), (5, .int ch9)]) hx hb dX12_work_180 hl (Nat.le_of_ble_eq_true rfl) rfl (fun ls hl => ?_)
        refine lv_aload hx hb dX12_work_182 (lv_at hl 6 rfl) ?_
        refine lv_aload_n hx hb dX12_work_184 rfl (lv_at hl 2 rfl) ?_
        refine va_get (D := (dC, dI)) (ci := 12) (v := .ref (ad 19)) (C := RX12) (T := TX12) (N := 59) hx hb hts hin12 hown hK hP 0 rfl rfl 19 (Nat.le_of_ble_eq_true rfl) (ho (.fieldLink RX12 45 "NearEnoughModel" "sB" "[I") (List.mem_of_getElem? (i := 3) rfl)) (fun _ h9 => h9) rfl dX12_work_185 ?_
        refine lv_iload hx hb dX12_work_188 (lv_at hl 1 rfl) ?_
        refine va_iald hx hb hK hP 11 10 rfl rfl (ti_inx o4 o5) dX12_work_190 ?_
        refine lv_topi (fun z140_ ez140_ => ?_)
        have gz140_ : z140_.toInt = ((σ.2.1 19) (Int32.toNatClampNeg z2_)).toInt := congrArg Int32.toInt (ez140_.trans (congrFun rfl (Int32.toNatClampNeg z2_)))
        have bz140_ : (-99) ≤ z140_.toInt ∧ z140_.toInt ≤ 99 := by rw [ez140_]; exact (hI.2 19) _ (cl_lt (n := 24) o4 o5)
        have o113 : 0 ≤ z140_.toInt := by omega
        have o114 : z140_.toInt < ((12 : Nat) : Int) := by omega
        refine va_lald hx hb hK hP 29 28 rfl rfl (ti_inx o113 o114) dX12_work_191 ?_
        refine lv_topl (fun y141_ ey141_ => ?_)
        refine lv_aload hx hb dX12_work_192 (lv_at hl 6 rfl) ?_
        refine lv_aload_n hx hb dX12_work_194 rfl (lv_at hl 2 rfl) ?_
        refine va_get (D := (dC, dI)) (ci := 12) (v := .ref (ad 19)) (C := RX12) (T := TX12) (N := 59) hx hb hts hin12 hown hK hP 0 rfl rfl 19 (Nat.le_of_ble_eq_true rfl) (ho (.fieldLink RX12 45 "NearEnoughModel" "sB" "[I") (List.mem_of_getElem? (i := 3) rfl)) (fun _ h9 => h9) rfl dX12_work_195 ?_
        refine lv_iload hx hb dX12_work_198 (lv_at hl 1 rfl) ?_
        refine va_iald hx hb hK hP 11 10 rfl rfl (ti_inx o4 o5) dX12_work_200 ?_
        refine lv_topi (fun z142_ ez142_ => ?_)
        have qq143_ : z142_.toInt = z140_.toInt := congrArg Int32.toInt ((ez142_.trans (congrFun rfl (Int32.toNatClampNeg z2_))).trans ((ez140_.trans (congrFun rfl (Int32.toNatClampNeg z2_)))).symm)
        have gz142_ : z142_.toInt = ((σ.2.1 19) (Int32.toNatClampNeg z2_)).toInt := congrArg Int32.toInt (ez142_.trans (congrFun rfl (Int32.toNatClampNeg z2_)))
        have bz142_ : (-99) ≤ z142_.toInt ∧ z142_.toInt ≤ 99 := by rw [ez142_]; exact (hI.2 19) _ (cl_lt (n := 24) o4 o5)
        have o115 : 0 ≤ z142_.toInt := by omega
        have o116 : z142_.toInt < ((12 : Nat) : Int) := by omega
        refine va_lald hx hb hK hP 29 28 rfl rfl (ti_inx o115 o116) dX12_work_201 ?_
        refine lv_topl (fun y144_ ey144_ => ?_)
        refine lv_iload hx hb dX12_work_202 (lv_at hl 0 rfl) ?_
        refine lv_i2l hx hb dX12_work_204 rfl ?_
        refine lv_topl (fun y145_ ey145_ => ?_)
        have o117 : (σ.2.1 17 (Int32.toNatClampNeg z2_)).toInt = 0 ∨ (σ.2.1 17 (Int32.toNatClampNeg z2_)).toInt = 1 ∨ (σ.2.1 17 (Int32.toNatClampNeg z2_)).toInt = 6 := by omega
        have K147_ : (σ.2.1 17 (12 * (σ.1 29).toNatClampNeg + st9.toNatClampNeg)).toInt = 0 ∨ (σ.2.1 17 (12 * (σ.1 29).toNatClampNeg + st9.toNatClampNeg)).toInt = 1 ∨ (σ.2.1 17 (12 * (σ.1 29).toNatClampNeg + st9.toNatClampNeg)).toInt = 6 := by rw [← Xz2_]; exact o117
        have hrw : RwOk σ st9 := (WkOk.row hI hwk K147_)
        have o118 : 0 ≤ z137_.toInt := by omega
        have o119 : z138_.toInt = 2 * (σ.1 29).toInt + z137_.toInt := by omega
        have QN146_ : z138_.toNatClampNeg = 2 * (σ.1 29).toNatClampNeg + (σ.2.1 18 (12 * (σ.1 29).toNatClampNeg + st9.toNatClampNeg)).toNatClampNeg := by rw [← Xz2_, ← ez137_]; exact row_x (hI.1 29).1 o118 o119
        have N146_ : z139_ = ofA (σ.1 29).toNatClampNeg (cor σ) st9.toNatClampNeg := by rw [ez139_, QN146_]; rfl
        have BN146_ : 1 ≤ z139_.toInt := by rw [N146_]; exact hrw.2.2
        have o120 : z139_.toInt ≠ 0 := by omega
        refine zs_l (va_runS (As := [.long y144_, .long y145_]) (rest := [.long y141_]) ⟨hx, hb, hml, hown, hts⟩ (n_floorOver l dC dI y144_ y145_ (i2l_ne ey145_ o120) H.size) (va_cwS 2 hts gd_n_work_cc_337_n_floorOver rfl rfl rfl dd_n_floorOver ⟨Nat.le_of_ble_eq_true rfl, Nat.le_of_ble_eq_true rfl⟩) (preS (A := A) empP (hK.sub (tys' := []) [] rfl) empD hE) rfl rfl hl.1 rfl (lv_room (Nat.le_of_ble_eq_true rfl)) dX12_work_205 ⟨Nat.le_of_ble_eq_true rfl, Nat.le_of_ble_eq_true rfl⟩) hP hD hS hA (fun y148_ H locs hq hP hD hS => ?_)
        have f149_ := hq
        refine W.widen (k := 0) (n := 0) (Nat.le_of_ble_eq_true rfl) (Nat.le_of_ble_eq_true rfl) ?_
        refine lv_iload hx hb dX12_work_208 (lv_at hl 0 rfl) ?_
        refine lv_i2l hx hb dX12_work_210 rfl ?_
        refine lv_topl (fun y150_ ey150_ => ?_)
        refine lv_lmul hx hb dX12_work_211 ?_
        refine lv_topl (fun y151_ ey151_ => ?_)
        refine lv_lsub hx hb dX12_work_212 ?_
        refine lv_topl (fun y152_ ey152_ => ?_)
        refine lv_lstore (lv' := [(8, .long y152_), (7, .int z139_), (6, .int z2_), (0, .ref h), (1, .int st9), (2, .ref (ad 32)), (3, .int base), (4, .ref (ad 41)), (5, .int ch9)]) hx hb dX12_work_213 hl (Nat.le_of_ble_eq_true rfl) rfl (fun ls hl => ?_)
        refine lv_aload_n hx hb dX12_work_215 rfl (lv_at hl 3 rfl) ?_
        refine lv_aload_n hx hb dX12_work_216 rfl (lv_at hl 5 rfl) ?_
        refine lv_aload_n hx hb dX12_work_217 rfl (lv_at hl 3 rfl) ?_
        refine lv_aload_n hx hb dX12_work_218 rfl (lv_at hl 5 rfl) ?_
        refine lv_iload_n hx hb dX12_work_219 rfl (lv_at hl 6 rfl) ?_
        refine lv_iload hx hb dX12_work_220 (lv_at hl 8 rfl) ?_
        have o121 : 0 ≤ base.toInt := by omega
        have o122 : base.toInt ≤ 0 := by omega
        have o123 : -1 ≤ ch9.toInt := by omega
        have o124 : ch9.toInt ≤ 11 := by omega
        have o125 : base.toInt = 0 ∨ 12 ≤ base.toInt := by omega
        refine zy_i (va_runV (As := [.ref (ad 32), .int base, .int ch9]) (rest := [.ref (ad 32), .ref h]) ⟨hx, hb, hml, hown, hts⟩ (n_baseOf_c l dC dI h ad cl H.size σ base ch9 hI ⟨o121, o122⟩ (show base.toInt = 0 ∨ 12 ≤ base.toInt from o125) ⟨o123, o124⟩) (cwV 3 hts gd_n_work_cc_344_n_baseOf_c rfl rfl rfl dd_n_baseOf_c ⟨Nat.le_of_ble_eq_true rfl, Nat.le_of_ble_eq_true rfl⟩) (preV hP hK hD hE (ci := 12) (q0 := 0) rfl rfl) rfl rfl hl.1 rfl (lv_room (Nat.le_of_ble_eq_true rfl)) dX12_work_222 ⟨Nat.le_of_ble_eq_true rfl, Nat.le_of_ble_eq_true rfl⟩) hD hS hA (fun z154_ τ153_ H locs hq hP hD hS => ?_)
        obtain ⟨rfl, f155_, f156_, f157_⟩ := hq
        refine W.widen (k := 0) (n := 0) (Nat.le_of_ble_eq_true rfl) (Nat.le_of_ble_eq_true rfl) ?_
        refine lv_aload_n hx hb dX12_work_225 rfl (lv_at hl 3 rfl) ?_
        refine va_get (D := (dC, dI)) (ci := 12) (v := .ref (ad 18)) (C := RX12) (T := TX12) (N := 59) hx hb hts hin12 hown hK hP 0 rfl rfl 18 (Nat.le_of_ble_eq_true rfl) (ho (.fieldLink RX12 42 "NearEnoughModel" "sA" "[I") (List.mem_of_getElem? (i := 4) rfl)) (fun _ h9 => h9) rfl dX12_work_226 ?_
        refine lv_iload hx hb dX12_work_229 (lv_at hl 2 rfl) ?_
        refine va_iald hx hb hK hP 10 9 rfl rfl (ti_inx o4 o5) dX12_work_231 ?_
        refine lv_topi (fun z158_ ez158_ => ?_)
        have qq159_ : z158_.toInt = z137_.toInt := congrArg Int32.toInt ((ez158_.trans (congrFun rfl (Int32.toNatClampNeg z2_))).trans ((ez137_.trans (congrFun rfl (Int32.toNatClampNeg z2_)))).symm)
        have gz158_ : z158_.toInt = ((σ.2.1 18) (Int32.toNatClampNeg z2_)).toInt := congrArg Int32.toInt (ez158_.trans (congrFun rfl (Int32.toNatClampNeg z2_)))
        have bz158_ : (-1) ≤ z158_.toInt ∧ z158_.toInt ≤ 11 := by rw [ez158_]; exact (hI.2 18) _ (cl_lt (n := 24) o4 o5)
        refine lv_lload hx hb dX12_work_232 (lv_at hl 0 rfl) ?_
        refine lv_l2i hx hb dX12_work_234 rfl ?_
        refine lv_topi (fun z160_ ez160_ => ?_)
        have o126 : 1 ≤ z139_.toInt := by omega
        have o127 : z139_.toInt ≤ 6 := by omega
        have tz160_ := mod_rng (h := z139_) (v := (σ.2.2.1 41) (Int32.toNatClampNeg (σ.2.1 19 (Int32.toNatClampNeg z2_)))) (y := y152_) (z := z160_) o126 o127 (by simp only [ez4_, ez136_, ez137_, ez138_, ez139_, ez140_, ey141_, ez142_, ey144_, ey145_, f149_, ey150_, ey151_, ey152_, ez158_]) ez160_
        have o128 : 0 ≤ z154_.toInt := by omega
        have o129 : z154_.toInt ≤ 0 := by omega
        have o130 : 0 ≤ z158_.toInt := by omega
        have o131 : z158_.toInt ≤ 1 := by omega
        have o132 : 0 ≤ z160_.toInt := by omega
        have o133 : z160_.toInt ≤ 5 := by omega
        refine zy_i (va_runV (As := [.ref (ad 32), .int z154_, .int z158_, .int z160_]) (rest := []) ⟨hx, hb, hml, hown, hts⟩ (n_numberAt_c l dC dI h ad cl H.size σ z154_ z158_ z160_ hI ⟨o128, o129⟩ ⟨o130, o131⟩ ⟨o132, o133⟩) (cwV 4 hts gd_n_work_cc_353_n_numberAt_c rfl rfl rfl dd_n_numberAt_c ⟨Nat.le_of_ble_eq_true rfl, Nat.le_of_ble_eq_true rfl⟩) (preV hP hK hD hE (ci := 12) (q0 := 0) rfl rfl) rfl rfl hl.1 rfl (lv_room (Nat.le_of_ble_eq_true rfl)) dX12_work_235 ⟨Nat.le_of_ble_eq_true rfl, Nat.le_of_ble_eq_true rfl⟩) hD hS hA (fun z162_ τ161_ H locs hq hP hD hS => ?_)
        obtain ⟨rfl, f163_⟩ := hq
        refine W.widen (k := 0) (n := 0) (Nat.le_of_ble_eq_true rfl) (Nat.le_of_ble_eq_true rfl) ?_
        refine lv_iload hx hb dX12_work_238 (lv_at hl 8 rfl) ?_
        refine lv_if_lt (tgt := 264) hx hb dX12_work_240 rfl (fun c164_ => ?_) (fun c164_ => ?_)
        · have tc164_ := (show ch9.toInt < 0 from ti_lt rfl rg_11 c164_)
          refine lv_iconst (v := 1) hx hb dX12_work_264 rg_6 ?_
          have kk165_ : (1 : Int32).toInt = 1 := rg_18
          have o134 : (1 : Int32).toInt ≠ 0 := by omega
          refine zs_i (va_runS (As := [.int z162_, .int 1]) (rest := []) ⟨hx, hb, hml, hown, hts⟩ (n_coarse l dC dI z162_ 1 o134 H.size) (va_cwS 2 hts gd_n_work_cc_357_n_coarse rfl rfl rfl dd_n_coarse ⟨Nat.le_of_ble_eq_true rfl, Nat.le_of_ble_eq_true rfl⟩) (preS (A := A) empP (hK.sub (tys' := []) [] rfl) empD hE) rfl rfl hl.1 rfl (lv_room (Nat.le_of_ble_eq_true rfl)) dX12_work_265 ⟨Nat.le_of_ble_eq_true rfl, Nat.le_of_ble_eq_true rfl⟩) hP hD hS hA (fun z166_ H locs hq hP hD hS => ?_)
          have f167_ := hq
          refine W.widen (k := 0) (n := 0) (Nat.le_of_ble_eq_true rfl) (Nat.le_of_ble_eq_true rfl) ?_
          refine lv_i2l hx hb dX12_work_268 rfl ?_
          refine lv_topl (fun y168_ ey168_ => ?_)
          rw [hQ]
          have o135 : (σ.2.1 17 (Int32.toNatClampNeg z2_)).toInt = 6 := by omega
          have K169_ : (σ.2.1 17 (12 * (σ.1 29).toNatClampNeg + st9.toNatClampNeg)).toInt = 6 := by rw [← Xz2_]; exact o135
          have o136 : ¬ (0 ≤ ch9.toInt ∧ (σ.2.1 34 (Int32.toNatClampNeg ch9)).toInt = 3) := by omega
          have HR170_ := (by_n (T := cor σ) (show ¬ (0 ≤ ch9.toInt ∧ (σ.2.1 34 (Int32.toNatClampNeg ch9)).toInt = 3) from o136))
          have R170_ : y168_ = wkF (σ.1 29).toNatClampNeg (cor σ) false (σ.2.1 32) (σ.2.2.1 41) st9.toNatClampNeg base ch9 := by rw [wk_6 (T := cor σ) K169_]; rw [← f155_, ← N146_, ← HR170_]; simp only [ez4_, ez136_, ez137_, ez138_, ez139_, ez140_, ey141_, ez142_, ey144_, ey145_, f149_, ey150_, ey151_, ey152_, ez158_, ez160_, f163_, f167_, ey168_, Xz2_] <;> rfl
          exact W.lret (v := y168_) hx hb hr (fun t ht hW => ⟨⟨y168_, σ, rfl, ⟨rfl, R170_⟩, wEn_of hP (hK.sub [] rfl) hD ht hW⟩, hS.F ht⟩) hS.2.2 dX12_work_269
        · have tc164_ := (show 0 ≤ ch9.toInt from ti_nlt rfl rg_11 c164_)
          refine lv_aload_n hx hb dX12_work_243 rfl (lv_at hl 3 rfl) ?_
          refine va_get (D := (dC, dI)) (ci := 12) (v := .ref (ad 34)) (C := RX12) (T := TX12) (N := 59) hx hb hts hin12 hown hK hP 0 rfl rfl 34 (Nat.le_of_ble_eq_true rfl) (ho (.fieldLink RX12 85 "NearEnoughModel" "cKind" "[I") (List.mem_of_getElem? (i := 5) rfl)) (fun _ h9 => h9) rfl dX12_work_244 ?_
          refine lv_iload hx hb dX12_work_247 (lv_at hl 8 rfl) ?_
          have o137 : 0 ≤ ch9.toInt := by omega
          have o138 : ch9.toInt < ((12 : Nat) : Int) := by omega
          refine va_iald hx hb hK hP 24 23 rfl rfl (ti_inx o137 o138) dX12_work_249 ?_
          refine lv_topi (fun z171_ ez171_ => ?_)
          have gz171_ : z171_.toInt = ((σ.2.1 34) (Int32.toNatClampNeg ch9)).toInt := congrArg Int32.toInt (ez171_.trans (congrFun rfl (Int32.toNatClampNeg ch9)))
          have bz171_ : 0 ≤ z171_.toInt ∧ z171_.toInt ≤ 6 := by rw [ez171_]; exact (hI.2 34) _ (cl_lt (n := 12) o137 o138)
          refine lv_iconst (v := 3) hx hb dX12_work_250 rg_16 ?_
          refine lv_icmp_ne (tgt := 264) hx hb dX12_work_251 rfl (fun c172_ => ?_) (fun c172_ => ?_)
          · have tc172_ := (show z171_.toInt ≠ 3 from ti_ne rfl rg_17 c172_)
            refine lv_iconst (v := 1) hx hb dX12_work_264 rg_6 ?_
            have kk173_ : (1 : Int32).toInt = 1 := rg_18
            have o139 : (1 : Int32).toInt ≠ 0 := by omega
            refine zs_i (va_runS (As := [.int z162_, .int 1]) (rest := []) ⟨hx, hb, hml, hown, hts⟩ (n_coarse l dC dI z162_ 1 o139 H.size) (va_cwS 2 hts gd_n_work_cc_357_n_coarse rfl rfl rfl dd_n_coarse ⟨Nat.le_of_ble_eq_true rfl, Nat.le_of_ble_eq_true rfl⟩) (preS (A := A) empP (hK.sub (tys' := []) [] rfl) empD hE) rfl rfl hl.1 rfl (lv_room (Nat.le_of_ble_eq_true rfl)) dX12_work_265 ⟨Nat.le_of_ble_eq_true rfl, Nat.le_of_ble_eq_true rfl⟩) hP hD hS hA (fun z174_ H locs hq hP hD hS => ?_)
            have f175_ := hq
            refine W.widen (k := 0) (n := 0) (Nat.le_of_ble_eq_true rfl) (Nat.le_of_ble_eq_true rfl) ?_
            refine lv_i2l hx hb dX12_work_268 rfl ?_
            refine lv_topl (fun y176_ ey176_ => ?_)
            rw [hQ]
            have o140 : (σ.2.1 17 (Int32.toNatClampNeg z2_)).toInt = 6 := by omega
            have K177_ : (σ.2.1 17 (12 * (σ.1 29).toNatClampNeg + st9.toNatClampNeg)).toInt = 6 := by rw [← Xz2_]; exact o140
            have o141 : ¬ (0 ≤ ch9.toInt ∧ (σ.2.1 34 (Int32.toNatClampNeg ch9)).toInt = 3) := by omega
            have HR178_ := (by_n (T := cor σ) (show ¬ (0 ≤ ch9.toInt ∧ (σ.2.1 34 (Int32.toNatClampNeg ch9)).toInt = 3) from o141))
            have R178_ : y176_ = wkF (σ.1 29).toNatClampNeg (cor σ) false (σ.2.1 32) (σ.2.2.1 41) st9.toNatClampNeg base ch9 := by rw [wk_6 (T := cor σ) K177_]; rw [← f155_, ← N146_, ← HR178_]; simp only [ez4_, ez136_, ez137_, ez138_, ez139_, ez140_, ey141_, ez142_, ey144_, ey145_, f149_, ey150_, ey151_, ey152_, ez158_, ez160_, f163_, ez171_, f175_, ey176_, Xz2_] <;> rfl
            exact W.lret (v := y176_) hx hb hr (fun t ht hW => ⟨⟨y176_, σ, rfl, ⟨rfl, R178_⟩, wEn_of hP (hK.sub [] rfl) hD ht hW⟩, hS.F ht⟩) hS.2.2 dX12_work_269
          · have tc172_ := (show z171_.toInt = 3 from ti_eq rfl rg_17 c172_)
            refine lv_aload_n hx hb dX12_work_254 rfl (lv_at hl 3 rfl) ?_
            refine va_get (D := (dC, dI)) (ci := 12) (v := .ref (ad 35)) (C := RX12) (T := TX12) (N := 59) hx hb hts hin12 hown hK hP 0 rfl rfl 35 (Nat.le_of_ble_eq_true rfl) (ho (.fieldLink RX12 88 "NearEnoughModel" "cN" "[I") (List.mem_of_getElem? (i := 6) rfl)) (fun _ h9 => h9) rfl dX12_work_255 ?_
            refine lv_iload hx hb dX12_work_258 (lv_at hl 8 rfl) ?_
            refine va_iald hx hb hK hP 25 24 rfl rfl (ti_inx o137 o138) dX12_work_260 ?_
            refine lv_topi (fun z179_ ez179_ => ?_)
            have gz179_ : z179_.toInt = ((σ.2.1 35) (Int32.toNatClampNeg ch9)).toInt := congrArg Int32.toInt (ez179_.trans (congrFun rfl (Int32.toNatClampNeg ch9)))
            have bz179_ : 0 ≤ z179_.toInt ∧ z179_.toInt ≤ 99 := by rw [ez179_]; exact (hI.2 35) _ (cl_lt (n := 12) o137 o138)
            refine lv_goto (tgt := 265) hx hb dX12_work_261 rfl ?_
            have o142 : z179_.toInt ≠ 0 := by omega
            refine zs_i (va_runS (As := [.int z162_, .int z179_]) (rest := []) ⟨hx, hb, hml, hown, hts⟩ (n_coarse l dC dI z162_ z179_ o142 H.size) (va_cwS 2 hts gd_n_work_cc_357_n_coarse rfl rfl rfl dd_n_coarse ⟨Nat.le_of_ble_eq_true rfl, Nat.le_of_ble_eq_true rfl⟩) (preS (A := A) empP (hK.sub (tys' := []) [] rfl) empD hE) rfl rfl hl.1 rfl (lv_room (Nat.le_of_ble_eq_true rfl)) dX12_work_265 ⟨Nat.le_of_ble_eq_true rfl, Nat.le_of_ble_eq_true rfl⟩) hP hD hS hA (fun z180_ H locs hq hP hD hS => ?_)
            have f181_ := hq
            refine W.widen (k := 0) (n := 0) (Nat.le_of_ble_eq_true rfl) (Nat.le_of_ble_eq_true rfl) ?_
            refine lv_i2l hx hb dX12_work_268 rfl ?_
            refine lv_topl (fun y182_ ey182_ => ?_)
            rw [hQ]
            have o143 : (σ.2.1 17 (Int32.toNatClampNeg z2_)).toInt = 6 := by omega
            have K183_ : (σ.2.1 17 (12 * (σ.1 29).toNatClampNeg + st9.toNatClampNeg)).toInt = 6 := by rw [← Xz2_]; exact o143
            have o144 : 0 ≤ ch9.toInt ∧ (σ.2.1 34 (Int32.toNatClampNeg ch9)).toInt = 3 := by omega
            have HR184_ := (by_y (T := cor σ) (show 0 ≤ ch9.toInt ∧ (σ.2.1 34 (Int32.toNatClampNeg ch9)).toInt = 3 from o144) ez179_)
            have R184_ : y182_ = wkF (σ.1 29).toNatClampNeg (cor σ) false (σ.2.1 32) (σ.2.2.1 41) st9.toNatClampNeg base ch9 := by rw [wk_6 (T := cor σ) K183_]; rw [← f155_, ← N146_, ← HR184_]; simp only [ez4_, ez136_, ez137_, ez138_, ez139_, ez140_, ey141_, ez142_, ey144_, ey145_, f149_, ey150_, ey151_, ey152_, ez158_, ez160_, f163_, ez171_, ez179_, f181_, ey182_, Xz2_] <;> rfl
            exact W.lret (v := y182_) hx hb hr (fun t ht hW => ⟨⟨y182_, σ, rfl, ⟨rfl, R184_⟩, wEn_of hP (hK.sub [] rfl) hD ht hW⟩, hS.F ht⟩) hS.2.2 dX12_work_269

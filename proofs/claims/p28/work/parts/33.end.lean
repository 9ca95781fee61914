theorem dX12_readEnd_186 : decode cX12_readEnd 186 = .ok (.aload_n 0, 1) := by decide +kernel
theorem dX12_readEnd_187 : decode cX12_readEnd 187 = .ok (.getfield 27, 3) := by decide +kernel
theorem dX12_readEnd_190 : decode cX12_readEnd 190 = .ok (.aload_n 0, 1) := by decide +kernel
theorem dX12_readEnd_191 : decode cX12_readEnd 191 = .ok (.getfield 243, 3) := by decide +kernel
theorem dX12_readEnd_194 : decode cX12_readEnd 194 = .ok (.dup2, 1) := by decide +kernel
theorem dX12_readEnd_195 : decode cX12_readEnd 195 = .ok (.iaload, 1) := by decide +kernel
theorem dX12_readEnd_196 : decode cX12_readEnd 196 = .ok (.iconst 1, 1) := by decide +kernel
theorem dX12_readEnd_197 : decode cX12_readEnd 197 = .ok (.iadd, 1) := by decide +kernel
theorem dX12_readEnd_198 : decode cX12_readEnd 198 = .ok (.iastore, 1) := by decide +kernel
theorem dX12_readEnd_199 : decode cX12_readEnd 199 = .ok (.return_, 1) := by decide +kernel
theorem dX12_readEnd_147 : decode cX12_readEnd 147 = .ok (.aload_n 0, 1) := by decide +kernel
theorem dX12_readEnd_148 : decode cX12_readEnd 148 = .ok (.aload_n 0, 1) := by decide +kernel
theorem dX12_readEnd_149 : decode cX12_readEnd 149 = .ok (.ldc2_w 183, 3) := by decide +kernel
theorem dX12_readEnd_152 : decode cX12_readEnd 152 = .ok (.invokevirtual 261, 3) := by decide +kernel
theorem dX12_readEnd_155 : decode cX12_readEnd 155 = .ok (.ifCond .ne 23, 3) := by decide +kernel
theorem dX12_readEnd_178 : decode cX12_readEnd 178 = .ok (.iconst 1, 1) := by decide +kernel
theorem dX12_readEnd_179 : decode cX12_readEnd 179 = .ok (.goto 4, 3) := by decide +kernel
theorem dX12_readEnd_183 : decode cX12_readEnd 183 = .ok (.invokevirtual 278, 3) := by decide +kernel
theorem dX12_readEnd_158 : decode cX12_readEnd 158 = .ok (.aload_n 0, 1) := by decide +kernel
theorem dX12_readEnd_159 : decode cX12_readEnd 159 = .ok (.ldc2_w 185, 3) := by decide +kernel
theorem dX12_readEnd_162 : decode cX12_readEnd 162 = .ok (.invokevirtual 261, 3) := by decide +kernel
theorem dX12_readEnd_165 : decode cX12_readEnd 165 = .ok (.ifCond .ne 13, 3) := by decide +kernel
theorem dX12_readEnd_168 : decode cX12_readEnd 168 = .ok (.aload_n 0, 1) := by decide +kernel
theorem dX12_readEnd_169 : decode cX12_readEnd 169 = .ok (.ldc2_w 187, 3) := by decide +kernel
theorem dX12_readEnd_172 : decode cX12_readEnd 172 = .ok (.invokevirtual 261, 3) := by decide +kernel
theorem dX12_readEnd_175 : decode cX12_readEnd 175 = .ok (.ifCond .eq 7, 3) := by decide +kernel
theorem dX12_readEnd_182 : decode cX12_readEnd 182 = .ok (.iconst 0, 1) := by decide +kernel
theorem dX12_readEnd_87 : decode cX12_readEnd 87 = .ok (.aload_n 0, 1) := by decide +kernel
theorem dX12_readEnd_88 : decode cX12_readEnd 88 = .ok (.aload_n 0, 1) := by decide +kernel
theorem dX12_readEnd_89 : decode cX12_readEnd 89 = .ok (.ldc2_w 181, 3) := by decide +kernel
theorem dX12_readEnd_92 : decode cX12_readEnd 92 = .ok (.invokevirtual 261, 3) := by decide +kernel
theorem dX12_readEnd_95 : decode cX12_readEnd 95 = .ok (.invokevirtual 278, 3) := by decide +kernel
theorem dX12_readEnd_98 : decode cX12_readEnd 98 = .ok (.aload_n 0, 1) := by decide +kernel
theorem dX12_readEnd_99 : decode cX12_readEnd 99 = .ok (.getfield 57, 3) := by decide +kernel
theorem dX12_readEnd_102 : decode cX12_readEnd 102 = .ok (.iload_n 1, 1) := by decide +kernel
theorem dX12_readEnd_103 : decode cX12_readEnd 103 = .ok (.aload_n 0, 1) := by decide +kernel
theorem dX12_readEnd_104 : decode cX12_readEnd 104 = .ok (.iconst 0, 1) := by decide +kernel
theorem dX12_readEnd_105 : decode cX12_readEnd 105 = .ok (.sipush 9999, 3) := by decide +kernel
theorem dX12_readEnd_108 : decode cX12_readEnd 108 = .ok (.invokevirtual 291, 3) := by decide +kernel
theorem dX12_readEnd_111 : decode cX12_readEnd 111 = .ok (.iastore, 1) := by decide +kernel
theorem dX12_readEnd_112 : decode cX12_readEnd 112 = .ok (.aload_n 0, 1) := by decide +kernel
theorem dX12_readEnd_113 : decode cX12_readEnd 113 = .ok (.getfield 60, 3) := by decide +kernel
theorem dX12_readEnd_116 : decode cX12_readEnd 116 = .ok (.iload_n 1, 1) := by decide +kernel
theorem dX12_readEnd_117 : decode cX12_readEnd 117 = .ok (.aload_n 0, 1) := by decide +kernel
theorem dX12_readEnd_118 : decode cX12_readEnd 118 = .ok (.ldc2_w 183, 3) := by decide +kernel
theorem dX12_readEnd_121 : decode cX12_readEnd 121 = .ok (.invokevirtual 261, 3) := by decide +kernel
theorem dX12_readEnd_124 : decode cX12_readEnd 124 = .ok (.ifCond .eq 7, 3) := by decide +kernel
theorem dX12_readEnd_131 : decode cX12_readEnd 131 = .ok (.aload_n 0, 1) := by decide +kernel
theorem dX12_readEnd_132 : decode cX12_readEnd 132 = .ok (.ldc2_w 185, 3) := by decide +kernel
theorem dX12_readEnd_135 : decode cX12_readEnd 135 = .ok (.invokevirtual 261, 3) := by decide +kernel
theorem dX12_readEnd_138 : decode cX12_readEnd 138 = .ok (.ifCond .eq 7, 3) := by decide +kernel
theorem dX12_readEnd_145 : decode cX12_readEnd 145 = .ok (.iconst 2, 1) := by decide +kernel
theorem dX12_readEnd_146 : decode cX12_readEnd 146 = .ok (.iastore, 1) := by decide +kernel
theorem dX12_readEnd_141 : decode cX12_readEnd 141 = .ok (.iconst 1, 1) := by decide +kernel
theorem dX12_readEnd_142 : decode cX12_readEnd 142 = .ok (.goto 4, 3) := by decide +kernel
theorem dX12_readEnd_127 : decode cX12_readEnd 127 = .ok (.iconst 0, 1) := by decide +kernel
theorem dX12_readEnd_128 : decode cX12_readEnd 128 = .ok (.goto 18, 3) := by decide +kernel
theorem dX12_readEnd_34 : decode cX12_readEnd 34 = .ok (.iload_n 2, 1) := by decide +kernel
theorem dX12_readEnd_35 : decode cX12_readEnd 35 = .ok (.iload_n 1, 1) := by decide +kernel
theorem dX12_readEnd_36 : decode cX12_readEnd 36 = .ok (.if_icmp .ge 40, 3) := by decide +kernel
theorem dX12_readEnd_76 : decode cX12_readEnd 76 = .ok (.aload_n 0, 1) := by decide +kernel
theorem dX12_readEnd_77 : decode cX12_readEnd 77 = .ok (.invokevirtual 224, 3) := by decide +kernel
theorem dX12_readEnd_80 : decode cX12_readEnd 80 = .ok (.ifCond .eq 7, 3) := by decide +kernel
theorem dX12_readEnd_83 : decode cX12_readEnd 83 = .ok (.aload_n 0, 1) := by decide +kernel
theorem dX12_readEnd_84 : decode cX12_readEnd 84 = .ok (.invokevirtual 228, 3) := by decide +kernel
theorem dX12_readEnd_39 : decode cX12_readEnd 39 = .ok (.aload_n 0, 1) := by decide +kernel
theorem dX12_readEnd_40 : decode cX12_readEnd 40 = .ok (.invokevirtual 224, 3) := by decide +kernel
theorem dX12_readEnd_43 : decode cX12_readEnd 43 = .ok (.ifCond .eq 27, 3) := by decide +kernel
theorem dX12_readEnd_70 : decode cX12_readEnd 70 = .ok (.iinc 2 1, 3) := by decide +kernel
theorem dX12_readEnd_73 : decode cX12_readEnd 73 = .ok (.goto (-39), 3) := by decide +kernel
theorem dX12_readEnd_46 : decode cX12_readEnd 46 = .ok (.aload_n 0, 1) := by decide +kernel
theorem dX12_readEnd_47 : decode cX12_readEnd 47 = .ok (.getfield 54, 3) := by decide +kernel
theorem dX12_readEnd_50 : decode cX12_readEnd 50 = .ok (.iload_n 2, 1) := by decide +kernel
theorem dX12_readEnd_51 : decode cX12_readEnd 51 = .ok (.iaload, 1) := by decide +kernel
theorem dX12_readEnd_52 : decode cX12_readEnd 52 = .ok (.aload_n 0, 1) := by decide +kernel
theorem dX12_readEnd_53 : decode cX12_readEnd 53 = .ok (.getfield 54, 3) := by decide +kernel
theorem dX12_readEnd_56 : decode cX12_readEnd 56 = .ok (.iload_n 1, 1) := by decide +kernel
theorem dX12_readEnd_57 : decode cX12_readEnd 57 = .ok (.iaload, 1) := by decide +kernel
theorem dX12_readEnd_58 : decode cX12_readEnd 58 = .ok (.if_icmp .ne 12, 3) := by decide +kernel
theorem dX12_readEnd_61 : decode cX12_readEnd 61 = .ok (.aload_n 0, 1) := by decide +kernel
theorem dX12_readEnd_62 : decode cX12_readEnd 62 = .ok (.iconst 3, 1) := by decide +kernel
theorem dX12_readEnd_63 : decode cX12_readEnd 63 = .ok (.aload_n 0, 1) := by decide +kernel
theorem dX12_readEnd_64 : decode cX12_readEnd 64 = .ok (.getfield 192, 3) := by decide +kernel
theorem dX12_readEnd_67 : decode cX12_readEnd 67 = .ok (.invokevirtual 220, 3) := by decide +kernel
theorem dX12_readEnd_0 : decode cX12_readEnd 0 = .ok (.iconst 4, 1) := by decide +kernel
theorem dX12_readEnd_1 : decode cX12_readEnd 1 = .ok (.aload_n 0, 1) := by decide +kernel
theorem dX12_readEnd_2 : decode cX12_readEnd 2 = .ok (.getfield 243, 3) := by decide +kernel
theorem dX12_readEnd_5 : decode cX12_readEnd 5 = .ok (.imul, 1) := by decide +kernel
theorem dX12_readEnd_6 : decode cX12_readEnd 6 = .ok (.aload_n 0, 1) := by decide +kernel
theorem dX12_readEnd_7 : decode cX12_readEnd 7 = .ok (.getfield 27, 3) := by decide +kernel
theorem dX12_readEnd_10 : decode cX12_readEnd 10 = .ok (.aload_n 0, 1) := by decide +kernel
theorem dX12_readEnd_11 : decode cX12_readEnd 11 = .ok (.getfield 243, 3) := by decide +kernel
theorem dX12_readEnd_14 : decode cX12_readEnd 14 = .ok (.iaload, 1) := by decide +kernel
theorem dX12_readEnd_15 : decode cX12_readEnd 15 = .ok (.iadd, 1) := by decide +kernel
theorem dX12_readEnd_16 : decode cX12_readEnd 16 = .ok (.istore_n 1, 1) := by decide +kernel
theorem dX12_readEnd_17 : decode cX12_readEnd 17 = .ok (.aload_n 0, 1) := by decide +kernel
theorem dX12_readEnd_18 : decode cX12_readEnd 18 = .ok (.getfield 54, 3) := by decide +kernel
theorem dX12_readEnd_21 : decode cX12_readEnd 21 = .ok (.iload_n 1, 1) := by decide +kernel
theorem dX12_readEnd_22 : decode cX12_readEnd 22 = .ok (.aload_n 0, 1) := by decide +kernel
theorem dX12_readEnd_23 : decode cX12_readEnd 23 = .ok (.invokevirtual 298, 3) := by decide +kernel
theorem dX12_readEnd_26 : decode cX12_readEnd 26 = .ok (.iastore, 1) := by decide +kernel
theorem dX12_readEnd_27 : decode cX12_readEnd 27 = .ok (.iconst 4, 1) := by decide +kernel
theorem dX12_readEnd_28 : decode cX12_readEnd 28 = .ok (.aload_n 0, 1) := by decide +kernel
theorem dX12_readEnd_29 : decode cX12_readEnd 29 = .ok (.getfield 243, 3) := by decide +kernel
theorem dX12_readEnd_32 : decode cX12_readEnd 32 = .ok (.imul, 1) := by decide +kernel
theorem dX12_readEnd_33 : decode cX12_readEnd 33 = .ok (.istore_n 2, 1) := by decide +kernel
theorem rg_361 : 30 ∉ [6, 7, 8, 9, 10, 4, 5, 22, 23, 24, 13] := by decide
theorem rg_362 : 13 ≤ 21 := by decide
theorem rg_363 : 13 ∈ [6, 7, 8, 9, 10, 4, 5, 22, 23, 24, 13] := by decide
theorem rg_364 : 11 ≠ 13 := by decide
theorem rg_366 : 12 ≠ 13 := by decide
theorem rg_365 : 12 ≤ 21 := by decide
theorem rg_368 : 14 ≠ 13 := by decide
theorem rg_367 : 14 ≤ 21 := by decide
theorem rg_370 : 15 ≠ 13 := by decide
theorem rg_369 : 15 ≤ 21 := by decide
theorem rg_372 : 16 ≠ 13 := by decide
theorem rg_371 : 16 ≤ 21 := by decide
theorem rg_374 : 17 ≠ 13 := by decide
theorem rg_373 : 17 ≤ 21 := by decide
theorem rg_376 : 18 ≠ 13 := by decide
theorem rg_375 : 18 ≤ 21 := by decide
theorem rg_378 : 19 ≠ 13 := by decide
theorem rg_377 : 19 ≤ 21 := by decide
theorem rg_380 : 20 ≠ 13 := by decide
theorem rg_379 : 20 ≤ 21 := by decide
theorem rg_382 : 21 ≠ 13 := by decide
theorem rg_381 : 21 ≤ 21 := by decide
theorem rg_383 : 22 ≠ 13 := by decide
theorem rg_384 : ∀ q, q ∈ [6, 7, 8, 9, 10, 4, 5] → q ∈ [6, 7, 8, 9, 10, 4, 5, 22, 23, 24, 13] := by decide
theorem rg_385 : Int32.ofInt 9999 = 9999 := by decide
theorem rg_386 : (9999 : Int32).toInt = 9999 := by decide
theorem rg_387 : 23 ∈ [6, 7, 8, 9, 10, 4, 5, 22, 23, 24, 13] := by decide
theorem rg_388 : 24 ∈ [6, 7, 8, 9, 10, 4, 5, 22, 23, 24, 13] := by decide
theorem rg_390 : 11 ≠ 24 := by decide
theorem rg_389 : 11 ≠ 23 := by decide
theorem rg_392 : 12 ≠ 24 := by decide
theorem rg_391 : 12 ≠ 23 := by decide
theorem rg_394 : 13 ≠ 24 := by decide
theorem rg_393 : 13 ≠ 23 := by decide
theorem rg_396 : 14 ≠ 24 := by decide
theorem rg_395 : 14 ≠ 23 := by decide
theorem rg_398 : 15 ≠ 24 := by decide
theorem rg_397 : 15 ≠ 23 := by decide
theorem rg_400 : 16 ≠ 24 := by decide
theorem rg_399 : 16 ≠ 23 := by decide
theorem rg_402 : 17 ≠ 24 := by decide
theorem rg_401 : 17 ≠ 23 := by decide
theorem rg_404 : 18 ≠ 24 := by decide
theorem rg_403 : 18 ≠ 23 := by decide
theorem rg_406 : 19 ≠ 24 := by decide
theorem rg_405 : 19 ≠ 23 := by decide
theorem rg_408 : 20 ≠ 24 := by decide
theorem rg_407 : 20 ≠ 23 := by decide
theorem rg_410 : 21 ≠ 24 := by decide
theorem rg_409 : 21 ≠ 23 := by decide
theorem rg_412 : 22 ≠ 24 := by decide
theorem rg_411 : 22 ≠ 23 := by decide
theorem rg_413 : ∀ q, q ∈ [6, 7, 8, 9, 10] → q ∈ [6, 7, 8, 9, 10, 4, 5, 22, 23, 24, 13] := by decide
theorem rg_414 : 11 ∉ [6, 7, 8, 9, 10] := by decide
theorem rg_415 : 12 ∉ [6, 7, 8, 9, 10] := by decide
theorem rg_416 : 13 ∉ [6, 7, 8, 9, 10] := by decide
theorem rg_417 : 14 ∉ [6, 7, 8, 9, 10] := by decide
theorem rg_418 : 15 ∉ [6, 7, 8, 9, 10] := by decide
theorem rg_419 : 16 ∉ [6, 7, 8, 9, 10] := by decide
theorem rg_420 : 17 ∉ [6, 7, 8, 9, 10] := by decide
theorem rg_421 : 18 ∉ [6, 7, 8, 9, 10] := by decide
theorem rg_422 : 19 ∉ [6, 7, 8, 9, 10] := by decide
theorem rg_423 : 20 ∉ [6, 7, 8, 9, 10] := by decide
theorem rg_424 : 21 ∉ [6, 7, 8, 9, 10] := by decide
theorem rg_425 : 22 ∉ [6, 7, 8, 9, 10] := by decide
theorem rg_426 : ∀ q, q ∈ [4, 5] → q ∈ [6, 7, 8, 9, 10, 4, 5, 22, 23, 24, 13] := by decide
theorem rg_427 : 22 ∈ [6, 7, 8, 9, 10, 4, 5, 22, 23, 24, 13] := by decide
theorem rg_428 : 11 ≠ 22 := by decide
theorem rg_429 : 12 ≠ 22 := by decide
theorem rg_430 : 13 ≠ 22 := by decide
theorem rg_431 : 14 ≠ 22 := by decide
theorem rg_432 : 15 ≠ 22 := by decide
theorem rg_433 : 16 ≠ 22 := by decide
theorem rg_434 : 17 ≠ 22 := by decide
theorem rg_435 : 18 ≠ 22 := by decide
theorem rg_436 : 19 ≠ 22 := by decide
theorem rg_437 : 20 ≠ 22 := by decide
theorem rg_438 : 21 ≠ 22 := by decide
def ow_n_readEnd : List Cond := [.fieldLink RX12 27 "NearEnoughModel" "endMany" "[I", .fieldLink RX12 243 "NearEnoughModel" "rb" "I", .constantLong RX12 183 (474148660594), .constantLong RX12 185 (1835360622), .constantLong RX12 187 (7302757), .constantLong RX12 181 (7300710), .fieldLink RX12 57 "NearEnoughModel" "eOff" "[I", .fieldLink RX12 60 "NearEnoughModel" "eHow" "[I", .fieldLink RX12 54 "NearEnoughModel" "eStep" "[I", .fieldLink RX12 192 "NearEnoughModel" "at" "I"]
def vs_n_readEnd : List Cond := .code yX12_readEnd cX12_readEnd 3 none :: (ow_n_readEnd ++ (([.methodLink RX12 261 yX12_isWord, .instanceMethod yX12_isWord, .selects RX12 yX12_isWord yX12_isWord, .initialized RX12] : List Cond) ++ (vs_n_isWord ++ (([.methodLink RX12 278 yX12_must, .instanceMethod yX12_must, .selects RX12 yX12_must yX12_must, .initialized RX12] : List Cond) ++ (vs_n_must ++ (([.methodLink RX12 291 yX12_numeral, .instanceMethod yX12_numeral, .selects RX12 yX12_numeral yX12_numeral, .initialized RX12] : List Cond) ++ (vs_n_numeral ++ (([.methodLink RX12 224 yX12_isGood, .instanceMethod yX12_isGood, .selects RX12 yX12_isGood yX12_isGood, .initialized RX12] : List Cond) ++ (vs_n_isGood ++ (([.methodLink RX12 228 yX12_next, .instanceMethod yX12_next, .selects RX12 yX12_next yX12_next, .initialized RX12] : List Cond) ++ (vs_n_next ++ (([.methodLink RX12 220 yX12_fails, .instanceMethod yX12_fails, .selects RX12 yX12_fails yX12_fails, .initialized RX12] : List Cond) ++ (vs_n_fails ++ (([.methodLink RX12 298 yX12_theStep, .instanceMethod yX12_theStep, .selects RX12 yX12_theStep yX12_theStep, .initialized RX12] : List Cond) ++ (vs_n_theStep ++ (wsX120))))))))))))))))
theorem vg_n_readEnd : vs_n_readEnd.all goodWord = true := by decide +kernel
theorem dd_n_readEnd : yX12_readEnd.cls = RX12 ∧ yX12_readEnd.cls ≠ "java/lang/invoke/MethodHandle" ∧ yX12_readEnd.cls ≠ "java/lang/invoke/VarHandle" ∧ (parseMethodDescriptor yX12_readEnd.desc).map (fun d => d.parameters.length) = some 0 := by decide +kernel
def rm_n_readEnd : Room := { frames := 3, cells := 0, slots := 0, locals := 67 }
theorem gd_n_readEnd_261_n_isWord : GoodIn vs_n_readEnd (wsV RX12 261 RX12 yX12_isWord vs_n_isWord) := goodIn_app (goodIn_sub (fun w h => (List.mem_cons_of_mem _ (List.mem_append_right _ (List.mem_append_left _ h)))) (by decide +kernel)) (goodIn_sub (fun w h => (List.mem_cons_of_mem _ (List.mem_append_right _ (List.mem_append_right _ (List.mem_append_left _ h))))) vg_n_isWord)
theorem gd_n_readEnd_278_n_must : GoodIn vs_n_readEnd (wsV RX12 278 RX12 yX12_must vs_n_must) := goodIn_app (goodIn_sub (fun w h => (List.mem_cons_of_mem _ (List.mem_append_right _ (List.mem_append_right _ (List.mem_append_right _ (List.mem_append_left _ h)))))) (by decide +kernel)) (goodIn_sub (fun w h => (List.mem_cons_of_mem _ (List.mem_append_right _ (List.mem_append_right _ (List.mem_append_right _ (List.mem_append_right _ (List.mem_append_left _ h))))))) vg_n_must)
theorem gd_n_readEnd_291_n_numeral : GoodIn vs_n_readEnd (wsV RX12 291 RX12 yX12_numeral vs_n_numeral) := goodIn_app (goodIn_sub (fun w h => (List.mem_cons_of_mem _ (List.mem_append_right _ (List.mem_append_right _ (List.mem_append_right _ (List.mem_append_right _ (List.mem_append_right _ (List.mem_append_left _ h)))))))) (by decide +kernel)) (goodIn_sub (fun w h => (List.mem_cons_of_mem _ (List.mem_append_right _ (List.mem_append_right _ (List.mem_append_right _ (List.mem_append_right _ (List.mem_append_right _ (List.mem_append_right _ (List.mem_append_left _ h))))))))) vg_n_numeral)
theorem gd_n_readEnd_224_n_isGood : GoodIn vs_n_readEnd (wsV RX12 224 RX12 yX12_isGood vs_n_isGood) := goodIn_app (goodIn_sub (fun w h => (List.mem_cons_of_mem _ (List.mem_append_right _ (List.mem_append_right _ (List.mem_append_right _ (List.mem_append_right _ (List.mem_append_right _ (List.mem_append_right _ (List.mem_append_right _ (List.mem_append_left _ h)))))))))) (by decide +kernel)) (goodIn_sub (fun w h => (List.mem_cons_of_mem _ (List.mem_append_right _ (List.mem_append_right _ (List.mem_append_right _ (List.mem_append_right _ (List.mem_append_right _ (List.mem_append_right _ (List.mem_append_right _ (List.mem_append_right _ (List.mem_append_left _ h))))))))))) vg_n_isGood)
theorem gd_n_readEnd_228_n_next : GoodIn vs_n_readEnd (wsV RX12 228 RX12 yX12_next vs_n_next) := goodIn_app (goodIn_sub (fun w h => (List.mem_cons_of_mem _ (List.mem_append_right _ (List.mem_append_right _ (List.mem_append_right _ (List.mem_append_right _ (List.mem_append_right _ (List.mem_append_right _ (List.mem_append_right _ (List.mem_append_right _ (List.mem_append_right _ (List.mem_append_left _ h)))))))))))) (by decide +kernel)) (goodIn_sub (fun w h => (List.mem_cons_of_mem _ (List.mem_append_right _ (List.mem_append_right _ (List.mem_append_right _ (List.mem_append_right _ (List.mem_append_right _ (List.mem_append_right _ (List.mem_append_right _ (List.mem_append_right _ (List.mem_append_right _ (List.mem_append_right _ (List.mem_append_left _ h))))))))))))) vg_n_next)
theorem gd_n_readEnd_220_n_fails : GoodIn vs_n_readEnd (wsV RX12 220 RX12 yX12_fails vs_n_fails) := goodIn_app (goodIn_sub (fun w h => (List.mem_cons_of_mem _ (List.mem_append_right _ (List.mem_append_right _ (List.mem_append_right _ (List.mem_append_right _ (List.mem_append_right _ (List.mem_append_right _ (List.mem_append_right _ (List.mem_append_right _ (List.mem_append_right _ (List.mem_append_right _ (List.mem_append_right _ (List.mem_append_left _ h)))))))))))))) (by decide +kernel)) (goodIn_sub (fun w h => (List.mem_cons_of_mem _ (List.mem_append_right _ (List.mem_append_right _ (List.mem_append_right _ (List.mem_append_right _ (List.mem_append_right _ (List.mem_append_right _ (List.mem_append_right _ (List.mem_append_right _ (List.mem_append_right _ (List.mem_append_right _ (List.mem_append_right _ (List.mem_append_right _ (List.mem_append_left _ h))))))))))))))) vg_n_fails)
theorem gd_n_readEnd_298_n_theStep : GoodIn vs_n_readEnd (wsV RX12 298 RX12 yX12_theStep vs_n_theStep) := goodIn_app (goodIn_sub (fun w h => (List.mem_cons_of_mem _ (List.mem_append_right _ (List.mem_append_right _ (List.mem_append_right _ (List.mem_append_right _ (List.mem_append_right _ (List.mem_append_right _ (List.mem_append_right _ (List.mem_append_right _ (List.mem_append_right _ (List.mem_append_right _ (List.mem_append_right _ (List.mem_append_right _ (List.mem_append_right _ (List.mem_append_left _ h)))))))))))))))) (by decide +kernel)) (goodIn_sub (fun w h => (List.mem_cons_of_mem _ (List.mem_append_right _ (List.mem_append_right _ (List.mem_append_right _ (List.mem_append_right _ (List.mem_append_right _ (List.mem_append_right _ (List.mem_append_right _ (List.mem_append_right _ (List.mem_append_right _ (List.mem_append_right _ (List.mem_append_right _ (List.mem_append_right _ (List.mem_append_right _ (List.mem_append_right _ (List.mem_append_left _ h))))))))))))))))) vg_n_theStep)
set_option maxHeartbeats 4000000 in
set_option maxRecDepth 100000 in
theorem n_readEnd (l : Launch) (dC : Nat → ClassId) (dI : Nat → Nat → Nat) (h : Nat) (ad : Nat → Nat) (cl : Nat → ClassId) (sz : Nat) (σ : MS)  (hI : Inv σ) (hem : (σ.2.1 13 (σ.1 30).toNatClampNeg).toInt ≤ 3) (hes : Es σ) : Met l yX12_readEnd vs_n_readEnd rm_n_readEnd (va_Pc [.ref h] (wSt dC dI (mW h ad cl σ) (mT cl) sz)) (va_Qv (fun (τ : MS) => Inv τ ∧ eqx [6, 7, 8, 9, 10, 4, 5, 22, 23, 24, 13] τ σ ∧ ((τ.1 4).toInt = 0 → RelP σ (σ.1 30).toNatClampNeg → RelP τ (σ.1 30).toNatClampNeg) ∧ (∀ bk, bk < 2 → bk ≠ (σ.1 30).toNatClampNeg → SameB τ σ bk) ∧ Mo τ σ ∧ Lx τ σ) (fun (τ : MS) => wEn dC dI (va_A (mW h ad cl σ) sz) (mW h ad cl τ) []) (va_A (mW h ad cl σ) sz)) 0 0 (va_A (mW h ad cl σ) sz) := by
  refine Met.ofW (cc := cX12_readEnd) (maxL := 3) (ret := none) (by decide) rfl ?_
  intro p e s m args below meth c s₁ B hml hv
  obtain ⟨rfl, hsz, hP, hK, hD0, hE⟩ := hv
  have hx := B.exec
  have hb := B.bytes
  have hr := B.returns
  have hts := atoms_spec (ws := vs_n_readEnd) B.pre
  have hown : s.vm.findClass RX12 = some m.cls := findClass_of_methodNamed B.named
  have hlocks := B.notSynchronized
  subst hsz
  have hD := hD0.self (sz := s.heap.size)
  generalize hAe : va_A (mW h ad cl σ) s.heap.size = A at hD ⊢
  have hA : ∀ q : Nat, s.heap.size ≤ q → A q := fun q h => by rw [← hAe]; exact Or.inr h
  have hl := lv_entry ([.ref h]) (n := 3) (Nat.le_of_ble_eq_true rfl)
  rw [lg_entry_eq]
  generalize (lg_sl ([.ref h]) ++ List.replicate (3 - (lg_sl ([.ref h])).length) Slot.unset).toArray = ls at hl ⊢
  have hl : lv_has ls 3 [(0, .ref h)] := hl
  have ho := fun w (h : w ∈ ow_n_readEnd) => hts w (List.mem_cons_of_mem _ (List.mem_append_left _ h))
  have hin12 : ∀ w ∈ u_ws RX12 TX12 59, w ∈ vs_n_readEnd := fun w h => (List.mem_cons_of_mem _ (List.mem_append_right _ (List.mem_append_right _ (List.mem_append_right _ (List.mem_append_right _ (List.mem_append_right _ (List.mem_append_right _ (List.mem_append_right _ (List.mem_append_right _ (List.mem_append_right _ (List.mem_append_right _ (List.mem_append_right _ (List.mem_append_right _ (List.mem_append_right _ (List.mem_append_right _ (List.mem_append_right _ h))))))))))))))))
  refine zQ (fun Q hQ => ?_)
  have brb : 0 ≤ (σ.1 30).toInt ∧ (σ.1 30).toInt ≤ 1 := hI.1 30
  have bn12 : 0 ≤ (σ.2.1 12 (σ.1 30).toNatClampNeg).toInt ∧ (σ.2.1 12 (σ.1 30).toNatClampNeg).toInt ≤ 12 := hI.2 12 _ (cl_lt (n := 2) (hI.1 30).1 (Int.lt_of_le_of_lt (hI.1 30).2 (by decide)))
  have bn13 : 0 ≤ (σ.2.1 13 (σ.1 30).toNatClampNeg).toInt ∧ (σ.2.1 13 (σ.1 30).toNatClampNeg).toInt ≤ 4 := hI.2 13 _ (cl_lt (n := 2) (hI.1 30).1 (Int.lt_of_le_of_lt (hI.1 30).2 (by decide)))
  have pt_186 : ∀ (τ : MS) (ev : Int32) (v2 : Int32) (H : Heap) (locs : List Loc) (ls : Array Slot), (Inv τ) → (eqx [6, 7, 8, 9, 10, 4, 5, 22, 23, 24, 13] τ σ) → (Mo τ σ) → (Lx τ σ) → (ev.toInt = 4 * (σ.1 30).toInt + (σ.2.1 13 (σ.1 30).toNatClampNeg).toInt) → (∀ p9, 11 ≤ p9 → p9 ≤ 21 → τ.2.1 p9 = σ.2.1 p9) → (τ.2.1 22 = upd (σ.2.1 22) (Int32.toNatClampNeg ev) v2) → (When τ (0 ≤ v2.toInt ∧ v2.toInt < (σ.2.1 12 (σ.1 30).toNatClampNeg).toInt)) → va_P (dC, dI) vwCl (mW h ad cl τ) H → va_D A (mW h ad cl τ) → va_S A s.heap H locs → lv_has ls 3 [(0, .ref h), (1, .int ev)] → W p l e (headSpec vs_n_readEnd rm_n_readEnd).room s m #[Value.ref h] below meth c H locs 0 0 Q (F0 m 186 ls []) := by
    intro τ ev v2 H locs ls hIτ hxτ hmτ hgτ hev hT h22 hw0 hP hD hS hl
    refine lv_aload_n hx hb dX12_readEnd_186 rfl (lv_at hl 0 rfl) ?_
    refine va_get (D := (dC, dI)) (ci := 12) (v := .ref (ad 13)) (C := RX12) (T := TX12) (N := 59) hx hb hts hin12 hown hK hP 0 rfl rfl 13 (Nat.le_of_ble_eq_true rfl) (ho (.fieldLink RX12 27 "NearEnoughModel" "endMany" "[I") (List.mem_of_getElem? (i := 0) rfl)) (fun _ h9 => h9) rfl dX12_readEnd_187 ?_
    refine lv_aload_n hx hb dX12_readEnd_190 rfl (lv_at hl 0 rfl) ?_
    refine va_get (D := (dC, dI)) (ci := 12) (v := .int (τ.1 30)) (C := RX12) (T := TX12) (N := 59) hx hb hts hin12 hown hK hP 0 rfl rfl 30 (Nat.le_of_ble_eq_true rfl) (ho (.fieldLink RX12 243 "NearEnoughModel" "rb" "I") (List.mem_of_getElem? (i := 1) rfl)) (fun _ h9 => h9) rfl dX12_readEnd_191 ?_
    refine zi (v := (σ.1 30)) ((hxτ 30 rg_361).1) ?_
    have bb1 : 0 ≤ (σ.1 30).toInt ∧ (σ.1 30).toInt ≤ 1 := by have h9 := hIτ.1 30; rw [show (τ.1 30) = (σ.1 30) from ((hxτ 30 rg_361).1)] at h9; exact h9
    refine lv_dup2_11 hx hb dX12_readEnd_194 rfl rfl ?_
    have o1 : 0 ≤ (σ.1 30).toInt := by omega
    have o2 : (σ.1 30).toInt < ((2 : Nat) : Int) := by omega
    refine va_iald hx hb hK hP 5 4 rfl rfl (ti_inx o1 o2) dX12_readEnd_195 ?_
    refine lv_topi (fun z2 ez2 => ?_)
    have gz2 : z2.toInt = ((σ.2.1 13) (Int32.toNatClampNeg (σ.1 30))).toInt := congrArg Int32.toInt (ez2.trans (congrFun (hT 13 rg_181 rg_362) (Int32.toNatClampNeg (σ.1 30))))
    have bz2 : 0 ≤ z2.toInt ∧ z2.toInt ≤ 4 := by rw [ez2]; exact (hIτ.2 13) _ (cl_lt (n := 2) o1 o2)
    refine lv_iconst (v := 1) hx hb dX12_readEnd_196 rg_6 ?_
    refine lv_iadd hx hb dX12_readEnd_197 ?_
    refine lv_topi (fun z3 ez3 => ?_)
    have o3 : -2147483648 ≤ z2.toInt + 1 := by omega
    have o4 : z2.toInt + 1 ≤ 2147483647 := by omega
    have tz3 : z3.toInt = z2.toInt + 1 := ti_add ez3 rfl rg_18 o3 o4
    refine va_iast hx hb hK hP hD hS 5 4 rfl rfl (ti_inx o1 o2) dX12_readEnd_198 (fun H locs hP hD hS => ?_)
    rw [wS13] at hP hD
    obtain ⟨τ4, eτ4⟩ : ∃ x9 : MS, x9 = sA τ 13 (upd (τ.2.1 13) (Int32.toNatClampNeg (σ.1 30)) z3) := ⟨_, rfl⟩
    have hP : va_P (dC, dI) vwCl (mW h ad cl τ4) H := by rw [eτ4]; exact hP
    have hD : va_D A (mW h ad cl τ4) := by rw [eτ4]; exact hD
    have o5 : (0 : Int) ≤ (z3 : Int32).toInt := by omega
    have o6 : (z3 : Int32).toInt ≤ 4 := by omega
    have hIτ4 : Inv τ4 := by rw [eτ4]; exact (Inv_sA1 hIτ (rgu (hIτ.2 13) (show (0 : Int) ≤ (z3 : Int32).toInt ∧ (z3 : Int32).toInt ≤ 4 from ⟨o5, o6⟩)))
    have Xτ4 : eqx [6, 7, 8, 9, 10, 4, 5, 22, 23, 24, 13] τ4 σ := (eqx.eq eτ4 (eqx.sA hxτ rg_363))
    have Mτ4 : Mo τ4 σ := Mo.eq eτ4 (fun h9 => hmτ h9)
    have Lτ4 : Lx τ4 σ := Lx.eq eτ4 hgτ
    have W5 : When τ4 (0 ≤ v2.toInt ∧ v2.toInt < (σ.2.1 12 (σ.1 30).toNatClampNeg).toInt) := When.mo hw0 (Mo.eq eτ4 (fun h9 => h9))
    rw [hQ]
    have C11 : (τ4).2.1 11 = (σ.2.1 11) := ((congrArg (fun x9 : MS => x9.2.1 11) eτ4).trans ((tA rg_364).trans (hT 11 rg_177 rg_234)))
    have C12 : (τ4).2.1 12 = (σ.2.1 12) := ((congrArg (fun x9 : MS => x9.2.1 12) eτ4).trans ((tA rg_366).trans (hT 12 rg_173 rg_365)))
    have C13 : (τ4).2.1 13 = (upd (σ.2.1 13) (Int32.toNatClampNeg (σ.1 30)) z3) := ((congrArg (fun x9 : MS => x9.2.1 13) eτ4).trans (tAe.trans (congrArg (fun f9 => (upd f9 (Int32.toNatClampNeg (σ.1 30)) z3)) (hT 13 rg_181 rg_362))))
    have C14 : (τ4).2.1 14 = (σ.2.1 14) := ((congrArg (fun x9 : MS => x9.2.1 14) eτ4).trans ((tA rg_368).trans (hT 14 rg_185 rg_367)))
    have C15 : (τ4).2.1 15 = (σ.2.1 15) := ((congrArg (fun x9 : MS => x9.2.1 15) eτ4).trans ((tA rg_370).trans (hT 15 rg_189 rg_369)))
    have C16 : (τ4).2.1 16 = (σ.2.1 16) := ((congrArg (fun x9 : MS => x9.2.1 16) eτ4).trans ((tA rg_372).trans (hT 16 rg_193 rg_371)))
    have C17 : (τ4).2.1 17 = (σ.2.1 17) := ((congrArg (fun x9 : MS => x9.2.1 17) eτ4).trans ((tA rg_374).trans (hT 17 rg_347 rg_373)))
    have C18 : (τ4).2.1 18 = (σ.2.1 18) := ((congrArg (fun x9 : MS => x9.2.1 18) eτ4).trans ((tA rg_376).trans (hT 18 rg_323 rg_375)))
    have C19 : (τ4).2.1 19 = (σ.2.1 19) := ((congrArg (fun x9 : MS => x9.2.1 19) eτ4).trans ((tA rg_378).trans (hT 19 rg_298 rg_377)))
    have C20 : (τ4).2.1 20 = (σ.2.1 20) := ((congrArg (fun x9 : MS => x9.2.1 20) eτ4).trans ((tA rg_380).trans (hT 20 rg_269 rg_379)))
    have C21 : (τ4).2.1 21 = (σ.2.1 21) := ((congrArg (fun x9 : MS => x9.2.1 21) eτ4).trans ((tA rg_382).trans (hT 21 rg_234 rg_381)))
    have C22 : (τ4).2.1 22 = (upd (σ.2.1 22) (Int32.toNatClampNeg ev) v2) := ((congrArg (fun x9 : MS => x9.2.1 22) eτ4).trans ((tA rg_383).trans h22))
    have o7 : (σ.1 30).toInt ≤ 1 := by omega
    have o8 : 0 ≤ (σ.2.1 13 (σ.1 30).toNatClampNeg).toInt := by omega
    have o9 : (σ.2.1 13 (σ.1 30).toNatClampNeg).toInt ≤ 3 := by omega
    have o10 : ev.toInt = 4 * (σ.1 30).toInt + (σ.2.1 13 (σ.1 30).toNatClampNeg).toInt := by omega
    have o11 : z3.toInt = (σ.2.1 13 (σ.1 30).toNatClampNeg).toInt + 1 := by omega
    have RR := rel_end (n := (σ.2.1 13 (σ.1 30).toNatClampNeg)) hI ⟨o1, o7⟩ rfl o8 o9 o10 C11 C12 C13 (crE C14 C15 C16 C17 C18 C19 C20 C21) C22 o11
    exact W.vret hx hb hr (fun t ht hW => ⟨⟨τ4, rfl, ⟨hIτ4, Xτ4, (fun h9 hr9 => RR.1 hr9 (W5 h9).1 (W5 h9).2), RR.2, Mτ4, Lτ4⟩, wEn_of hP (hK.sub [] rfl) hD ht hW⟩, hS.F ht⟩) hS.2.2 dX12_readEnd_199
  have pt_147 : ∀ (τ : MS) (ev : Int32) (v2 : Int32) (H : Heap) (locs : List Loc) (ls : Array Slot), (Inv τ) → (eqx [6, 7, 8, 9, 10, 4, 5, 22, 23, 24, 13] τ σ) → (Mo τ σ) → (Lx τ σ) → (ev.toInt = 4 * (σ.1 30).toInt + (σ.2.1 13 (σ.1 30).toNatClampNeg).toInt) → (∀ p9, 11 ≤ p9 → p9 ≤ 21 → τ.2.1 p9 = σ.2.1 p9) → (τ.2.1 22 = upd (σ.2.1 22) (Int32.toNatClampNeg ev) v2) → (When τ (0 ≤ v2.toInt ∧ v2.toInt < (σ.2.1 12 (σ.1 30).toNatClampNeg).toInt)) → va_P (dC, dI) vwCl (mW h ad cl τ) H → va_D A (mW h ad cl τ) → va_S A s.heap H locs → lv_has ls 3 [(0, .ref h), (1, .int ev)] → W p l e (headSpec vs_n_readEnd rm_n_readEnd).room s m #[Value.ref h] below meth c H locs 0 0 Q (F0 m 147 ls []) := by
    intro τ ev v2 H locs ls hIτ hxτ hmτ hgτ hev hT h22 hw0 hP hD hS hl
    refine lv_aload_n hx hb dX12_readEnd_147 rfl (lv_at hl 0 rfl) ?_
    refine lv_aload_n hx hb dX12_readEnd_148 rfl (lv_at hl 0 rfl) ?_
    refine lv_ldc2 (v := (474148660594)) hx hb hown (ho (.constantLong RX12 183 (474148660594)) (List.mem_of_getElem? (i := 2) rfl)) dX12_readEnd_149 ?_
    refine zy_i (va_runV (As := [.long 474148660594]) (rest := [.ref h]) ⟨hx, hb, hml, hown, hts⟩ (n_isWord l dC dI h ad cl H.size τ 474148660594 hIτ) (cwV 1 hts gd_n_readEnd_261_n_isWord rfl rfl rfl dd_n_isWord ⟨Nat.le_of_ble_eq_true rfl, Nat.le_of_ble_eq_true rfl⟩) (preV hP hK hD hE (ci := 12) (q0 := 0) rfl rfl) rfl rfl hl.1 rfl (lv_room (Nat.le_of_ble_eq_true rfl)) dX12_readEnd_152 ⟨Nat.le_of_ble_eq_true rfl, Nat.le_of_ble_eq_true rfl⟩) hD hS hA (fun z7 τ6 H locs hq hP hD hS => ?_)
    obtain ⟨rfl, f8⟩ := hq
    refine W.widen (k := 0) (n := 0) (Nat.le_of_ble_eq_true rfl) (Nat.le_of_ble_eq_true rfl) ?_
    refine lv_if_ne (tgt := 178) hx hb dX12_readEnd_155 rfl (fun c9 => ?_) (fun c9 => ?_)
    · have tc9 := (show z7.toInt ≠ 0 from ti_ne rfl rg_11 c9)
      refine lv_iconst (v := 1) hx hb dX12_readEnd_178 rg_6 ?_
      refine lv_goto (tgt := 183) hx hb dX12_readEnd_179 rfl ?_
      have kk10 : (1 : Int32).toInt = 1 := rg_18
      refine zy_v (va_runV (As := [.int 1]) (rest := []) ⟨hx, hb, hml, hown, hts⟩ (n_must l dC dI h ad cl H.size τ 1 hIτ (Lx.es hgτ)) (cwV 1 hts gd_n_readEnd_278_n_must rfl rfl rfl dd_n_must ⟨Nat.le_of_ble_eq_true rfl, Nat.le_of_ble_eq_true rfl⟩) (preV hP hK hD hE (ci := 12) (q0 := 0) rfl rfl) rfl rfl hl.1 rfl (lv_room (Nat.le_of_ble_eq_true rfl)) dX12_readEnd_183 ⟨Nat.le_of_ble_eq_true rfl, Nat.le_of_ble_eq_true rfl⟩) hD hS hA (fun τ11 H locs hq hP hD hS => ?_)
      obtain ⟨hI13, hx14, mo15, lx16⟩ := hq
      have Xτ11 : eqx [6, 7, 8, 9, 10, 4, 5, 22, 23, 24, 13] τ11 σ := eqx.tr hx14 hxτ rg_384
      have Mτ11 : Mo τ11 σ := Mo.tr mo15 (fun h9 => hmτ h9)
      have Lτ11 : Lx τ11 σ := Lx.tr lx16 hgτ
      have W17 : When τ11 (0 ≤ v2.toInt ∧ v2.toInt < (σ.2.1 12 (σ.1 30).toNatClampNeg).toInt) := When.mo hw0 mo15
      refine W.widen (k := 0) (n := 0) (Nat.le_of_ble_eq_true rfl) (Nat.le_of_ble_eq_true rfl) ?_
      have C11 : (τ11).2.1 11 = (σ.2.1 11) := (((hx14 11 rg_104).2.1).trans (hT 11 rg_177 rg_234))
      have C12 : (τ11).2.1 12 = (σ.2.1 12) := (((hx14 12 rg_110).2.1).trans (hT 12 rg_173 rg_365))
      have C13 : (τ11).2.1 13 = (σ.2.1 13) := (((hx14 13 rg_116).2.1).trans (hT 13 rg_181 rg_362))
      have C14 : (τ11).2.1 14 = (σ.2.1 14) := (((hx14 14 rg_122).2.1).trans (hT 14 rg_185 rg_367))
      have C15 : (τ11).2.1 15 = (σ.2.1 15) := (((hx14 15 rg_100).2.1).trans (hT 15 rg_189 rg_369))
      have C16 : (τ11).2.1 16 = (σ.2.1 16) := (((hx14 16 rg_129).2.1).trans (hT 16 rg_193 rg_371))
      have C17 : (τ11).2.1 17 = (σ.2.1 17) := (((hx14 17 rg_134).2.1).trans (hT 17 rg_347 rg_373))
      have C18 : (τ11).2.1 18 = (σ.2.1 18) := (((hx14 18 rg_140).2.1).trans (hT 18 rg_323 rg_375))
      have C19 : (τ11).2.1 19 = (σ.2.1 19) := (((hx14 19 rg_146).2.1).trans (hT 19 rg_298 rg_377))
      have C20 : (τ11).2.1 20 = (σ.2.1 20) := (((hx14 20 rg_152).2.1).trans (hT 20 rg_269 rg_379))
      have C21 : (τ11).2.1 21 = (σ.2.1 21) := (((hx14 21 rg_158).2.1).trans (hT 21 rg_234 rg_381))
      have C22 : (τ11).2.1 22 = (upd (σ.2.1 22) (Int32.toNatClampNeg ev) v2) := (((hx14 22 rg_164).2.1).trans h22)
      have o12 : ev.toInt = 4 * (σ.1 30).toInt + (σ.2.1 13 (σ.1 30).toNatClampNeg).toInt := by omega
      exact pt_186 τ11 ev v2 _ _ _ hI13 Xτ11 Mτ11 Lτ11 (show ev.toInt = 4 * (σ.1 30).toInt + (σ.2.1 13 (σ.1 30).toNatClampNeg).toInt from o12) (tabE C11 C12 C13 C14 C15 C16 C17 C18 C19 C20 C21) C22 W17 hP hD hS (lv_sub hl [0, 1] rfl)
    · have tc9 := (show z7.toInt = 0 from ti_eq rfl rg_11 c9)
      refine lv_aload_n hx hb dX12_readEnd_158 rfl (lv_at hl 0 rfl) ?_
      refine lv_ldc2 (v := (1835360622)) hx hb hown (ho (.constantLong RX12 185 (1835360622)) (List.mem_of_getElem? (i := 3) rfl)) dX12_readEnd_159 ?_
      refine zy_i (va_runV (As := [.long 1835360622]) (rest := [.ref h]) ⟨hx, hb, hml, hown, hts⟩ (n_isWord l dC dI h ad cl H.size τ 1835360622 hIτ) (cwV 1 hts gd_n_readEnd_261_n_isWord rfl rfl rfl dd_n_isWord ⟨Nat.le_of_ble_eq_true rfl, Nat.le_of_ble_eq_true rfl⟩) (preV hP hK hD hE (ci := 12) (q0 := 0) rfl rfl) rfl rfl hl.1 rfl (lv_room (Nat.le_of_ble_eq_true rfl)) dX12_readEnd_162 ⟨Nat.le_of_ble_eq_true rfl, Nat.le_of_ble_eq_true rfl⟩) hD hS hA (fun z19 τ18 H locs hq hP hD hS => ?_)
      obtain ⟨rfl, f20⟩ := hq
      refine W.widen (k := 0) (n := 0) (Nat.le_of_ble_eq_true rfl) (Nat.le_of_ble_eq_true rfl) ?_
      refine lv_if_ne (tgt := 178) hx hb dX12_readEnd_165 rfl (fun c21 => ?_) (fun c21 => ?_)
      · have tc21 := (show z19.toInt ≠ 0 from ti_ne rfl rg_11 c21)
        refine lv_iconst (v := 1) hx hb dX12_readEnd_178 rg_6 ?_
        refine lv_goto (tgt := 183) hx hb dX12_readEnd_179 rfl ?_
        have kk22 : (1 : Int32).toInt = 1 := rg_18
        refine zy_v (va_runV (As := [.int 1]) (rest := []) ⟨hx, hb, hml, hown, hts⟩ (n_must l dC dI h ad cl H.size τ 1 hIτ (Lx.es hgτ)) (cwV 1 hts gd_n_readEnd_278_n_must rfl rfl rfl dd_n_must ⟨Nat.le_of_ble_eq_true rfl, Nat.le_of_ble_eq_true rfl⟩) (preV hP hK hD hE (ci := 12) (q0 := 0) rfl rfl) rfl rfl hl.1 rfl (lv_room (Nat.le_of_ble_eq_true rfl)) dX12_readEnd_183 ⟨Nat.le_of_ble_eq_true rfl, Nat.le_of_ble_eq_true rfl⟩) hD hS hA (fun τ23 H locs hq hP hD hS => ?_)
        obtain ⟨hI25, hx26, mo27, lx28⟩ := hq
        have Xτ23 : eqx [6, 7, 8, 9, 10, 4, 5, 22, 23, 24, 13] τ23 σ := eqx.tr hx26 hxτ rg_384
        have Mτ23 : Mo τ23 σ := Mo.tr mo27 (fun h9 => hmτ h9)
        have Lτ23 : Lx τ23 σ := Lx.tr lx28 hgτ
        have W29 : When τ23 (0 ≤ v2.toInt ∧ v2.toInt < (σ.2.1 12 (σ.1 30).toNatClampNeg).toInt) := When.mo hw0 mo27
        refine W.widen (k := 0) (n := 0) (Nat.le_of_ble_eq_true rfl) (Nat.le_of_ble_eq_true rfl) ?_
        have C11 : (τ23).2.1 11 = (σ.2.1 11) := (((hx26 11 rg_104).2.1).trans (hT 11 rg_177 rg_234))
        have C12 : (τ23).2.1 12 = (σ.2.1 12) := (((hx26 12 rg_110).2.1).trans (hT 12 rg_173 rg_365))
        have C13 : (τ23).2.1 13 = (σ.2.1 13) := (((hx26 13 rg_116).2.1).trans (hT 13 rg_181 rg_362))
        have C14 : (τ23).2.1 14 = (σ.2.1 14) := (((hx26 14 rg_122).2.1).trans (hT 14 rg_185 rg_367))
        have C15 : (τ23).2.1 15 = (σ.2.1 15) := (((hx26 15 rg_100).2.1).trans (hT 15 rg_189 rg_369))
        have C16 : (τ23).2.1 16 = (σ.2.1 16) := (((hx26 16 rg_129).2.1).trans (hT 16 rg_193 rg_371))
        have C17 : (τ23).2.1 17 = (σ.2.1 17) := (((hx26 17 rg_134).2.1).trans (hT 17 rg_347 rg_373))
        have C18 : (τ23).2.1 18 = (σ.2.1 18) := (((hx26 18 rg_140).2.1).trans (hT 18 rg_323 rg_375))
        have C19 : (τ23).2.1 19 = (σ.2.1 19) := (((hx26 19 rg_146).2.1).trans (hT 19 rg_298 rg_377))
        have C20 : (τ23).2.1 20 = (σ.2.1 20) := (((hx26 20 rg_152).2.1).trans (hT 20 rg_269 rg_379))
        have C21 : (τ23).2.1 21 = (σ.2.1 21) := (((hx26 21 rg_158).2.1).trans (hT 21 rg_234 rg_381))
        have C22 : (τ23).2.1 22 = (upd (σ.2.1 22) (Int32.toNatClampNeg ev) v2) := (((hx26 22 rg_164).2.1).trans h22)
        have o13 : ev.toInt = 4 * (σ.1 30).toInt + (σ.2.1 13 (σ.1 30).toNatClampNeg).toInt := by omega
        exact pt_186 τ23 ev v2 _ _ _ hI25 Xτ23 Mτ23 Lτ23 (show ev.toInt = 4 * (σ.1 30).toInt + (σ.2.1 13 (σ.1 30).toNatClampNeg).toInt from o13) (tabE C11 C12 C13 C14 C15 C16 C17 C18 C19 C20 C21) C22 W29 hP hD hS (lv_sub hl [0, 1] rfl)
      · have tc21 := (show z19.toInt = 0 from ti_eq rfl rg_11 c21)
        refine lv_aload_n hx hb dX12_readEnd_168 rfl (lv_at hl 0 rfl) ?_
        refine lv_ldc2 (v := (7302757)) hx hb hown (ho (.constantLong RX12 187 (7302757)) (List.mem_of_getElem? (i := 4) rfl)) dX12_readEnd_169 ?_
        refine zy_i (va_runV (As := [.long 7302757]) (rest := [.ref h]) ⟨hx, hb, hml, hown, hts⟩ (n_isWord l dC dI h ad cl H.size τ 7302757 hIτ) (cwV 1 hts gd_n_readEnd_261_n_isWord rfl rfl rfl dd_n_isWord ⟨Nat.le_of_ble_eq_true rfl, Nat.le_of_ble_eq_true rfl⟩) (preV hP hK hD hE (ci := 12) (q0 := 0) rfl rfl) rfl rfl hl.1 rfl (lv_room (Nat.le_of_ble_eq_true rfl)) dX12_readEnd_172 ⟨Nat.le_of_ble_eq_true rfl, Nat.le_of_ble_eq_true rfl⟩) hD hS hA (fun z31 τ30 H locs hq hP hD hS => ?_)
        obtain ⟨rfl, f32⟩ := hq
        refine W.widen (k := 0) (n := 0) (Nat.le_of_ble_eq_true rfl) (Nat.le_of_ble_eq_true rfl) ?_
        refine lv_if_eq (tgt := 182) hx hb dX12_readEnd_175 rfl (fun c33 => ?_) (fun c33 => ?_)
        · have tc33 := (show z31.toInt = 0 from ti_eq rfl rg_11 c33)
          refine lv_iconst (v := 0) hx hb dX12_readEnd_182 rg_0 ?_
          have kk34 : (0 : Int32).toInt = 0 := rg_11
          refine zy_v (va_runV (As := [.int 0]) (rest := []) ⟨hx, hb, hml, hown, hts⟩ (n_must l dC dI h ad cl H.size τ 0 hIτ (Lx.es hgτ)) (cwV 1 hts gd_n_readEnd_278_n_must rfl rfl rfl dd_n_must ⟨Nat.le_of_ble_eq_true rfl, Nat.le_of_ble_eq_true rfl⟩) (preV hP hK hD hE (ci := 12) (q0 := 0) rfl rfl) rfl rfl hl.1 rfl (lv_room (Nat.le_of_ble_eq_true rfl)) dX12_readEnd_183 ⟨Nat.le_of_ble_eq_true rfl, Nat.le_of_ble_eq_true rfl⟩) hD hS hA (fun τ35 H locs hq hP hD hS => ?_)
          obtain ⟨hI37, hx38, mo39, lx40⟩ := hq
          have Xτ35 : eqx [6, 7, 8, 9, 10, 4, 5, 22, 23, 24, 13] τ35 σ := eqx.tr hx38 hxτ rg_384
          have Mτ35 : Mo τ35 σ := Mo.tr mo39 (fun h9 => hmτ h9)
          have Lτ35 : Lx τ35 σ := Lx.tr lx40 hgτ
          have W41 : When τ35 (0 ≤ v2.toInt ∧ v2.toInt < (σ.2.1 12 (σ.1 30).toNatClampNeg).toInt) := When.mo hw0 mo39
          refine W.widen (k := 0) (n := 0) (Nat.le_of_ble_eq_true rfl) (Nat.le_of_ble_eq_true rfl) ?_
          have C11 : (τ35).2.1 11 = (σ.2.1 11) := (((hx38 11 rg_104).2.1).trans (hT 11 rg_177 rg_234))
          have C12 : (τ35).2.1 12 = (σ.2.1 12) := (((hx38 12 rg_110).2.1).trans (hT 12 rg_173 rg_365))
          have C13 : (τ35).2.1 13 = (σ.2.1 13) := (((hx38 13 rg_116).2.1).trans (hT 13 rg_181 rg_362))
          have C14 : (τ35).2.1 14 = (σ.2.1 14) := (((hx38 14 rg_122).2.1).trans (hT 14 rg_185 rg_367))
          have C15 : (τ35).2.1 15 = (σ.2.1 15) := (((hx38 15 rg_100).2.1).trans (hT 15 rg_189 rg_369))
          have C16 : (τ35).2.1 16 = (σ.2.1 16) := (((hx38 16 rg_129).2.1).trans (hT 16 rg_193 rg_371))
          have C17 : (τ35).2.1 17 = (σ.2.1 17) := (((hx38 17 rg_134).2.1).trans (hT 17 rg_347 rg_373))
          have C18 : (τ35).2.1 18 = (σ.2.1 18) := (((hx38 18 rg_140).2.1).trans (hT 18 rg_323 rg_375))
          have C19 : (τ35).2.1 19 = (σ.2.1 19) := (((hx38 19 rg_146).2.1).trans (hT 19 rg_298 rg_377))
          have C20 : (τ35).2.1 20 = (σ.2.1 20) := (((hx38 20 rg_152).2.1).trans (hT 20 rg_269 rg_379))
          have C21 : (τ35).2.1 21 = (σ.2.1 21) := (((hx38 21 rg_158).2.1).trans (hT 21 rg_234 rg_381))
          have C22 : (τ35).2.1 22 = (upd (σ.2.1 22) (Int32.toNatClampNeg ev) v2) := (((hx38 22 rg_164).2.1).trans h22)
          have o14 : ev.toInt = 4 * (σ.1 30).toInt + (σ.2.1 13 (σ.1 30).toNatClampNeg).toInt := by omega
          exact pt_186 τ35 ev v2 _ _ _ hI37 Xτ35 Mτ35 Lτ35 (show ev.toInt = 4 * (σ.1 30).toInt + (σ.2.1 13 (σ.1 30).toNatClampNeg).toInt from o14) (tabE C11 C12 C13 C14 C15 C16 C17 C18 C19 C20 C21) C22 W41 hP hD hS (lv_sub hl [0, 1] rfl)
        · have tc33 := (show z31.toInt ≠ 0 from ti_ne rfl rg_11 c33)
          refine lv_iconst (v := 1) hx hb dX12_readEnd_178 rg_6 ?_
          refine lv_goto (tgt := 183) hx hb dX12_readEnd_179 rfl ?_
          have kk42 : (1 : Int32).toInt = 1 := rg_18
          refine zy_v (va_runV (As := [.int 1]) (rest := []) ⟨hx, hb, hml, hown, hts⟩ (n_must l dC dI h ad cl H.size τ 1 hIτ (Lx.es hgτ)) (cwV 1 hts gd_n_readEnd_278_n_must rfl rfl rfl dd_n_must ⟨Nat.le_of_ble_eq_true rfl, Nat.le_of_ble_eq_true rfl⟩) (preV hP hK hD hE (ci := 12) (q0 := 0) rfl rfl) rfl rfl hl.1 rfl (lv_room (Nat.le_of_ble_eq_true rfl)) dX12_readEnd_183 ⟨Nat.le_of_ble_eq_true rfl, Nat.le_of_ble_eq_true rfl⟩) hD hS hA (fun τ43 H locs hq hP hD hS => ?_)
          obtain ⟨hI45, hx46, mo47, lx48⟩ := hq
          have Xτ43 : eqx [6, 7, 8, 9, 10, 4, 5, 22, 23, 24, 13] τ43 σ := eqx.tr hx46 hxτ rg_384
          have Mτ43 : Mo τ43 σ := Mo.tr mo47 (fun h9 => hmτ h9)
          have Lτ43 : Lx τ43 σ := Lx.tr lx48 hgτ
          have W49 : When τ43 (0 ≤ v2.toInt ∧ v2.toInt < (σ.2.1 12 (σ.1 30).toNatClampNeg).toInt) := When.mo hw0 mo47
          refine W.widen (k := 0) (n := 0) (Nat.le_of_ble_eq_true rfl) (Nat.le_of_ble_eq_true rfl) ?_
          have C11 : (τ43).2.1 11 = (σ.2.1 11) := (((hx46 11 rg_104).2.1).trans (hT 11 rg_177 rg_234))
          have C12 : (τ43).2.1 12 = (σ.2.1 12) := (((hx46 12 rg_110).2.1).trans (hT 12 rg_173 rg_365))
          have C13 : (τ43).2.1 13 = (σ.2.1 13) := (((hx46 13 rg_116).2.1).trans (hT 13 rg_181 rg_362))
          have C14 : (τ43).2.1 14 = (σ.2.1 14) := (((hx46 14 rg_122).2.1).trans (hT 14 rg_185 rg_367))
          have C15 : (τ43).2.1 15 = (σ.2.1 15) := (((hx46 15 rg_100).2.1).trans (hT 15 rg_189 rg_369))
          have C16 : (τ43).2.1 16 = (σ.2.1 16) := (((hx46 16 rg_129).2.1).trans (hT 16 rg_193 rg_371))
          have C17 : (τ43).2.1 17 = (σ.2.1 17) := (((hx46 17 rg_134).2.1).trans (hT 17 rg_347 rg_373))
          have C18 : (τ43).2.1 18 = (σ.2.1 18) := (((hx46 18 rg_140).2.1).trans (hT 18 rg_323 rg_375))
          have C19 : (τ43).2.1 19 = (σ.2.1 19) := (((hx46 19 rg_146).2.1).trans (hT 19 rg_298 rg_377))
          have C20 : (τ43).2.1 20 = (σ.2.1 20) := (((hx46 20 rg_152).2.1).trans (hT 20 rg_269 rg_379))
          have C21 : (τ43).2.1 21 = (σ.2.1 21) := (((hx46 21 rg_158).2.1).trans (hT 21 rg_234 rg_381))
          have C22 : (τ43).2.1 22 = (upd (σ.2.1 22) (Int32.toNatClampNeg ev) v2) := (((hx46 22 rg_164).2.1).trans h22)
          have o15 : ev.toInt = 4 * (σ.1 30).toInt + (σ.2.1 13 (σ.1 30).toNatClampNeg).toInt := by omega
          exact pt_186 τ43 ev v2 _ _ _ hI45 Xτ43 Mτ43 Lτ43 (show ev.toInt = 4 * (σ.1 30).toInt + (σ.2.1 13 (σ.1 30).toNatClampNeg).toInt from o15) (tabE C11 C12 C13 C14 C15 C16 C17 C18 C19 C20 C21) C22 W49 hP hD hS (lv_sub hl [0, 1] rfl)
  have pt_87 : ∀ (τ : MS) (ev : Int32) (v2 : Int32) (H : Heap) (locs : List Loc) (ls : Array Slot), (Inv τ) → (eqx [6, 7, 8, 9, 10, 4, 5, 22, 23, 24, 13] τ σ) → (Mo τ σ) → (Lx τ σ) → (ev.toInt = 4 * (σ.1 30).toInt + (σ.2.1 13 (σ.1 30).toNatClampNeg).toInt) → (∀ p9, 11 ≤ p9 → p9 ≤ 21 → τ.2.1 p9 = σ.2.1 p9) → (τ.2.1 22 = upd (σ.2.1 22) (Int32.toNatClampNeg ev) v2) → (When τ (0 ≤ v2.toInt ∧ v2.toInt < (σ.2.1 12 (σ.1 30).toNatClampNeg).toInt)) → va_P (dC, dI) vwCl (mW h ad cl τ) H → va_D A (mW h ad cl τ) → va_S A s.heap H locs → lv_has ls 3 [(0, .ref h), (1, .int ev)] → W p l e (headSpec vs_n_readEnd rm_n_readEnd).room s m #[Value.ref h] below meth c H locs 0 0 Q (F0 m 87 ls []) := by
    intro τ ev v2 H locs ls hIτ hxτ hmτ hgτ hev hT h22 hw0 hP hD hS hl
    refine lv_aload_n hx hb dX12_readEnd_87 rfl (lv_at hl 0 rfl) ?_
    refine lv_aload_n hx hb dX12_readEnd_88 rfl (lv_at hl 0 rfl) ?_
    refine lv_ldc2 (v := (7300710)) hx hb hown (ho (.constantLong RX12 181 (7300710)) (List.mem_of_getElem? (i := 5) rfl)) dX12_readEnd_89 ?_
    refine zy_i (va_runV (As := [.long 7300710]) (rest := [.ref h]) ⟨hx, hb, hml, hown, hts⟩ (n_isWord l dC dI h ad cl H.size τ 7300710 hIτ) (cwV 1 hts gd_n_readEnd_261_n_isWord rfl rfl rfl dd_n_isWord ⟨Nat.le_of_ble_eq_true rfl, Nat.le_of_ble_eq_true rfl⟩) (preV hP hK hD hE (ci := 12) (q0 := 0) rfl rfl) rfl rfl hl.1 rfl (lv_room (Nat.le_of_ble_eq_true rfl)) dX12_readEnd_92 ⟨Nat.le_of_ble_eq_true rfl, Nat.le_of_ble_eq_true rfl⟩) hD hS hA (fun z51 τ50 H locs hq hP hD hS => ?_)
    obtain ⟨rfl, f52⟩ := hq
    refine W.widen (k := 0) (n := 0) (Nat.le_of_ble_eq_true rfl) (Nat.le_of_ble_eq_true rfl) ?_
    refine zy_v (va_runV (As := [.int z51]) (rest := []) ⟨hx, hb, hml, hown, hts⟩ (n_must l dC dI h ad cl H.size τ z51 hIτ (Lx.es hgτ)) (cwV 1 hts gd_n_readEnd_278_n_must rfl rfl rfl dd_n_must ⟨Nat.le_of_ble_eq_true rfl, Nat.le_of_ble_eq_true rfl⟩) (preV hP hK hD hE (ci := 12) (q0 := 0) rfl rfl) rfl rfl hl.1 rfl (lv_room (Nat.le_of_ble_eq_true rfl)) dX12_readEnd_95 ⟨Nat.le_of_ble_eq_true rfl, Nat.le_of_ble_eq_true rfl⟩) hD hS hA (fun τ53 H locs hq hP hD hS => ?_)
    obtain ⟨hI55, hx56, mo57, lx58⟩ := hq
    have Xτ53 : eqx [6, 7, 8, 9, 10, 4, 5, 22, 23, 24, 13] τ53 σ := eqx.tr hx56 hxτ rg_384
    have Mτ53 : Mo τ53 σ := Mo.tr mo57 (fun h9 => hmτ h9)
    have Lτ53 : Lx τ53 σ := Lx.tr lx58 hgτ
    have W59 : When τ53 (0 ≤ v2.toInt ∧ v2.toInt < (σ.2.1 12 (σ.1 30).toNatClampNeg).toInt) := When.mo hw0 mo57
    refine W.widen (k := 0) (n := 0) (Nat.le_of_ble_eq_true rfl) (Nat.le_of_ble_eq_true rfl) ?_
    refine lv_aload_n hx hb dX12_readEnd_98 rfl (lv_at hl 0 rfl) ?_
    refine va_get (D := (dC, dI)) (ci := 12) (v := .ref (ad 23)) (C := RX12) (T := TX12) (N := 59) hx hb hts hin12 hown hK hP 0 rfl rfl 23 (Nat.le_of_ble_eq_true rfl) (ho (.fieldLink RX12 57 "NearEnoughModel" "eOff" "[I") (List.mem_of_getElem? (i := 6) rfl)) (fun _ h9 => h9) rfl dX12_readEnd_99 ?_
    refine lv_iload_n hx hb dX12_readEnd_102 rfl (lv_at hl 1 rfl) ?_
    refine lv_aload_n hx hb dX12_readEnd_103 rfl (lv_at hl 0 rfl) ?_
    refine lv_iconst (v := 0) hx hb dX12_readEnd_104 rg_0 ?_
    refine lv_sipush (v := 9999) hx hb dX12_readEnd_105 rg_385 ?_
    have kk60 : (0 : Int32).toInt = 0 := rg_11
    have kk61 : (9999 : Int32).toInt = 9999 := rg_386
    refine zy_i (va_runV (As := [.int 0, .int 9999]) (rest := [.int ev, .ref (ad 23)]) ⟨hx, hb, hml, hown, hts⟩ (n_numeral l dC dI h ad cl H.size τ53 0 9999 hI55 (by decide) (Lx.es Lτ53)) (cwV 2 hts gd_n_readEnd_291_n_numeral rfl rfl rfl dd_n_numeral ⟨Nat.le_of_ble_eq_true rfl, Nat.le_of_ble_eq_true rfl⟩) (preV hP hK hD hE (ci := 12) (q0 := 0) rfl rfl) rfl rfl hl.1 rfl (lv_room (Nat.le_of_ble_eq_true rfl)) dX12_readEnd_108 ⟨Nat.le_of_ble_eq_true rfl, Nat.le_of_ble_eq_true rfl⟩) hD hS hA (fun z63 τ62 H locs hq hP hD hS => ?_)
    obtain ⟨hI64, hx65, f66, f67, mo68, lx69⟩ := hq
    have Xτ62 : eqx [6, 7, 8, 9, 10, 4, 5, 22, 23, 24, 13] τ62 σ := eqx.tr hx65 Xτ53 rg_384
    have Mτ62 : Mo τ62 σ := Mo.tr mo68 (fun h9 => Mτ53 h9)
    have Lτ62 : Lx τ62 σ := Lx.tr lx69 Lτ53
    have W70 : When τ62 (0 ≤ v2.toInt ∧ v2.toInt < (σ.2.1 12 (σ.1 30).toNatClampNeg).toInt) := When.mo W59 mo68
    refine W.widen (k := 0) (n := 0) (Nat.le_of_ble_eq_true rfl) (Nat.le_of_ble_eq_true rfl) ?_
    have o16 : 0 ≤ ev.toInt := by omega
    have o17 : ev.toInt < ((8 : Nat) : Int) := by omega
    refine va_iast hx hb hK hP hD hS 15 14 rfl rfl (ti_inx o16 o17) dX12_readEnd_111 (fun H locs hP hD hS => ?_)
    rw [wS23] at hP hD
    obtain ⟨τ71, eτ71⟩ : ∃ x9 : MS, x9 = sA τ62 23 (upd (τ62.2.1 23) (Int32.toNatClampNeg ev) z63) := ⟨_, rfl⟩
    have hP : va_P (dC, dI) vwCl (mW h ad cl τ71) H := by rw [eτ71]; exact hP
    have hD : va_D A (mW h ad cl τ71) := by rw [eτ71]; exact hD
    have hIτ71 : Inv τ71 := by rw [eτ71]; exact (Inv_sA1 hI64 (fun j _ => Inv.any _))
    have Xτ71 : eqx [6, 7, 8, 9, 10, 4, 5, 22, 23, 24, 13] τ71 σ := (eqx.eq eτ71 (eqx.sA Xτ62 rg_387))
    have Mτ71 : Mo τ71 σ := Mo.eq eτ71 (fun h9 => Mτ62 h9)
    have Lτ71 : Lx τ71 σ := Lx.eq eτ71 Lτ62
    have W72 : When τ71 (0 ≤ v2.toInt ∧ v2.toInt < (σ.2.1 12 (σ.1 30).toNatClampNeg).toInt) := When.mo W70 (Mo.eq eτ71 (fun h9 => h9))
    refine lv_aload_n hx hb dX12_readEnd_112 rfl (lv_at hl 0 rfl) ?_
    refine va_get (D := (dC, dI)) (ci := 12) (v := .ref (ad 24)) (C := RX12) (T := TX12) (N := 59) hx hb hts hin12 hown hK hP 0 rfl rfl 24 (Nat.le_of_ble_eq_true rfl) (ho (.fieldLink RX12 60 "NearEnoughModel" "eHow" "[I") (List.mem_of_getElem? (i := 7) rfl)) (fun _ h9 => h9) rfl dX12_readEnd_113 ?_
    refine lv_iload_n hx hb dX12_readEnd_116 rfl (lv_at hl 1 rfl) ?_
    refine lv_aload_n hx hb dX12_readEnd_117 rfl (lv_at hl 0 rfl) ?_
    refine lv_ldc2 (v := (474148660594)) hx hb hown (ho (.constantLong RX12 183 (474148660594)) (List.mem_of_getElem? (i := 2) rfl)) dX12_readEnd_118 ?_
    refine zy_i (va_runV (As := [.long 474148660594]) (rest := [.int ev, .ref (ad 24)]) ⟨hx, hb, hml, hown, hts⟩ (n_isWord l dC dI h ad cl H.size τ71 474148660594 hIτ71) (cwV 1 hts gd_n_readEnd_261_n_isWord rfl rfl rfl dd_n_isWord ⟨Nat.le_of_ble_eq_true rfl, Nat.le_of_ble_eq_true rfl⟩) (preV hP hK hD hE (ci := 12) (q0 := 0) rfl rfl) rfl rfl hl.1 rfl (lv_room (Nat.le_of_ble_eq_true rfl)) dX12_readEnd_121 ⟨Nat.le_of_ble_eq_true rfl, Nat.le_of_ble_eq_true rfl⟩) hD hS hA (fun z74 τ73 H locs hq hP hD hS => ?_)
    obtain ⟨rfl, f75⟩ := hq
    refine W.widen (k := 0) (n := 0) (Nat.le_of_ble_eq_true rfl) (Nat.le_of_ble_eq_true rfl) ?_
    refine lv_if_eq (tgt := 131) hx hb dX12_readEnd_124 rfl (fun c76 => ?_) (fun c76 => ?_)
    · have tc76 := (show z74.toInt = 0 from ti_eq rfl rg_11 c76)
      refine lv_aload_n hx hb dX12_readEnd_131 rfl (lv_at hl 0 rfl) ?_
      refine lv_ldc2 (v := (1835360622)) hx hb hown (ho (.constantLong RX12 185 (1835360622)) (List.mem_of_getElem? (i := 3) rfl)) dX12_readEnd_132 ?_
      refine zy_i (va_runV (As := [.long 1835360622]) (rest := [.int ev, .ref (ad 24)]) ⟨hx, hb, hml, hown, hts⟩ (n_isWord l dC dI h ad cl H.size τ71 1835360622 hIτ71) (cwV 1 hts gd_n_readEnd_261_n_isWord rfl rfl rfl dd_n_isWord ⟨Nat.le_of_ble_eq_true rfl, Nat.le_of_ble_eq_true rfl⟩) (preV hP hK hD hE (ci := 12) (q0 := 0) rfl rfl) rfl rfl hl.1 rfl (lv_room (Nat.le_of_ble_eq_true rfl)) dX12_readEnd_135 ⟨Nat.le_of_ble_eq_true rfl, Nat.le_of_ble_eq_true rfl⟩) hD hS hA (fun z78 τ77 H locs hq hP hD hS => ?_)
      obtain ⟨rfl, f79⟩ := hq
      refine W.widen (k := 0) (n := 0) (Nat.le_of_ble_eq_true rfl) (Nat.le_of_ble_eq_true rfl) ?_
      refine lv_if_eq (tgt := 145) hx hb dX12_readEnd_138 rfl (fun c80 => ?_) (fun c80 => ?_)
      · have tc80 := (show z78.toInt = 0 from ti_eq rfl rg_11 c80)
        refine lv_iconst (v := 2) hx hb dX12_readEnd_145 rg_19 ?_
        refine va_iast hx hb hK hP hD hS 16 15 rfl rfl (ti_inx o16 o17) dX12_readEnd_146 (fun H locs hP hD hS => ?_)
        rw [wS24] at hP hD
        obtain ⟨τ81, eτ81⟩ : ∃ x9 : MS, x9 = sA τ71 24 (upd (τ71.2.1 24) (Int32.toNatClampNeg ev) 2) := ⟨_, rfl⟩
        have hP : va_P (dC, dI) vwCl (mW h ad cl τ81) H := by rw [eτ81]; exact hP
        have hD : va_D A (mW h ad cl τ81) := by rw [eτ81]; exact hD
        have hIτ81 : Inv τ81 := by rw [eτ81]; exact (Inv_sA1 hIτ71 (fun j _ => Inv.any _))
        have Xτ81 : eqx [6, 7, 8, 9, 10, 4, 5, 22, 23, 24, 13] τ81 σ := (eqx.eq eτ81 (eqx.sA Xτ71 rg_388))
        have Mτ81 : Mo τ81 σ := Mo.eq eτ81 (fun h9 => Mτ71 h9)
        have Lτ81 : Lx τ81 σ := Lx.eq eτ81 Lτ71
        have W82 : When τ81 (0 ≤ v2.toInt ∧ v2.toInt < (σ.2.1 12 (σ.1 30).toNatClampNeg).toInt) := When.mo W72 (Mo.eq eτ81 (fun h9 => h9))
        have C11 : (τ81).2.1 11 = (σ.2.1 11) := ((congrArg (fun x9 : MS => x9.2.1 11) eτ81).trans ((tA rg_390).trans ((congrArg (fun x9 : MS => x9.2.1 11) eτ71).trans ((tA rg_389).trans (((hx65 11 rg_104).2.1).trans (((hx56 11 rg_104).2.1).trans (hT 11 rg_177 rg_234)))))))
        have C12 : (τ81).2.1 12 = (σ.2.1 12) := ((congrArg (fun x9 : MS => x9.2.1 12) eτ81).trans ((tA rg_392).trans ((congrArg (fun x9 : MS => x9.2.1 12) eτ71).trans ((tA rg_391).trans (((hx65 12 rg_110).2.1).trans (((hx56 12 rg_110).2.1).trans (hT 12 rg_173 rg_365)))))))
        have C13 : (τ81).2.1 13 = (σ.2.1 13) := ((congrArg (fun x9 : MS => x9.2.1 13) eτ81).trans ((tA rg_394).trans ((congrArg (fun x9 : MS => x9.2.1 13) eτ71).trans ((tA rg_393).trans (((hx65 13 rg_116).2.1).trans (((hx56 13 rg_116).2.1).trans (hT 13 rg_181 rg_362)))))))
        have C14 : (τ81).2.1 14 = (σ.2.1 14) := ((congrArg (fun x9 : MS => x9.2.1 14) eτ81).trans ((tA rg_396).trans ((congrArg (fun x9 : MS => x9.2.1 14) eτ71).trans ((tA rg_395).trans (((hx65 14 rg_122).2.1).trans (((hx56 14 rg_122).2.1).trans (hT 14 rg_185 rg_367)))))))
        have C15 : (τ81).2.1 15 = (σ.2.1 15) := ((congrArg (fun x9 : MS => x9.2.1 15) eτ81).trans ((tA rg_398).trans ((congrArg (fun x9 : MS => x9.2.1 15) eτ71).trans ((tA rg_397).trans (((hx65 15 rg_100).2.1).trans (((hx56 15 rg_100).2.1).trans (hT 15 rg_189 rg_369)))))))
        have C16 : (τ81).2.1 16 = (σ.2.1 16) := ((congrArg (fun x9 : MS => x9.2.1 16) eτ81).trans ((tA rg_400).trans ((congrArg (fun x9 : MS => x9.2.1 16) eτ71).trans ((tA rg_399).trans (((hx65 16 rg_129).2.1).trans (((hx56 16 rg_129).2.1).trans (hT 16 rg_193 rg_371)))))))
        have C17 : (τ81).2.1 17 = (σ.2.1 17) := ((congrArg (fun x9 : MS => x9.2.1 17) eτ81).trans ((tA rg_402).trans ((congrArg (fun x9 : MS => x9.2.1 17) eτ71).trans ((tA rg_401).trans (((hx65 17 rg_134).2.1).trans (((hx56 17 rg_134).2.1).trans (hT 17 rg_347 rg_373)))))))
        have C18 : (τ81).2.1 18 = (σ.2.1 18) := ((congrArg (fun x9 : MS => x9.2.1 18) eτ81).trans ((tA rg_404).trans ((congrArg (fun x9 : MS => x9.2.1 18) eτ71).trans ((tA rg_403).trans (((hx65 18 rg_140).2.1).trans (((hx56 18 rg_140).2.1).trans (hT 18 rg_323 rg_375)))))))
        have C19 : (τ81).2.1 19 = (σ.2.1 19) := ((congrArg (fun x9 : MS => x9.2.1 19) eτ81).trans ((tA rg_406).trans ((congrArg (fun x9 : MS => x9.2.1 19) eτ71).trans ((tA rg_405).trans (((hx65 19 rg_146).2.1).trans (((hx56 19 rg_146).2.1).trans (hT 19 rg_298 rg_377)))))))
        have C20 : (τ81).2.1 20 = (σ.2.1 20) := ((congrArg (fun x9 : MS => x9.2.1 20) eτ81).trans ((tA rg_408).trans ((congrArg (fun x9 : MS => x9.2.1 20) eτ71).trans ((tA rg_407).trans (((hx65 20 rg_152).2.1).trans (((hx56 20 rg_152).2.1).trans (hT 20 rg_269 rg_379)))))))
        have C21 : (τ81).2.1 21 = (σ.2.1 21) := ((congrArg (fun x9 : MS => x9.2.1 21) eτ81).trans ((tA rg_410).trans ((congrArg (fun x9 : MS => x9.2.1 21) eτ71).trans ((tA rg_409).trans (((hx65 21 rg_158).2.1).trans (((hx56 21 rg_158).2.1).trans (hT 21 rg_234 rg_381)))))))
        have C22 : (τ81).2.1 22 = (upd (σ.2.1 22) (Int32.toNatClampNeg ev) v2) := ((congrArg (fun x9 : MS => x9.2.1 22) eτ81).trans ((tA rg_412).trans ((congrArg (fun x9 : MS => x9.2.1 22) eτ71).trans ((tA rg_411).trans (((hx65 22 rg_164).2.1).trans (((hx56 22 rg_164).2.1).trans h22))))))
        have o18 : ev.toInt = 4 * (σ.1 30).toInt + (σ.2.1 13 (σ.1 30).toNatClampNeg).toInt := by omega
        exact pt_147 τ81 ev v2 _ _ _ hIτ81 Xτ81 Mτ81 Lτ81 (show ev.toInt = 4 * (σ.1 30).toInt + (σ.2.1 13 (σ.1 30).toNatClampNeg).toInt from o18) (tabE C11 C12 C13 C14 C15 C16 C17 C18 C19 C20 C21) C22 W82 hP hD hS (lv_sub hl [0, 1] rfl)
      · have tc80 := (show z78.toInt ≠ 0 from ti_ne rfl rg_11 c80)
        refine lv_iconst (v := 1) hx hb dX12_readEnd_141 rg_6 ?_
        refine lv_goto (tgt := 146) hx hb dX12_readEnd_142 rfl ?_
        refine va_iast hx hb hK hP hD hS 16 15 rfl rfl (ti_inx o16 o17) dX12_readEnd_146 (fun H locs hP hD hS => ?_)
        rw [wS24] at hP hD
        obtain ⟨τ83, eτ83⟩ : ∃ x9 : MS, x9 = sA τ71 24 (upd (τ71.2.1 24) (Int32.toNatClampNeg ev) 1) := ⟨_, rfl⟩
        have hP : va_P (dC, dI) vwCl (mW h ad cl τ83) H := by rw [eτ83]; exact hP
        have hD : va_D A (mW h ad cl τ83) := by rw [eτ83]; exact hD
        have hIτ83 : Inv τ83 := by rw [eτ83]; exact (Inv_sA1 hIτ71 (fun j _ => Inv.any _))
        have Xτ83 : eqx [6, 7, 8, 9, 10, 4, 5, 22, 23, 24, 13] τ83 σ := (eqx.eq eτ83 (eqx.sA Xτ71 rg_388))
        have Mτ83 : Mo τ83 σ := Mo.eq eτ83 (fun h9 => Mτ71 h9)
        have Lτ83 : Lx τ83 σ := Lx.eq eτ83 Lτ71
        have W84 : When τ83 (0 ≤ v2.toInt ∧ v2.toInt < (σ.2.1 12 (σ.1 30).toNatClampNeg).toInt) := When.mo W72 (Mo.eq eτ83 (fun h9 => h9))
        have C11 : (τ83).2.1 11 = (σ.2.1 11) := ((congrArg (fun x9 : MS => x9.2.1 11) eτ83).trans ((tA rg_390).trans ((congrArg (fun x9 : MS => x9.2.1 11) eτ71).trans ((tA rg_389).trans (((hx65 11 rg_104).2.1).trans (((hx56 11 rg_104).2.1).trans (hT 11 rg_177 rg_234)))))))
        have C12 : (τ83).2.1 12 = (σ.2.1 12) := ((congrArg (fun x9 : MS => x9.2.1 12) eτ83).trans ((tA rg_392).trans ((congrArg (fun x9 : MS => x9.2.1 12) eτ71).trans ((tA rg_391).trans (((hx65 12 rg_110).2.1).trans (((hx56 12 rg_110).2.1).trans (hT 12 rg_173 rg_365)))))))
        have C13 : (τ83).2.1 13 = (σ.2.1 13) := ((congrArg (fun x9 : MS => x9.2.1 13) eτ83).trans ((tA rg_394).trans ((congrArg (fun x9 : MS => x9.2.1 13) eτ71).trans ((tA rg_393).trans (((hx65 13 rg_116).2.1).trans (((hx56 13 rg_116).2.1).trans (hT 13 rg_181 rg_362)))))))
        have C14 : (τ83).2.1 14 = (σ.2.1 14) := ((congrArg (fun x9 : MS => x9.2.1 14) eτ83).trans ((tA rg_396).trans ((congrArg (fun x9 : MS => x9.2.1 14) eτ71).trans ((tA rg_395).trans (((hx65 14 rg_122).2.1).trans (((hx56 14 rg_122).2.1).trans (hT 14 rg_185 rg_367)))))))
        have C15 : (τ83).2.1 15 = (σ.2.1 15) := ((congrArg (fun x9 : MS => x9.2.1 15) eτ83).trans ((tA rg_398).trans ((congrArg (fun x9 : MS => x9.2.1 15) eτ71).trans ((tA rg_397).trans (((hx65 15 rg_100).2.1).trans (((hx56 15 rg_100).2.1).trans (hT 15 rg_189 rg_369)))))))
        have C16 : (τ83).2.1 16 = (σ.2.1 16) := ((congrArg (fun x9 : MS => x9.2.1 16) eτ83).trans ((tA rg_400).trans ((congrArg (fun x9 : MS => x9.2.1 16) eτ71).trans ((tA rg_399).trans (((hx65 16 rg_129).2.1).trans (((hx56 16 rg_129).2.1).trans (hT 16 rg_193 rg_371)))))))
        have C17 : (τ83).2.1 17 = (σ.2.1 17) := ((congrArg (fun x9 : MS => x9.2.1 17) eτ83).trans ((tA rg_402).trans ((congrArg (fun x9 : MS => x9.2.1 17) eτ71).trans ((tA rg_401).trans (((hx65 17 rg_134).2.1).trans (((hx56 17 rg_134).2.1).trans (hT 17 rg_347 rg_373)))))))
        have C18 : (τ83).2.1 18 = (σ.2.1 18) := ((congrArg (fun x9 : MS => x9.2.1 18) eτ83).trans ((tA rg_404).trans ((congrArg (fun x9 : MS => x9.2.1 18) eτ71).trans ((tA rg_403).trans (((hx65 18 rg_140).2.1).trans (((hx56 18 rg_140).2.1).trans (hT 18 rg_323 rg_375)))))))
        have C19 : (τ83).2.1 19 = (σ.2.1 19) := ((congrArg (fun x9 : MS => x9.2.1 19) eτ83).trans ((tA rg_406).trans ((congrArg (fun x9 : MS => x9.2.1 19) eτ71).trans ((tA rg_405).trans (((hx65 19 rg_146).2.1).trans (((hx56 19 rg_146).2.1).trans (hT 19 rg_298 rg_377)))))))
        have C20 : (τ83).2.1 20 = (σ.2.1 20) := ((congrArg (fun x9 : MS => x9.2.1 20) eτ83).trans ((tA rg_408).trans ((congrArg (fun x9 : MS => x9.2.1 20) eτ71).trans ((tA rg_407).trans (((hx65 20 rg_152).2.1).trans (((hx56 20 rg_152).2.1).trans (hT 20 rg_269 rg_379)))))))
        have C21 : (τ83).2.1 21 = (σ.2.1 21) := ((congrArg (fun x9 : MS => x9.2.1 21) eτ83).trans ((tA rg_410).trans ((congrArg (fun x9 : MS => x9.2.1 21) eτ71).trans ((tA rg_409).trans (((hx65 21 rg_158).2.1).trans (((hx56 21 rg_158).2.1).trans (hT 21 rg_234 rg_381)))))))
        have C22 : (τ83).2.1 22 = (upd (σ.2.1 22) (Int32.toNatClampNeg ev) v2) := ((congrArg (fun x9 : MS => x9.2.1 22) eτ83).trans ((tA rg_412).trans ((congrArg (fun x9 : MS => x9.2.1 22) eτ71).trans ((tA rg_411).trans (((hx65 22 rg_164).2.1).trans (((hx56 22 rg_164).2.1).trans h22))))))
        have o19 : ev.toInt = 4 * (σ.1 30).toInt + (σ.2.1 13 (σ.1 30).toNatClampNeg).toInt := by omega
        exact pt_147 τ83 ev v2 _ _ _ hIτ83 Xτ83 Mτ83 Lτ83 (show ev.toInt = 4 * (σ.1 30).toInt + (σ.2.1 13 (σ.1 30).toNatClampNeg).toInt from o19) (tabE C11 C12 C13 C14 C15 C16 C17 C18 C19 C20 C21) C22 W84 hP hD hS (lv_sub hl [0, 1] rfl)
    · have tc76 := (show z74.toInt ≠ 0 from ti_ne rfl rg_11 c76)
      refine lv_iconst (v := 0) hx hb dX12_readEnd_127 rg_0 ?_
      refine lv_goto (tgt := 146) hx hb dX12_readEnd_128 rfl ?_
      refine va_iast hx hb hK hP hD hS 16 15 rfl rfl (ti_inx o16 o17) dX12_readEnd_146 (fun H locs hP hD hS => ?_)
      rw [wS24] at hP hD
      obtain ⟨τ85, eτ85⟩ : ∃ x9 : MS, x9 = sA τ71 24 (upd (τ71.2.1 24) (Int32.toNatClampNeg ev) 0) := ⟨_, rfl⟩
      have hP : va_P (dC, dI) vwCl (mW h ad cl τ85) H := by rw [eτ85]; exact hP
      have hD : va_D A (mW h ad cl τ85) := by rw [eτ85]; exact hD
      have hIτ85 : Inv τ85 := by rw [eτ85]; exact (Inv_sA1 hIτ71 (fun j _ => Inv.any _))
      have Xτ85 : eqx [6, 7, 8, 9, 10, 4, 5, 22, 23, 24, 13] τ85 σ := (eqx.eq eτ85 (eqx.sA Xτ71 rg_388))
      have Mτ85 : Mo τ85 σ := Mo.eq eτ85 (fun h9 => Mτ71 h9)
      have Lτ85 : Lx τ85 σ := Lx.eq eτ85 Lτ71
      have W86 : When τ85 (0 ≤ v2.toInt ∧ v2.toInt < (σ.2.1 12 (σ.1 30).toNatClampNeg).toInt) := When.mo W72 (Mo.eq eτ85 (fun h9 => h9))
      have C11 : (τ85).2.1 11 = (σ.2.1 11) := ((congrArg (fun x9 : MS => x9.2.1 11) eτ85).trans ((tA rg_390).trans ((congrArg (fun x9 : MS => x9.2.1 11) eτ71).trans ((tA rg_389).trans (((hx65 11 rg_104).2.1).trans (((hx56 11 rg_104).2.1).trans (hT 11 rg_177 rg_234)))))))
      have C12 : (τ85).2.1 12 = (σ.2.1 12) := ((congrArg (fun x9 : MS => x9.2.1 12) eτ85).trans ((tA rg_392).trans ((congrArg (fun x9 : MS => x9.2.1 12) eτ71).trans ((tA rg_391).trans (((hx65 12 rg_110).2.1).trans (((hx56 12 rg_110).2.1).trans (hT 12 rg_173 rg_365)))))))
      have C13 : (τ85).2.1 13 = (σ.2.1 13) := ((congrArg (fun x9 : MS => x9.2.1 13) eτ85).trans ((tA rg_394).trans ((congrArg (fun x9 : MS => x9.2.1 13) eτ71).trans ((tA rg_393).trans (((hx65 13 rg_116).2.1).trans (((hx56 13 rg_116).2.1).trans (hT 13 rg_181 rg_362)))))))
      have C14 : (τ85).2.1 14 = (σ.2.1 14) := ((congrArg (fun x9 : MS => x9.2.1 14) eτ85).trans ((tA rg_396).trans ((congrArg (fun x9 : MS => x9.2.1 14) eτ71).trans ((tA rg_395).trans (((hx65 14 rg_122).2.1).trans (((hx56 14 rg_122).2.1).trans (hT 14 rg_185 rg_367)))))))
      have C15 : (τ85).2.1 15 = (σ.2.1 15) := ((congrArg (fun x9 : MS => x9.2.1 15) eτ85).trans ((tA rg_398).trans ((congrArg (fun x9 : MS => x9.2.1 15) eτ71).trans ((tA rg_397).trans (((hx65 15 rg_100).2.1).trans (((hx56 15 rg_100).2.1).trans (hT 15 rg_189 rg_369)))))))
      have C16 : (τ85).2.1 16 = (σ.2.1 16) := ((congrArg (fun x9 : MS => x9.2.1 16) eτ85).trans ((tA rg_400).trans ((congrArg (fun x9 : MS => x9.2.1 16) eτ71).trans ((tA rg_399).trans (((hx65 16 rg_129).2.1).trans (((hx56 16 rg_129).2.1).trans (hT 16 rg_193 rg_371)))))))
      have C17 : (τ85).2.1 17 = (σ.2.1 17) := ((congrArg (fun x9 : MS => x9.2.1 17) eτ85).trans ((tA rg_402).trans ((congrArg (fun x9 : MS => x9.2.1 17) eτ71).trans ((tA rg_401).trans (((hx65 17 rg_134).2.1).trans (((hx56 17 rg_134).2.1).trans (hT 17 rg_347 rg_373)))))))
      have C18 : (τ85).2.1 18 = (σ.2.1 18) := ((congrArg (fun x9 : MS => x9.2.1 18) eτ85).trans ((tA rg_404).trans ((congrArg (fun x9 : MS => x9.2.1 18) eτ71).trans ((tA rg_403).trans (((hx65 18 rg_140).2.1).trans (((hx56 18 rg_140).2.1).trans (hT 18 rg_323 rg_375)))))))
      have C19 : (τ85).2.1 19 = (σ.2.1 19) := ((congrArg (fun x9 : MS => x9.2.1 19) eτ85).trans ((tA rg_406).trans ((congrArg (fun x9 : MS => x9.2.1 19) eτ71).trans ((tA rg_405).trans (((hx65 19 rg_146).2.1).trans (((hx56 19 rg_146).2.1).trans (hT 19 rg_298 rg_377)))))))
      have C20 : (τ85).2.1 20 = (σ.2.1 20) := ((congrArg (fun x9 : MS => x9.2.1 20) eτ85).trans ((tA rg_408).trans ((congrArg (fun x9 : MS => x9.2.1 20) eτ71).trans ((tA rg_407).trans (((hx65 20 rg_152).2.1).trans (((hx56 20 rg_152).2.1).trans (hT 20 rg_269 rg_379)))))))
      have C21 : (τ85).2.1 21 = (σ.2.1 21) := ((congrArg (fun x9 : MS => x9.2.1 21) eτ85).trans ((tA rg_410).trans ((congrArg (fun x9 : MS => x9.2.1 21) eτ71).trans ((tA rg_409).trans (((hx65 21 rg_158).2.1).trans (((hx56 21 rg_158).2.1).trans (hT 21 rg_234 rg_381)))))))
      have C22 : (τ85).2.1 22 = (upd (σ.2.1 22) (Int32.toNatClampNeg ev) v2) := ((congrArg (fun x9 : MS => x9.2.1 22) eτ85).trans ((tA rg_412).trans ((congrArg (fun x9 : MS => x9.2.1 22) eτ71).trans ((tA rg_411).trans (((hx65 22 rg_164).2.1).trans (((hx56 22 rg_164).2.1).trans h22))))))
      have o20 : ev.toInt = 4 * (σ.1 30).toInt + (σ.2.1 13 (σ.1 30).toNatClampNeg).toInt := by omega
      exact pt_147 τ85 ev v2 _ _ _ hIτ85 Xτ85 Mτ85 Lτ85 (show ev.toInt = 4 * (σ.1 30).toInt + (σ.2.1 13 (σ.1 30).toNatClampNeg).toInt from o20) (tabE C11 C12 C13 C14 C15 C16 C17 C18 C19 C20 C21) C22 W86 hP hD hS (lv_sub hl [0, 1] rfl)
  have pt_34 : ∀ (n34 : Nat) (τ : MS) (ev : Int32) (v2 : Int32) (ov : Int32) (H : Heap) (locs : List Loc) (ls : Array Slot), (ev.toInt - ov.toInt).toNat < n34 → (Inv τ) → (eqx [6, 7, 8, 9, 10, 4, 5, 22, 23, 24, 13] τ σ) → (Mo τ σ) → (Lx τ σ) → (ev.toInt = 4 * (σ.1 30).toInt + (σ.2.1 13 (σ.1 30).toNatClampNeg).toInt) → (∀ p9, 11 ≤ p9 → p9 ≤ 21 → τ.2.1 p9 = σ.2.1 p9) → (τ.2.1 22 = upd (σ.2.1 22) (Int32.toNatClampNeg ev) v2) → (When τ (0 ≤ v2.toInt ∧ v2.toInt < (σ.2.1 12 (σ.1 30).toNatClampNeg).toInt)) → (0 ≤ ov.toInt) → va_P (dC, dI) vwCl (mW h ad cl τ) H → va_D A (mW h ad cl τ) → va_S A s.heap H locs → lv_has ls 3 [(0, .ref h), (1, .int ev), (2, .int ov)] → W p l e (headSpec vs_n_readEnd rm_n_readEnd).room s m #[Value.ref h] below meth c H locs 0 0 Q (F0 m 34 ls []) := by
    intro n34
    induction n34 with
    | zero => intro τ ev v2 ov H locs ls hn34 hIτ hxτ hmτ hgτ hev hT h22 hw0 hov hP hD hS hl; exact absurd hn34 (Nat.not_lt_zero _)
    | succ n34 ih34 =>
      intro τ ev v2 ov H locs ls hn34 hIτ hxτ hmτ hgτ hev hT h22 hw0 hov hP hD hS hl
      refine lv_iload_n hx hb dX12_readEnd_34 rfl (lv_at hl 2 rfl) ?_
      refine lv_iload_n hx hb dX12_readEnd_35 rfl (lv_at hl 1 rfl) ?_
      refine lv_icmp_ge (tgt := 76) hx hb dX12_readEnd_36 rfl (fun c87 => ?_) (fun c87 => ?_)
      · have tc87 := (show ev.toInt ≤ ov.toInt from ti_le rfl rfl c87)
        refine lv_aload_n hx hb dX12_readEnd_76 rfl (lv_at hl 0 rfl) ?_
        refine zy_i (va_runV (As := []) (rest := []) ⟨hx, hb, hml, hown, hts⟩ (n_isGood l dC dI h ad cl H.size τ  hIτ) (cwV 0 hts gd_n_readEnd_224_n_isGood rfl rfl rfl dd_n_isGood ⟨Nat.le_of_ble_eq_true rfl, Nat.le_of_ble_eq_true rfl⟩) (preV hP hK hD hE (ci := 12) (q0 := 0) rfl rfl) rfl rfl hl.1 rfl (lv_room (Nat.le_of_ble_eq_true rfl)) dX12_readEnd_77 ⟨Nat.le_of_ble_eq_true rfl, Nat.le_of_ble_eq_true rfl⟩) hD hS hA (fun z89 τ88 H locs hq hP hD hS => ?_)
        obtain ⟨rfl, f90⟩ := hq
        refine W.widen (k := 0) (n := 0) (Nat.le_of_ble_eq_true rfl) (Nat.le_of_ble_eq_true rfl) ?_
        refine lv_if_eq (tgt := 87) hx hb dX12_readEnd_80 rfl (fun c91 => ?_) (fun c91 => ?_)
        · have tc91 := (show z89.toInt = 0 from ti_eq rfl rg_11 c91)
          have C11 : (τ).2.1 11 = (σ.2.1 11) := (hT 11 rg_177 rg_234)
          have C12 : (τ).2.1 12 = (σ.2.1 12) := (hT 12 rg_173 rg_365)
          have C13 : (τ).2.1 13 = (σ.2.1 13) := (hT 13 rg_181 rg_362)
          have C14 : (τ).2.1 14 = (σ.2.1 14) := (hT 14 rg_185 rg_367)
          have C15 : (τ).2.1 15 = (σ.2.1 15) := (hT 15 rg_189 rg_369)
          have C16 : (τ).2.1 16 = (σ.2.1 16) := (hT 16 rg_193 rg_371)
          have C17 : (τ).2.1 17 = (σ.2.1 17) := (hT 17 rg_347 rg_373)
          have C18 : (τ).2.1 18 = (σ.2.1 18) := (hT 18 rg_323 rg_375)
          have C19 : (τ).2.1 19 = (σ.2.1 19) := (hT 19 rg_298 rg_377)
          have C20 : (τ).2.1 20 = (σ.2.1 20) := (hT 20 rg_269 rg_379)
          have C21 : (τ).2.1 21 = (σ.2.1 21) := (hT 21 rg_234 rg_381)
          have C22 : (τ).2.1 22 = (upd (σ.2.1 22) (Int32.toNatClampNeg ev) v2) := h22
          have o21 : ev.toInt = 4 * (σ.1 30).toInt + (σ.2.1 13 (σ.1 30).toNatClampNeg).toInt := by omega
          exact pt_87 τ ev v2 _ _ _ hIτ hxτ hmτ hgτ (show ev.toInt = 4 * (σ.1 30).toInt + (σ.2.1 13 (σ.1 30).toNatClampNeg).toInt from o21) (tabE C11 C12 C13 C14 C15 C16 C17 C18 C19 C20 C21) C22 hw0 hP hD hS (lv_sub hl [0, 1] rfl)
        · have tc91 := (show z89.toInt ≠ 0 from ti_ne rfl rg_11 c91)
          refine lv_aload_n hx hb dX12_readEnd_83 rfl (lv_at hl 0 rfl) ?_
          refine zy_v (va_runV (As := []) (rest := []) ⟨hx, hb, hml, hown, hts⟩ (n_next l dC dI h ad cl H.size τ  hIτ (Lx.es hgτ)) (cwV 0 hts gd_n_readEnd_228_n_next rfl rfl rfl dd_n_next ⟨Nat.le_of_ble_eq_true rfl, Nat.le_of_ble_eq_true rfl⟩) (preV hP hK hD hE (ci := 12) (q0 := 0) rfl rfl) rfl rfl hl.1 rfl (lv_room (Nat.le_of_ble_eq_true rfl)) dX12_readEnd_84 ⟨Nat.le_of_ble_eq_true rfl, Nat.le_of_ble_eq_true rfl⟩) hD hS hA (fun τ92 H locs hq hP hD hS => ?_)
          obtain ⟨hI94, hx95, f96, lx97⟩ := hq
          have Xτ92 : eqx [6, 7, 8, 9, 10, 4, 5, 22, 23, 24, 13] τ92 σ := eqx.tr hx95 hxτ rg_413
          have Mτ92 : Mo τ92 σ := Mo.tr (Mo.of hx95 rg_51) (fun h9 => hmτ h9)
          have Lτ92 : Lx τ92 σ := Lx.tr lx97 hgτ
          have W98 : When τ92 (0 ≤ v2.toInt ∧ v2.toInt < (σ.2.1 12 (σ.1 30).toNatClampNeg).toInt) := When.mo hw0 (Mo.of hx95 rg_51)
          refine W.widen (k := 0) (n := 0) (Nat.le_of_ble_eq_true rfl) (Nat.le_of_ble_eq_true rfl) ?_
          have C11 : (τ92).2.1 11 = (σ.2.1 11) := (((hx95 11 rg_414).2.1).trans (hT 11 rg_177 rg_234))
          have C12 : (τ92).2.1 12 = (σ.2.1 12) := (((hx95 12 rg_415).2.1).trans (hT 12 rg_173 rg_365))
          have C13 : (τ92).2.1 13 = (σ.2.1 13) := (((hx95 13 rg_416).2.1).trans (hT 13 rg_181 rg_362))
          have C14 : (τ92).2.1 14 = (σ.2.1 14) := (((hx95 14 rg_417).2.1).trans (hT 14 rg_185 rg_367))
          have C15 : (τ92).2.1 15 = (σ.2.1 15) := (((hx95 15 rg_418).2.1).trans (hT 15 rg_189 rg_369))
          have C16 : (τ92).2.1 16 = (σ.2.1 16) := (((hx95 16 rg_419).2.1).trans (hT 16 rg_193 rg_371))
          have C17 : (τ92).2.1 17 = (σ.2.1 17) := (((hx95 17 rg_420).2.1).trans (hT 17 rg_347 rg_373))
          have C18 : (τ92).2.1 18 = (σ.2.1 18) := (((hx95 18 rg_421).2.1).trans (hT 18 rg_323 rg_375))
          have C19 : (τ92).2.1 19 = (σ.2.1 19) := (((hx95 19 rg_422).2.1).trans (hT 19 rg_298 rg_377))
          have C20 : (τ92).2.1 20 = (σ.2.1 20) := (((hx95 20 rg_423).2.1).trans (hT 20 rg_269 rg_379))
          have C21 : (τ92).2.1 21 = (σ.2.1 21) := (((hx95 21 rg_424).2.1).trans (hT 21 rg_234 rg_381))
          have C22 : (τ92).2.1 22 = (upd (σ.2.1 22) (Int32.toNatClampNeg ev) v2) := (((hx95 22 rg_425).2.1).trans h22)
          have o22 : ev.toInt = 4 * (σ.1 30).toInt + (σ.2.1 13 (σ.1 30).toNatClampNeg).toInt := by omega
          exact pt_87 τ92 ev v2 _ _ _ hI94 Xτ92 Mτ92 Lτ92 (show ev.toInt = 4 * (σ.1 30).toInt + (σ.2.1 13 (σ.1 30).toNatClampNeg).toInt from o22) (tabE C11 C12 C13 C14 C15 C16 C17 C18 C19 C20 C21) C22 W98 hP hD hS (lv_sub hl [0, 1] rfl)
      · have tc87 := (show ov.toInt < ev.toInt from ti_nle rfl rfl c87)
        refine lv_aload_n hx hb dX12_readEnd_39 rfl (lv_at hl 0 rfl) ?_
        refine zy_i (va_runV (As := []) (rest := []) ⟨hx, hb, hml, hown, hts⟩ (n_isGood l dC dI h ad cl H.size τ  hIτ) (cwV 0 hts gd_n_readEnd_224_n_isGood rfl rfl rfl dd_n_isGood ⟨Nat.le_of_ble_eq_true rfl, Nat.le_of_ble_eq_true rfl⟩) (preV hP hK hD hE (ci := 12) (q0 := 0) rfl rfl) rfl rfl hl.1 rfl (lv_room (Nat.le_of_ble_eq_true rfl)) dX12_readEnd_40 ⟨Nat.le_of_ble_eq_true rfl, Nat.le_of_ble_eq_true rfl⟩) hD hS hA (fun z100 τ99 H locs hq hP hD hS => ?_)
        obtain ⟨rfl, f101⟩ := hq
        refine W.widen (k := 0) (n := 0) (Nat.le_of_ble_eq_true rfl) (Nat.le_of_ble_eq_true rfl) ?_
        refine lv_if_eq (tgt := 70) hx hb dX12_readEnd_43 rfl (fun c102 => ?_) (fun c102 => ?_)
        · have tc102 := (show z100.toInt = 0 from ti_eq rfl rg_11 c102)
          obtain ⟨z103, ez103⟩ : ∃ y : Int32, y = ov + 1 := ⟨_, rfl⟩
          have o23 : -2147483648 ≤ ov.toInt + 1 := by omega
          have o24 : ov.toInt + 1 ≤ 2147483647 := by omega
          have tz103 := ti_add ez103 rfl rg_18 o23 o24
          refine lv_iinc (v := z103) (lv' := [(2, .int z103), (0, .ref h), (1, .int ev)]) hx hb dX12_readEnd_70 hl (k := 2) rfl (iincp ez103 rg_6) (Nat.le_of_ble_eq_true rfl) rfl (fun ls hl => ?_)
          refine lv_goto (tgt := 34) hx hb dX12_readEnd_73 rfl ?_
          have C11 : (τ).2.1 11 = (σ.2.1 11) := (hT 11 rg_177 rg_234)
          have C12 : (τ).2.1 12 = (σ.2.1 12) := (hT 12 rg_173 rg_365)
          have C13 : (τ).2.1 13 = (σ.2.1 13) := (hT 13 rg_181 rg_362)
          have C14 : (τ).2.1 14 = (σ.2.1 14) := (hT 14 rg_185 rg_367)
          have C15 : (τ).2.1 15 = (σ.2.1 15) := (hT 15 rg_189 rg_369)
          have C16 : (τ).2.1 16 = (σ.2.1 16) := (hT 16 rg_193 rg_371)
          have C17 : (τ).2.1 17 = (σ.2.1 17) := (hT 17 rg_347 rg_373)
          have C18 : (τ).2.1 18 = (σ.2.1 18) := (hT 18 rg_323 rg_375)
          have C19 : (τ).2.1 19 = (σ.2.1 19) := (hT 19 rg_298 rg_377)
          have C20 : (τ).2.1 20 = (σ.2.1 20) := (hT 20 rg_269 rg_379)
          have C21 : (τ).2.1 21 = (σ.2.1 21) := (hT 21 rg_234 rg_381)
          have C22 : (τ).2.1 22 = (upd (σ.2.1 22) (Int32.toNatClampNeg ev) v2) := h22
          have o25 : (ev.toInt - z103.toInt).toNat < n34 := by omega
          have o26 : ev.toInt = 4 * (σ.1 30).toInt + (σ.2.1 13 (σ.1 30).toNatClampNeg).toInt := by omega
          have o27 : 0 ≤ z103.toInt := by omega
          exact ih34 τ ev v2 z103 _ _ _ (show (ev.toInt - z103.toInt).toNat < n34 from o25) hIτ hxτ hmτ hgτ (show ev.toInt = 4 * (σ.1 30).toInt + (σ.2.1 13 (σ.1 30).toNatClampNeg).toInt from o26) (tabE C11 C12 C13 C14 C15 C16 C17 C18 C19 C20 C21) C22 hw0 (show 0 ≤ z103.toInt from o27) hP hD hS (lv_sub hl [1, 2, 0] rfl)
        · have tc102 := (show z100.toInt ≠ 0 from ti_ne rfl rg_11 c102)
          refine lv_aload_n hx hb dX12_readEnd_46 rfl (lv_at hl 0 rfl) ?_
          refine va_get (D := (dC, dI)) (ci := 12) (v := .ref (ad 22)) (C := RX12) (T := TX12) (N := 59) hx hb hts hin12 hown hK hP 0 rfl rfl 22 (Nat.le_of_ble_eq_true rfl) (ho (.fieldLink RX12 54 "NearEnoughModel" "eStep" "[I") (List.mem_of_getElem? (i := 8) rfl)) (fun _ h9 => h9) rfl dX12_readEnd_47 ?_
          refine lv_iload_n hx hb dX12_readEnd_50 rfl (lv_at hl 2 rfl) ?_
          have o28 : 0 ≤ ov.toInt := by omega
          have o29 : ov.toInt < ((8 : Nat) : Int) := by omega
          refine va_iald hx hb hK hP 14 13 rfl rfl (ti_inx o28 o29) dX12_readEnd_51 ?_
          refine lv_topi (fun z104 ez104 => ?_)
          have bz104 : (-1) ≤ z104.toInt ∧ z104.toInt ≤ 11 := by rw [ez104]; exact (hIτ.2 22) _ (cl_lt (n := 8) o28 o29)
          refine lv_aload_n hx hb dX12_readEnd_52 rfl (lv_at hl 0 rfl) ?_
          refine va_get (D := (dC, dI)) (ci := 12) (v := .ref (ad 22)) (C := RX12) (T := TX12) (N := 59) hx hb hts hin12 hown hK hP 0 rfl rfl 22 (Nat.le_of_ble_eq_true rfl) (ho (.fieldLink RX12 54 "NearEnoughModel" "eStep" "[I") (List.mem_of_getElem? (i := 8) rfl)) (fun _ h9 => h9) rfl dX12_readEnd_53 ?_
          refine lv_iload_n hx hb dX12_readEnd_56 rfl (lv_at hl 1 rfl) ?_
          have o30 : 0 ≤ ev.toInt := by omega
          have o31 : ev.toInt < ((8 : Nat) : Int) := by omega
          refine va_iald hx hb hK hP 14 13 rfl rfl (ti_inx o30 o31) dX12_readEnd_57 ?_
          refine lv_topi (fun z105 ez105 => ?_)
          have bz105 : (-1) ≤ z105.toInt ∧ z105.toInt ≤ 11 := by rw [ez105]; exact (hIτ.2 22) _ (cl_lt (n := 8) o30 o31)
          refine lv_icmp_ne (tgt := 70) hx hb dX12_readEnd_58 rfl (fun c106 => ?_) (fun c106 => ?_)
          · have tc106 := (show z104.toInt ≠ z105.toInt from ti_ne rfl rfl c106)
            obtain ⟨z107, ez107⟩ : ∃ y : Int32, y = ov + 1 := ⟨_, rfl⟩
            have o32 : -2147483648 ≤ ov.toInt + 1 := by omega
            have o33 : ov.toInt + 1 ≤ 2147483647 := by omega
            have tz107 := ti_add ez107 rfl rg_18 o32 o33
            refine lv_iinc (v := z107) (lv' := [(2, .int z107), (0, .ref h), (1, .int ev)]) hx hb dX12_readEnd_70 hl (k := 2) rfl (iincp ez107 rg_6) (Nat.le_of_ble_eq_true rfl) rfl (fun ls hl => ?_)
            refine lv_goto (tgt := 34) hx hb dX12_readEnd_73 rfl ?_
            have C11 : (τ).2.1 11 = (σ.2.1 11) := (hT 11 rg_177 rg_234)
            have C12 : (τ).2.1 12 = (σ.2.1 12) := (hT 12 rg_173 rg_365)
            have C13 : (τ).2.1 13 = (σ.2.1 13) := (hT 13 rg_181 rg_362)
            have C14 : (τ).2.1 14 = (σ.2.1 14) := (hT 14 rg_185 rg_367)
            have C15 : (τ).2.1 15 = (σ.2.1 15) := (hT 15 rg_189 rg_369)
            have C16 : (τ).2.1 16 = (σ.2.1 16) := (hT 16 rg_193 rg_371)
            have C17 : (τ).2.1 17 = (σ.2.1 17) := (hT 17 rg_347 rg_373)
            have C18 : (τ).2.1 18 = (σ.2.1 18) := (hT 18 rg_323 rg_375)
            have C19 : (τ).2.1 19 = (σ.2.1 19) := (hT 19 rg_298 rg_377)
            have C20 : (τ).2.1 20 = (σ.2.1 20) := (hT 20 rg_269 rg_379)
            have C21 : (τ).2.1 21 = (σ.2.1 21) := (hT 21 rg_234 rg_381)
            have C22 : (τ).2.1 22 = (upd (σ.2.1 22) (Int32.toNatClampNeg ev) v2) := h22
            have o34 : (ev.toInt - z107.toInt).toNat < n34 := by omega
            have o35 : ev.toInt = 4 * (σ.1 30).toInt + (σ.2.1 13 (σ.1 30).toNatClampNeg).toInt := by omega
            have o36 : 0 ≤ z107.toInt := by omega
            exact ih34 τ ev v2 z107 _ _ _ (show (ev.toInt - z107.toInt).toNat < n34 from o34) hIτ hxτ hmτ hgτ (show ev.toInt = 4 * (σ.1 30).toInt + (σ.2.1 13 (σ.1 30).toNatClampNeg).toInt from o35) (tabE C11 C12 C13 C14 C15 C16 C17 C18 C19 C20 C21) C22 hw0 (show 0 ≤ z107.toInt from o36) hP hD hS (lv_sub hl [1, 2, 0] rfl)
          · have tc106 := (show z104.toInt = z105.toInt from ti_eq rfl rfl c106)
            refine lv_aload_n hx hb dX12_readEnd_61 rfl (lv_at hl 0 rfl) ?_
            refine lv_iconst (v := 3) hx hb dX12_readEnd_62 rg_16 ?_
            refine lv_aload_n hx hb dX12_readEnd_63 rfl (lv_at hl 0 rfl) ?_
            refine va_get (D := (dC, dI)) (ci := 12) (v := .int (τ.1 6)) (C := RX12) (T := TX12) (N := 59) hx hb hts hin12 hown hK hP 0 rfl rfl 6 (Nat.le_of_ble_eq_true rfl) (ho (.fieldLink RX12 192 "NearEnoughModel" "at" "I") (List.mem_of_getElem? (i := 9) rfl)) (fun _ h9 => h9) rfl dX12_readEnd_64 ?_
            have bτ_6 : 0 ≤ (τ.1 6).toInt ∧ (τ.1 6).toInt ≤ 1000 := hIτ.1 6
            have kk108 : (3 : Int32).toInt = 3 := rg_17
            have o37 : 0 ≤ (3 : Int32).toInt := by omega
            have o38 : (3 : Int32).toInt ≤ 7 := by omega
            refine zy_v (va_runV (As := [.int 3, .int (τ.1 6)]) (rest := []) ⟨hx, hb, hml, hown, hts⟩ (n_fails l dC dI h ad cl H.size τ 3 (τ.1 6) hIτ ⟨o37, o38⟩) (cwV 2 hts gd_n_readEnd_220_n_fails rfl rfl rfl dd_n_fails ⟨Nat.le_of_ble_eq_true rfl, Nat.le_of_ble_eq_true rfl⟩) (preV hP hK hD hE (ci := 12) (q0 := 0) rfl rfl) rfl rfl hl.1 rfl (lv_room (Nat.le_of_ble_eq_true rfl)) dX12_readEnd_67 ⟨Nat.le_of_ble_eq_true rfl, Nat.le_of_ble_eq_true rfl⟩) hD hS hA (fun τ109 H locs hq hP hD hS => ?_)
            obtain ⟨hI111, hx112, f113, mo114⟩ := hq
            have Xτ109 : eqx [6, 7, 8, 9, 10, 4, 5, 22, 23, 24, 13] τ109 σ := eqx.tr hx112 hxτ rg_426
            have Mτ109 : Mo τ109 σ := Mo.tr mo114 (fun h9 => hmτ h9)
            have Lτ109 : Lx τ109 σ := Lx.tr (Lx.of hx112 (Lx.es hgτ) rg_47 rg_48 rg_49) hgτ
            have W115 : When τ109 (0 ≤ v2.toInt ∧ v2.toInt < (σ.2.1 12 (σ.1 30).toNatClampNeg).toInt) := When.mo hw0 mo114
            refine W.widen (k := 0) (n := 0) (Nat.le_of_ble_eq_true rfl) (Nat.le_of_ble_eq_true rfl) ?_
            obtain ⟨z116, ez116⟩ : ∃ y : Int32, y = ov + 1 := ⟨_, rfl⟩
            have o39 : -2147483648 ≤ ov.toInt + 1 := by omega
            have o40 : ov.toInt + 1 ≤ 2147483647 := by omega
            have tz116 := ti_add ez116 rfl rg_18 o39 o40
            refine lv_iinc (v := z116) (lv' := [(2, .int z116), (0, .ref h), (1, .int ev)]) hx hb dX12_readEnd_70 hl (k := 2) rfl (iincp ez116 rg_6) (Nat.le_of_ble_eq_true rfl) rfl (fun ls hl => ?_)
            refine lv_goto (tgt := 34) hx hb dX12_readEnd_73 rfl ?_
            have C11 : (τ109).2.1 11 = (σ.2.1 11) := (((hx112 11 rg_103).2.1).trans (hT 11 rg_177 rg_234))
            have C12 : (τ109).2.1 12 = (σ.2.1 12) := (((hx112 12 rg_109).2.1).trans (hT 12 rg_173 rg_365))
            have C13 : (τ109).2.1 13 = (σ.2.1 13) := (((hx112 13 rg_115).2.1).trans (hT 13 rg_181 rg_362))
            have C14 : (τ109).2.1 14 = (σ.2.1 14) := (((hx112 14 rg_121).2.1).trans (hT 14 rg_185 rg_367))
            have C15 : (τ109).2.1 15 = (σ.2.1 15) := (((hx112 15 rg_99).2.1).trans (hT 15 rg_189 rg_369))
            have C16 : (τ109).2.1 16 = (σ.2.1 16) := (((hx112 16 rg_128).2.1).trans (hT 16 rg_193 rg_371))
            have C17 : (τ109).2.1 17 = (σ.2.1 17) := (((hx112 17 rg_133).2.1).trans (hT 17 rg_347 rg_373))
            have C18 : (τ109).2.1 18 = (σ.2.1 18) := (((hx112 18 rg_139).2.1).trans (hT 18 rg_323 rg_375))
            have C19 : (τ109).2.1 19 = (σ.2.1 19) := (((hx112 19 rg_145).2.1).trans (hT 19 rg_298 rg_377))
            have C20 : (τ109).2.1 20 = (σ.2.1 20) := (((hx112 20 rg_151).2.1).trans (hT 20 rg_269 rg_379))
            have C21 : (τ109).2.1 21 = (σ.2.1 21) := (((hx112 21 rg_157).2.1).trans (hT 21 rg_234 rg_381))
            have C22 : (τ109).2.1 22 = (upd (σ.2.1 22) (Int32.toNatClampNeg ev) v2) := (((hx112 22 rg_163).2.1).trans h22)
            have o41 : (ev.toInt - z116.toInt).toNat < n34 := by omega
            have o42 : ev.toInt = 4 * (σ.1 30).toInt + (σ.2.1 13 (σ.1 30).toNatClampNeg).toInt := by omega
            have o43 : 0 ≤ z116.toInt := by omega
            exact ih34 τ109 ev v2 z116 _ _ _ (show (ev.toInt - z116.toInt).toNat < n34 from o41) hI111 Xτ109 Mτ109 Lτ109 (show ev.toInt = 4 * (σ.1 30).toInt + (σ.2.1 13 (σ.1 30).toNatClampNeg).toInt from o42) (tabE C11 C12 C13 C14 C15 C16 C17 C18 C19 C20 C21) C22 W115 (show 0 ≤ z116.toInt from o43) hP hD hS (lv_sub hl [1, 2, 0] rfl)
  refine zH (A := A) (ws := mW h ad cl σ) (fun H hP hS => ?_) hP
  refine lv_iconst (v := 4) hx hb dX12_readEnd_0 rg_31 ?_
  refine lv_aload_n hx hb dX12_readEnd_1 rfl (lv_at hl 0 rfl) ?_
  refine va_get (D := (dC, dI)) (ci := 12) (v := .int (σ.1 30)) (C := RX12) (T := TX12) (N := 59) hx hb hts hin12 hown hK hP 0 rfl rfl 30 (Nat.le_of_ble_eq_true rfl) (ho (.fieldLink RX12 243 "NearEnoughModel" "rb" "I") (List.mem_of_getElem? (i := 1) rfl)) (fun _ h9 => h9) rfl dX12_readEnd_2 ?_
  have bσ_30 : 0 ≤ (σ.1 30).toInt ∧ (σ.1 30).toInt ≤ 1 := hI.1 30
  refine lv_imul hx hb dX12_readEnd_5 ?_
  refine lv_topi (fun z117 ez117 => ?_)
  have o44 : -2147483648 ≤ 4 * (σ.1 30).toInt := by omega
  have o45 : 4 * (σ.1 30).toInt ≤ 2147483647 := by omega
  have tz117 : z117.toInt = 4 * (σ.1 30).toInt := ti_mul ez117 rg_32 rfl o44 o45
  refine lv_aload_n hx hb dX12_readEnd_6 rfl (lv_at hl 0 rfl) ?_
  refine va_get (D := (dC, dI)) (ci := 12) (v := .ref (ad 13)) (C := RX12) (T := TX12) (N := 59) hx hb hts hin12 hown hK hP 0 rfl rfl 13 (Nat.le_of_ble_eq_true rfl) (ho (.fieldLink RX12 27 "NearEnoughModel" "endMany" "[I") (List.mem_of_getElem? (i := 0) rfl)) (fun _ h9 => h9) rfl dX12_readEnd_7 ?_
  refine lv_aload_n hx hb dX12_readEnd_10 rfl (lv_at hl 0 rfl) ?_
  refine va_get (D := (dC, dI)) (ci := 12) (v := .int (σ.1 30)) (C := RX12) (T := TX12) (N := 59) hx hb hts hin12 hown hK hP 0 rfl rfl 30 (Nat.le_of_ble_eq_true rfl) (ho (.fieldLink RX12 243 "NearEnoughModel" "rb" "I") (List.mem_of_getElem? (i := 1) rfl)) (fun _ h9 => h9) rfl dX12_readEnd_11 ?_
  have bσ_30 : 0 ≤ (σ.1 30).toInt ∧ (σ.1 30).toInt ≤ 1 := hI.1 30
  have o46 : 0 ≤ (σ.1 30).toInt := by omega
  have o47 : (σ.1 30).toInt < ((2 : Nat) : Int) := by omega
  refine va_iald hx hb hK hP 5 4 rfl rfl (ti_inx o46 o47) dX12_readEnd_14 ?_
  refine lv_topi (fun z118 ez118 => ?_)
  have gz118 : z118.toInt = ((σ.2.1 13) (Int32.toNatClampNeg (σ.1 30))).toInt := congrArg Int32.toInt (ez118.trans (congrFun rfl (Int32.toNatClampNeg (σ.1 30))))
  have bz118 : 0 ≤ z118.toInt ∧ z118.toInt ≤ 4 := by rw [ez118]; exact (hI.2 13) _ (cl_lt (n := 2) o46 o47)
  refine lv_iadd hx hb dX12_readEnd_15 ?_
  refine lv_topi (fun z119 ez119 => ?_)
  have o48 : -2147483648 ≤ z117.toInt + z118.toInt := by omega
  have o49 : z117.toInt + z118.toInt ≤ 2147483647 := by omega
  have tz119 : z119.toInt = z117.toInt + z118.toInt := ti_add ez119 rfl rfl o48 o49
  refine lv_istore_n (lv' := [(1, .int z119), (0, .ref h)]) hx hb dX12_readEnd_16 rfl hl (Nat.le_of_ble_eq_true rfl) rfl (fun ls hl => ?_)
  refine lv_aload_n hx hb dX12_readEnd_17 rfl (lv_at hl 1 rfl) ?_
  refine va_get (D := (dC, dI)) (ci := 12) (v := .ref (ad 22)) (C := RX12) (T := TX12) (N := 59) hx hb hts hin12 hown hK hP 0 rfl rfl 22 (Nat.le_of_ble_eq_true rfl) (ho (.fieldLink RX12 54 "NearEnoughModel" "eStep" "[I") (List.mem_of_getElem? (i := 8) rfl)) (fun _ h9 => h9) rfl dX12_readEnd_18 ?_
  refine lv_iload_n hx hb dX12_readEnd_21 rfl (lv_at hl 0 rfl) ?_
  refine lv_aload_n hx hb dX12_readEnd_22 rfl (lv_at hl 1 rfl) ?_
  refine zy_i (va_runV (As := []) (rest := [.int z119, .ref (ad 22)]) ⟨hx, hb, hml, hown, hts⟩ (n_theStep l dC dI h ad cl H.size σ  hI) (cwV 0 hts gd_n_readEnd_298_n_theStep rfl rfl rfl dd_n_theStep ⟨Nat.le_of_ble_eq_true rfl, Nat.le_of_ble_eq_true rfl⟩) (preV hP hK hD hE (ci := 12) (q0 := 0) rfl rfl) rfl rfl hl.1 rfl (lv_room (Nat.le_of_ble_eq_true rfl)) dX12_readEnd_23 ⟨Nat.le_of_ble_eq_true rfl, Nat.le_of_ble_eq_true rfl⟩) hD hS hA (fun z121 τ120 H locs hq hP hD hS => ?_)
  obtain ⟨hI122, hx123, f124, f125, f126, mo127⟩ := hq
  have Xτ120 : eqx [6, 7, 8, 9, 10, 4, 5, 22, 23, 24, 13] τ120 σ := eqx.tr hx123 eqx.rf rg_426
  have Mτ120 : Mo τ120 σ := Mo.tr mo127 (fun h9 => Mo.rf h9)
  have Lτ120 : Lx τ120 σ := Lx.tr (Lx.of hx123 (Lx.es (Lx.rf hes)) rg_47 rg_48 rg_49) (Lx.rf hes)
  have W128 : When τ120 (0 ≤ z121.toInt ∧ z121.toInt < ((σ.2.1 12) ((σ.1 30)).toNatClampNeg).toInt) := When.cv f126 rfl rfl
  refine W.widen (k := 0) (n := 0) (Nat.le_of_ble_eq_true rfl) (Nat.le_of_ble_eq_true rfl) ?_
  have o50 : 0 ≤ z119.toInt := by omega
  have o51 : z119.toInt < ((8 : Nat) : Int) := by omega
  refine va_iast hx hb hK hP hD hS 14 13 rfl rfl (ti_inx o50 o51) dX12_readEnd_26 (fun H locs hP hD hS => ?_)
  rw [wS22] at hP hD
  obtain ⟨τ129, eτ129⟩ : ∃ x9 : MS, x9 = sA τ120 22 (upd (τ120.2.1 22) (Int32.toNatClampNeg z119) z121) := ⟨_, rfl⟩
  have hP : va_P (dC, dI) vwCl (mW h ad cl τ129) H := by rw [eτ129]; exact hP
  have hD : va_D A (mW h ad cl τ129) := by rw [eτ129]; exact hD
  have o52 : ((-1) : Int) ≤ (z121 : Int32).toInt := by omega
  have o53 : (z121 : Int32).toInt ≤ 11 := by omega
  have hIτ129 : Inv τ129 := by rw [eτ129]; exact (Inv_sA1 hI122 (rgu (hI122.2 22) (show ((-1) : Int) ≤ (z121 : Int32).toInt ∧ (z121 : Int32).toInt ≤ 11 from ⟨o52, o53⟩)))
  have Xτ129 : eqx [6, 7, 8, 9, 10, 4, 5, 22, 23, 24, 13] τ129 σ := (eqx.eq eτ129 (eqx.sA Xτ120 rg_427))
  have Mτ129 : Mo τ129 σ := Mo.eq eτ129 (fun h9 => Mτ120 h9)
  have Lτ129 : Lx τ129 σ := Lx.eq eτ129 Lτ120
  have W130 : When τ129 (0 ≤ z121.toInt ∧ z121.toInt < ((σ.2.1 12) ((σ.1 30)).toNatClampNeg).toInt) := When.mo W128 (Mo.eq eτ129 (fun h9 => h9))
  refine lv_iconst (v := 4) hx hb dX12_readEnd_27 rg_31 ?_
  refine lv_aload_n hx hb dX12_readEnd_28 rfl (lv_at hl 1 rfl) ?_
  refine va_get (D := (dC, dI)) (ci := 12) (v := .int (τ129.1 30)) (C := RX12) (T := TX12) (N := 59) hx hb hts hin12 hown hK hP 0 rfl rfl 30 (Nat.le_of_ble_eq_true rfl) (ho (.fieldLink RX12 243 "NearEnoughModel" "rb" "I") (List.mem_of_getElem? (i := 1) rfl)) (fun _ h9 => h9) rfl dX12_readEnd_29 ?_
  refine zi (v := (σ.1 30)) (show τ129.1 30 = (σ.1 30) from (congrArg (fun x9 : MS => x9.1 30) eτ129).trans (show τ120.1 30 = (σ.1 30) from ((hx123 30 rg_91).1).trans rfl)) ?_
  have bb131 : 0 ≤ (σ.1 30).toInt ∧ (σ.1 30).toInt ≤ 1 := by have h9 := hIτ129.1 30; rw [show (τ129.1 30) = (σ.1 30) from (show τ129.1 30 = (σ.1 30) from (congrArg (fun x9 : MS => x9.1 30) eτ129).trans (show τ120.1 30 = (σ.1 30) from ((hx123 30 rg_91).1).trans rfl))] at h9; exact h9
  refine lv_imul hx hb dX12_readEnd_32 ?_
  refine lv_topi (fun z132 ez132 => ?_)
  have tz132 : z132.toInt = 4 * (σ.1 30).toInt := ti_mul ez132 rg_32 rfl o44 o45
  refine lv_istore_n (lv' := [(2, .int z132), (1, .int z119), (0, .ref h)]) hx hb dX12_readEnd_33 rfl hl (Nat.le_of_ble_eq_true rfl) rfl (fun ls hl => ?_)
  have C11 : (τ129).2.1 11 = (σ.2.1 11) := ((congrArg (fun x9 : MS => x9.2.1 11) eτ129).trans ((tA rg_428).trans (((hx123 11 rg_103).2.1).trans rfl)))
  have C12 : (τ129).2.1 12 = (σ.2.1 12) := ((congrArg (fun x9 : MS => x9.2.1 12) eτ129).trans ((tA rg_429).trans (((hx123 12 rg_109).2.1).trans rfl)))
  have C13 : (τ129).2.1 13 = (σ.2.1 13) := ((congrArg (fun x9 : MS => x9.2.1 13) eτ129).trans ((tA rg_430).trans (((hx123 13 rg_115).2.1).trans rfl)))
  have C14 : (τ129).2.1 14 = (σ.2.1 14) := ((congrArg (fun x9 : MS => x9.2.1 14) eτ129).trans ((tA rg_431).trans (((hx123 14 rg_121).2.1).trans rfl)))
  have C15 : (τ129).2.1 15 = (σ.2.1 15) := ((congrArg (fun x9 : MS => x9.2.1 15) eτ129).trans ((tA rg_432).trans (((hx123 15 rg_99).2.1).trans rfl)))
  have C16 : (τ129).2.1 16 = (σ.2.1 16) := ((congrArg (fun x9 : MS => x9.2.1 16) eτ129).trans ((tA rg_433).trans (((hx123 16 rg_128).2.1).trans rfl)))
  have C17 : (τ129).2.1 17 = (σ.2.1 17) := ((congrArg (fun x9 : MS => x9.2.1 17) eτ129).trans ((tA rg_434).trans (((hx123 17 rg_133).2.1).trans rfl)))
  have C18 : (τ129).2.1 18 = (σ.2.1 18) := ((congrArg (fun x9 : MS => x9.2.1 18) eτ129).trans ((tA rg_435).trans (((hx123 18 rg_139).2.1).trans rfl)))
  have C19 : (τ129).2.1 19 = (σ.2.1 19) := ((congrArg (fun x9 : MS => x9.2.1 19) eτ129).trans ((tA rg_436).trans (((hx123 19 rg_145).2.1).trans rfl)))
  have C20 : (τ129).2.1 20 = (σ.2.1 20) := ((congrArg (fun x9 : MS => x9.2.1 20) eτ129).trans ((tA rg_437).trans (((hx123 20 rg_151).2.1).trans rfl)))
  have C21 : (τ129).2.1 21 = (σ.2.1 21) := ((congrArg (fun x9 : MS => x9.2.1 21) eτ129).trans ((tA rg_438).trans (((hx123 21 rg_157).2.1).trans rfl)))
  have C22 : (τ129).2.1 22 = (upd (σ.2.1 22) (Int32.toNatClampNeg z119) z121) := ((congrArg (fun x9 : MS => x9.2.1 22) eτ129).trans (tAe.trans (congrArg (fun f9 => (upd f9 (Int32.toNatClampNeg z119) z121)) (((hx123 22 rg_163).2.1).trans rfl))))
  have o54 : z119.toInt = 4 * (σ.1 30).toInt + (σ.2.1 13 (σ.1 30).toNatClampNeg).toInt := by omega
  have o55 : 0 ≤ z132.toInt := by omega
  exact pt_34 _ τ129 z119 z121 z132 _ _ _ (Nat.lt_succ_self _) hIτ129 Xτ129 Mτ129 Lτ129 (show z119.toInt = 4 * (σ.1 30).toInt + (σ.2.1 13 (σ.1 30).toNatClampNeg).toInt from o54) (tabE C11 C12 C13 C14 C15 C16 C17 C18 C19 C20 C21) C22 W130 (show 0 ≤ z132.toInt from o55) hP hD hS (lv_sub hl [2, 1, 0] rfl)

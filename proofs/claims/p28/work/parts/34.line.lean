theorem dX12_readLine_128 : decode cX12_readLine 128 = .ok (.aload_n 0, 1) := by decide +kernel
theorem dX12_readLine_129 : decode cX12_readLine 129 = .ok (.aload_n 0, 1) := by decide +kernel
theorem dX12_readLine_130 : decode cX12_readLine 130 = .ok (.bipush 59, 2) := by decide +kernel
theorem dX12_readLine_132 : decode cX12_readLine 132 = .ok (.invokevirtual 234, 3) := by decide +kernel
theorem dX12_readLine_135 : decode cX12_readLine 135 = .ok (.invokevirtual 278, 3) := by decide +kernel
theorem dX12_readLine_138 : decode cX12_readLine 138 = .ok (.return_, 1) := by decide +kernel
theorem dX12_readLine_89 : decode cX12_readLine 89 = .ok (.aload_n 0, 1) := by decide +kernel
theorem dX12_readLine_90 : decode cX12_readLine 90 = .ok (.invokevirtual 224, 3) := by decide +kernel
theorem dX12_readLine_93 : decode cX12_readLine 93 = .ok (.ifCond .ne 4, 3) := by decide +kernel
theorem dX12_readLine_97 : decode cX12_readLine 97 = .ok (.aload_n 0, 1) := by decide +kernel
theorem dX12_readLine_98 : decode cX12_readLine 98 = .ok (.invokevirtual 228, 3) := by decide +kernel
theorem dX12_readLine_101 : decode cX12_readLine 101 = .ok (.iload_n 1, 1) := by decide +kernel
theorem dX12_readLine_102 : decode cX12_readLine 102 = .ok (.ifCond .eq 10, 3) := by decide +kernel
theorem dX12_readLine_112 : decode cX12_readLine 112 = .ok (.iload_n 2, 1) := by decide +kernel
theorem dX12_readLine_113 : decode cX12_readLine 113 = .ok (.ifCond .eq 10, 3) := by decide +kernel
theorem dX12_readLine_123 : decode cX12_readLine 123 = .ok (.aload_n 0, 1) := by decide +kernel
theorem dX12_readLine_124 : decode cX12_readLine 124 = .ok (.iload_n 3, 1) := by decide +kernel
theorem dX12_readLine_125 : decode cX12_readLine 125 = .ok (.invokevirtual 274, 3) := by decide +kernel
theorem dX12_readLine_116 : decode cX12_readLine 116 = .ok (.aload_n 0, 1) := by decide +kernel
theorem dX12_readLine_117 : decode cX12_readLine 117 = .ok (.invokevirtual 271, 3) := by decide +kernel
theorem dX12_readLine_120 : decode cX12_readLine 120 = .ok (.goto 8, 3) := by decide +kernel
theorem dX12_readLine_105 : decode cX12_readLine 105 = .ok (.aload_n 0, 1) := by decide +kernel
theorem dX12_readLine_106 : decode cX12_readLine 106 = .ok (.invokevirtual 268, 3) := by decide +kernel
theorem dX12_readLine_109 : decode cX12_readLine 109 = .ok (.goto 19, 3) := by decide +kernel
theorem dX12_readLine_96 : decode cX12_readLine 96 = .ok (.return_, 1) := by decide +kernel
theorem dX12_readLine_85 : decode cX12_readLine 85 = .ok (.aload_n 0, 1) := by decide +kernel
theorem dX12_readLine_86 : decode cX12_readLine 86 = .ok (.invokevirtual 231, 3) := by decide +kernel
theorem dX12_readLine_0 : decode cX12_readLine 0 = .ok (.aload_n 0, 1) := by decide +kernel
theorem dX12_readLine_1 : decode cX12_readLine 1 = .ok (.ldc2_w 143, 3) := by decide +kernel
theorem dX12_readLine_4 : decode cX12_readLine 4 = .ok (.invokevirtual 261, 3) := by decide +kernel
theorem dX12_readLine_7 : decode cX12_readLine 7 = .ok (.istore_n 1, 1) := by decide +kernel
theorem dX12_readLine_8 : decode cX12_readLine 8 = .ok (.aload_n 0, 1) := by decide +kernel
theorem dX12_readLine_9 : decode cX12_readLine 9 = .ok (.ldc2_w 179, 3) := by decide +kernel
theorem dX12_readLine_12 : decode cX12_readLine 12 = .ok (.invokevirtual 261, 3) := by decide +kernel
theorem dX12_readLine_15 : decode cX12_readLine 15 = .ok (.istore_n 2, 1) := by decide +kernel
theorem dX12_readLine_16 : decode cX12_readLine 16 = .ok (.aload_n 0, 1) := by decide +kernel
theorem dX12_readLine_17 : decode cX12_readLine 17 = .ok (.invokevirtual 264, 3) := by decide +kernel
theorem dX12_readLine_20 : decode cX12_readLine 20 = .ok (.istore_n 3, 1) := by decide +kernel
theorem dX12_readLine_21 : decode cX12_readLine 21 = .ok (.iload_n 1, 1) := by decide +kernel
theorem dX12_readLine_22 : decode cX12_readLine 22 = .ok (.ifCond .ne 11, 3) := by decide +kernel
theorem dX12_readLine_33 : decode cX12_readLine 33 = .ok (.iload_n 1, 1) := by decide +kernel
theorem dX12_readLine_34 : decode cX12_readLine 34 = .ok (.ifCond .eq 16, 3) := by decide +kernel
theorem dX12_readLine_50 : decode cX12_readLine 50 = .ok (.iload_n 2, 1) := by decide +kernel
theorem dX12_readLine_51 : decode cX12_readLine 51 = .ok (.ifCond .eq 16, 3) := by decide +kernel
theorem dX12_readLine_67 : decode cX12_readLine 67 = .ok (.iload_n 3, 1) := by decide +kernel
theorem dX12_readLine_68 : decode cX12_readLine 68 = .ok (.ifCond .lt 21, 3) := by decide +kernel
theorem dX12_readLine_71 : decode cX12_readLine 71 = .ok (.aload_n 0, 1) := by decide +kernel
theorem dX12_readLine_72 : decode cX12_readLine 72 = .ok (.getfield 24, 3) := by decide +kernel
theorem dX12_readLine_75 : decode cX12_readLine 75 = .ok (.aload_n 0, 1) := by decide +kernel
theorem dX12_readLine_76 : decode cX12_readLine 76 = .ok (.getfield 243, 3) := by decide +kernel
theorem dX12_readLine_79 : decode cX12_readLine 79 = .ok (.iaload, 1) := by decide +kernel
theorem dX12_readLine_80 : decode cX12_readLine 80 = .ok (.bipush 12, 2) := by decide +kernel
theorem dX12_readLine_82 : decode cX12_readLine 82 = .ok (.if_icmp .ne 7, 3) := by decide +kernel
theorem dX12_readLine_54 : decode cX12_readLine 54 = .ok (.aload_n 0, 1) := by decide +kernel
theorem dX12_readLine_55 : decode cX12_readLine 55 = .ok (.getfield 27, 3) := by decide +kernel
theorem dX12_readLine_58 : decode cX12_readLine 58 = .ok (.aload_n 0, 1) := by decide +kernel
theorem dX12_readLine_59 : decode cX12_readLine 59 = .ok (.getfield 243, 3) := by decide +kernel
theorem dX12_readLine_62 : decode cX12_readLine 62 = .ok (.iaload, 1) := by decide +kernel
theorem dX12_readLine_63 : decode cX12_readLine 63 = .ok (.iconst 4, 1) := by decide +kernel
theorem dX12_readLine_64 : decode cX12_readLine 64 = .ok (.if_icmp .eq 21, 3) := by decide +kernel
theorem dX12_readLine_37 : decode cX12_readLine 37 = .ok (.aload_n 0, 1) := by decide +kernel
theorem dX12_readLine_38 : decode cX12_readLine 38 = .ok (.getfield 20, 3) := by decide +kernel
theorem dX12_readLine_41 : decode cX12_readLine 41 = .ok (.aload_n 0, 1) := by decide +kernel
theorem dX12_readLine_42 : decode cX12_readLine 42 = .ok (.getfield 243, 3) := by decide +kernel
theorem dX12_readLine_45 : decode cX12_readLine 45 = .ok (.iaload, 1) := by decide +kernel
theorem dX12_readLine_46 : decode cX12_readLine 46 = .ok (.iconst 2, 1) := by decide +kernel
theorem dX12_readLine_47 : decode cX12_readLine 47 = .ok (.if_icmp .eq 38, 3) := by decide +kernel
theorem dX12_readLine_25 : decode cX12_readLine 25 = .ok (.iload_n 2, 1) := by decide +kernel
theorem dX12_readLine_26 : decode cX12_readLine 26 = .ok (.ifCond .ne 7, 3) := by decide +kernel
theorem dX12_readLine_29 : decode cX12_readLine 29 = .ok (.iload_n 3, 1) := by decide +kernel
theorem dX12_readLine_30 : decode cX12_readLine 30 = .ok (.ifCond .lt 55, 3) := by decide +kernel
theorem rg_439 : ∀ q, q ∈ [6, 7, 8, 9, 10, 4, 5] → q ∈ [6, 7, 8, 9, 10, 4, 5, 25, 14, 15, 16, 11, 17, 18, 19, 20, 21, 27, 28, 26, 12, 22, 23, 24, 13] := by decide
theorem rg_440 : ∀ q, 11 ≤ q → q ≤ 22 → q ∉ [6, 7, 8, 9, 10, 4, 5] := by intro q h1 h2 h; simp at h; omega
theorem rg_441 : ∀ q, q ∈ [6, 7, 8, 9, 10] → q ∈ [6, 7, 8, 9, 10, 4, 5, 25, 14, 15, 16, 11, 17, 18, 19, 20, 21, 27, 28, 26, 12, 22, 23, 24, 13] := by decide
theorem rg_442 : ∀ q, 11 ≤ q → q ≤ 22 → q ∉ [6, 7, 8, 9, 10] := by intro q h1 h2 h; simp at h; omega
theorem rg_443 : ∀ q, 11 ≤ q → q ≤ 22 → q ∉ [4, 5] := by intro q h1 h2 h; simp at h; omega
theorem rg_445 : 30 ∉ [6, 7, 8, 9, 10] := by decide
theorem rg_444 : 30 ∉ [6, 7, 8, 9, 10, 4, 5, 25, 14, 15, 16, 11, 17, 18, 19, 20, 21, 27, 28, 26, 12, 22, 23, 24, 13] := by decide
theorem rg_446 : ∀ q, q ∈ [6, 7, 8, 9, 10, 4, 5, 17, 18, 19, 20, 21, 27, 28, 26, 12] → q ∈ [6, 7, 8, 9, 10, 4, 5, 25, 14, 15, 16, 11, 17, 18, 19, 20, 21, 27, 28, 26, 12, 22, 23, 24, 13] := by decide
theorem rg_447 : ∀ q, q ∈ [6, 7, 8, 9, 10, 4, 5, 22, 23, 24, 13] → q ∈ [6, 7, 8, 9, 10, 4, 5, 25, 14, 15, 16, 11, 17, 18, 19, 20, 21, 27, 28, 26, 12, 22, 23, 24, 13] := by decide
theorem rg_448 : ∀ q, q ∈ [6, 7, 8, 9, 10, 4, 5, 25, 14, 15, 16, 11] → q ∈ [6, 7, 8, 9, 10, 4, 5, 25, 14, 15, 16, 11, 17, 18, 19, 20, 21, 27, 28, 26, 12, 22, 23, 24, 13] := by decide
theorem rg_449 : ∀ q, q ∈ [4, 5] → q ∈ [6, 7, 8, 9, 10, 4, 5, 25, 14, 15, 16, 11, 17, 18, 19, 20, 21, 27, 28, 26, 12, 22, 23, 24, 13] := by decide
def ow_n_readLine : List Cond := [.constantLong RX12 143 (7499639), .constantLong RX12 179 (6647396), .fieldLink RX12 24 "NearEnoughModel" "stepMany" "[I", .fieldLink RX12 243 "NearEnoughModel" "rb" "I", .fieldLink RX12 27 "NearEnoughModel" "endMany" "[I", .fieldLink RX12 20 "NearEnoughModel" "rowMany" "[I"]
def vs_n_readLine : List Cond := .code yX12_readLine cX12_readLine 4 none :: (ow_n_readLine ++ (([.methodLink RX12 234 yX12_is, .instanceMethod yX12_is, .selects RX12 yX12_is yX12_is, .initialized RX12] : List Cond) ++ (vs_n_is ++ (([.methodLink RX12 278 yX12_must, .instanceMethod yX12_must, .selects RX12 yX12_must yX12_must, .initialized RX12] : List Cond) ++ (vs_n_must ++ (([.methodLink RX12 224 yX12_isGood, .instanceMethod yX12_isGood, .selects RX12 yX12_isGood yX12_isGood, .initialized RX12] : List Cond) ++ (vs_n_isGood ++ (([.methodLink RX12 228 yX12_next, .instanceMethod yX12_next, .selects RX12 yX12_next yX12_next, .initialized RX12] : List Cond) ++ (vs_n_next ++ (([.methodLink RX12 274 yX12_readStep, .instanceMethod yX12_readStep, .selects RX12 yX12_readStep yX12_readStep, .initialized RX12] : List Cond) ++ (vs_n_readStep ++ (([.methodLink RX12 271 yX12_readEnd, .instanceMethod yX12_readEnd, .selects RX12 yX12_readEnd yX12_readEnd, .initialized RX12] : List Cond) ++ (vs_n_readEnd ++ (([.methodLink RX12 268 yX12_readRow, .instanceMethod yX12_readRow, .selects RX12 yX12_readRow yX12_readRow, .initialized RX12] : List Cond) ++ (vs_n_readRow ++ (([.methodLink RX12 231 yX12_wrong, .instanceMethod yX12_wrong, .selects RX12 yX12_wrong yX12_wrong, .initialized RX12] : List Cond) ++ (vs_n_wrong ++ (([.methodLink RX12 261 yX12_isWord, .instanceMethod yX12_isWord, .selects RX12 yX12_isWord yX12_isWord, .initialized RX12] : List Cond) ++ (vs_n_isWord ++ (([.methodLink RX12 264 yX12_kindHere, .instanceMethod yX12_kindHere, .selects RX12 yX12_kindHere yX12_kindHere, .initialized RX12] : List Cond) ++ (vs_n_kindHere ++ (wsX120))))))))))))))))))))))
theorem vg_n_readLine : vs_n_readLine.all goodWord = true := by decide +kernel
theorem dd_n_readLine : yX12_readLine.cls = RX12 ∧ yX12_readLine.cls ≠ "java/lang/invoke/MethodHandle" ∧ yX12_readLine.cls ≠ "java/lang/invoke/VarHandle" ∧ (parseMethodDescriptor yX12_readLine.desc).map (fun d => d.parameters.length) = some 0 := by decide +kernel
def rm_n_readLine : Room := { frames := 5, cells := 0, slots := 0, locals := 109 }
theorem gd_n_readLine_234_n_is : GoodIn vs_n_readLine (wsV RX12 234 RX12 yX12_is vs_n_is) := goodIn_app (goodIn_sub (fun w h => (List.mem_cons_of_mem _ (List.mem_append_right _ (List.mem_append_left _ h)))) (by decide +kernel)) (goodIn_sub (fun w h => (List.mem_cons_of_mem _ (List.mem_append_right _ (List.mem_append_right _ (List.mem_append_left _ h))))) vg_n_is)
theorem gd_n_readLine_278_n_must : GoodIn vs_n_readLine (wsV RX12 278 RX12 yX12_must vs_n_must) := goodIn_app (goodIn_sub (fun w h => (List.mem_cons_of_mem _ (List.mem_append_right _ (List.mem_append_right _ (List.mem_append_right _ (List.mem_append_left _ h)))))) (by decide +kernel)) (goodIn_sub (fun w h => (List.mem_cons_of_mem _ (List.mem_append_right _ (List.mem_append_right _ (List.mem_append_right _ (List.mem_append_right _ (List.mem_append_left _ h))))))) vg_n_must)
theorem gd_n_readLine_224_n_isGood : GoodIn vs_n_readLine (wsV RX12 224 RX12 yX12_isGood vs_n_isGood) := goodIn_app (goodIn_sub (fun w h => (List.mem_cons_of_mem _ (List.mem_append_right _ (List.mem_append_right _ (List.mem_append_right _ (List.mem_append_right _ (List.mem_append_right _ (List.mem_append_left _ h)))))))) (by decide +kernel)) (goodIn_sub (fun w h => (List.mem_cons_of_mem _ (List.mem_append_right _ (List.mem_append_right _ (List.mem_append_right _ (List.mem_append_right _ (List.mem_append_right _ (List.mem_append_right _ (List.mem_append_left _ h))))))))) vg_n_isGood)
theorem gd_n_readLine_228_n_next : GoodIn vs_n_readLine (wsV RX12 228 RX12 yX12_next vs_n_next) := goodIn_app (goodIn_sub (fun w h => (List.mem_cons_of_mem _ (List.mem_append_right _ (List.mem_append_right _ (List.mem_append_right _ (List.mem_append_right _ (List.mem_append_right _ (List.mem_append_right _ (List.mem_append_right _ (List.mem_append_left _ h)))))))))) (by decide +kernel)) (goodIn_sub (fun w h => (List.mem_cons_of_mem _ (List.mem_append_right _ (List.mem_append_right _ (List.mem_append_right _ (List.mem_append_right _ (List.mem_append_right _ (List.mem_append_right _ (List.mem_append_right _ (List.mem_append_right _ (List.mem_append_left _ h))))))))))) vg_n_next)
theorem gd_n_readLine_274_n_readStep : GoodIn vs_n_readLine (wsV RX12 274 RX12 yX12_readStep vs_n_readStep) := goodIn_app (goodIn_sub (fun w h => (List.mem_cons_of_mem _ (List.mem_append_right _ (List.mem_append_right _ (List.mem_append_right _ (List.mem_append_right _ (List.mem_append_right _ (List.mem_append_right _ (List.mem_append_right _ (List.mem_append_right _ (List.mem_append_right _ (List.mem_append_left _ h)))))))))))) (by decide +kernel)) (goodIn_sub (fun w h => (List.mem_cons_of_mem _ (List.mem_append_right _ (List.mem_append_right _ (List.mem_append_right _ (List.mem_append_right _ (List.mem_append_right _ (List.mem_append_right _ (List.mem_append_right _ (List.mem_append_right _ (List.mem_append_right _ (List.mem_append_right _ (List.mem_append_left _ h))))))))))))) vg_n_readStep)
theorem gd_n_readLine_271_n_readEnd : GoodIn vs_n_readLine (wsV RX12 271 RX12 yX12_readEnd vs_n_readEnd) := goodIn_app (goodIn_sub (fun w h => (List.mem_cons_of_mem _ (List.mem_append_right _ (List.mem_append_right _ (List.mem_append_right _ (List.mem_append_right _ (List.mem_append_right _ (List.mem_append_right _ (List.mem_append_right _ (List.mem_append_right _ (List.mem_append_right _ (List.mem_append_right _ (List.mem_append_right _ (List.mem_append_left _ h)))))))))))))) (by decide +kernel)) (goodIn_sub (fun w h => (List.mem_cons_of_mem _ (List.mem_append_right _ (List.mem_append_right _ (List.mem_append_right _ (List.mem_append_right _ (List.mem_append_right _ (List.mem_append_right _ (List.mem_append_right _ (List.mem_append_right _ (List.mem_append_right _ (List.mem_append_right _ (List.mem_append_right _ (List.mem_append_right _ (List.mem_append_left _ h))))))))))))))) vg_n_readEnd)
theorem gd_n_readLine_268_n_readRow : GoodIn vs_n_readLine (wsV RX12 268 RX12 yX12_readRow vs_n_readRow) := goodIn_app (goodIn_sub (fun w h => (List.mem_cons_of_mem _ (List.mem_append_right _ (List.mem_append_right _ (List.mem_append_right _ (List.mem_append_right _ (List.mem_append_right _ (List.mem_append_right _ (List.mem_append_right _ (List.mem_append_right _ (List.mem_append_right _ (List.mem_append_right _ (List.mem_append_right _ (List.mem_append_right _ (List.mem_append_right _ (List.mem_append_left _ h)))))))))))))))) (by decide +kernel)) (goodIn_sub (fun w h => (List.mem_cons_of_mem _ (List.mem_append_right _ (List.mem_append_right _ (List.mem_append_right _ (List.mem_append_right _ (List.mem_append_right _ (List.mem_append_right _ (List.mem_append_right _ (List.mem_append_right _ (List.mem_append_right _ (List.mem_append_right _ (List.mem_append_right _ (List.mem_append_right _ (List.mem_append_right _ (List.mem_append_right _ (List.mem_append_left _ h))))))))))))))))) vg_n_readRow)
theorem gd_n_readLine_231_n_wrong : GoodIn vs_n_readLine (wsV RX12 231 RX12 yX12_wrong vs_n_wrong) := goodIn_app (goodIn_sub (fun w h => (List.mem_cons_of_mem _ (List.mem_append_right _ (List.mem_append_right _ (List.mem_append_right _ (List.mem_append_right _ (List.mem_append_right _ (List.mem_append_right _ (List.mem_append_right _ (List.mem_append_right _ (List.mem_append_right _ (List.mem_append_right _ (List.mem_append_right _ (List.mem_append_right _ (List.mem_append_right _ (List.mem_append_right _ (List.mem_append_right _ (List.mem_append_left _ h)))))))))))))))))) (by decide +kernel)) (goodIn_sub (fun w h => (List.mem_cons_of_mem _ (List.mem_append_right _ (List.mem_append_right _ (List.mem_append_right _ (List.mem_append_right _ (List.mem_append_right _ (List.mem_append_right _ (List.mem_append_right _ (List.mem_append_right _ (List.mem_append_right _ (List.mem_append_right _ (List.mem_append_right _ (List.mem_append_right _ (List.mem_append_right _ (List.mem_append_right _ (List.mem_append_right _ (List.mem_append_right _ (List.mem_append_left _ h))))))))))))))))))) vg_n_wrong)
theorem gd_n_readLine_261_n_isWord : GoodIn vs_n_readLine (wsV RX12 261 RX12 yX12_isWord vs_n_isWord) := goodIn_app (goodIn_sub (fun w h => (List.mem_cons_of_mem _ (List.mem_append_right _ (List.mem_append_right _ (List.mem_append_right _ (List.mem_append_right _ (List.mem_append_right _ (List.mem_append_right _ (List.mem_append_right _ (List.mem_append_right _ (List.mem_append_right _ (List.mem_append_right _ (List.mem_append_right _ (List.mem_append_right _ (List.mem_append_right _ (List.mem_append_right _ (List.mem_append_right _ (List.mem_append_right _ (List.mem_append_right _ (List.mem_append_left _ h)))))))))))))))))))) (by decide +kernel)) (goodIn_sub (fun w h => (List.mem_cons_of_mem _ (List.mem_append_right _ (List.mem_append_right _ (List.mem_append_right _ (List.mem_append_right _ (List.mem_append_right _ (List.mem_append_right _ (List.mem_append_right _ (List.mem_append_right _ (List.mem_append_right _ (List.mem_append_right _ (List.mem_append_right _ (List.mem_append_right _ (List.mem_append_right _ (List.mem_append_right _ (List.mem_append_right _ (List.mem_append_right _ (List.mem_append_right _ (List.mem_append_right _ (List.mem_append_left _ h))))))))))))))))))))) vg_n_isWord)
theorem gd_n_readLine_264_n_kindHere : GoodIn vs_n_readLine (wsV RX12 264 RX12 yX12_kindHere vs_n_kindHere) := goodIn_app (goodIn_sub (fun w h => (List.mem_cons_of_mem _ (List.mem_append_right _ (List.mem_append_right _ (List.mem_append_right _ (List.mem_append_right _ (List.mem_append_right _ (List.mem_append_right _ (List.mem_append_right _ (List.mem_append_right _ (List.mem_append_right _ (List.mem_append_right _ (List.mem_append_right _ (List.mem_append_right _ (List.mem_append_right _ (List.mem_append_right _ (List.mem_append_right _ (List.mem_append_right _ (List.mem_append_right _ (List.mem_append_right _ (List.mem_append_right _ (List.mem_append_left _ h)))))))))))))))))))))) (by decide +kernel)) (goodIn_sub (fun w h => (List.mem_cons_of_mem _ (List.mem_append_right _ (List.mem_append_right _ (List.mem_append_right _ (List.mem_append_right _ (List.mem_append_right _ (List.mem_append_right _ (List.mem_append_right _ (List.mem_append_right _ (List.mem_append_right _ (List.mem_append_right _ (List.mem_append_right _ (List.mem_append_right _ (List.mem_append_right _ (List.mem_append_right _ (List.mem_append_right _ (List.mem_append_right _ (List.mem_append_right _ (List.mem_append_right _ (List.mem_append_right _ (List.mem_append_right _ (List.mem_append_left _ h))))))))))))))))))))))) vg_n_kindHere)
set_option maxHeartbeats 4000000 in
set_option maxRecDepth 100000 in
theorem n_readLine (l : Launch) (dC : Nat → ClassId) (dI : Nat → Nat → Nat) (h : Nat) (ad : Nat → Nat) (cl : Nat → ClassId) (sz : Nat) (σ : MS)  (hI : Inv σ) (hes : Es σ) : Met l yX12_readLine vs_n_readLine rm_n_readLine (va_Pc [.ref h] (wSt dC dI (mW h ad cl σ) (mT cl) sz)) (va_Qv (fun (τ : MS) => Inv τ ∧ eqx [6, 7, 8, 9, 10, 4, 5, 25, 14, 15, 16, 11, 17, 18, 19, 20, 21, 27, 28, 26, 12, 22, 23, 24, 13] τ σ ∧ ((τ.1 4).toInt = 0 → Pg τ σ) ∧ ((τ.1 4).toInt = 0 → RelP σ (σ.1 30).toNatClampNeg → RelP τ (σ.1 30).toNatClampNeg) ∧ (∀ bk, bk < 2 → bk ≠ (σ.1 30).toNatClampNeg → SameB τ σ bk) ∧ Mo τ σ ∧ Lx τ σ) (fun (τ : MS) => wEn dC dI (va_A (mW h ad cl σ) sz) (mW h ad cl τ) []) (va_A (mW h ad cl σ) sz)) 0 0 (va_A (mW h ad cl σ) sz) := by
  refine Met.ofW (cc := cX12_readLine) (maxL := 4) (ret := none) (by decide) rfl ?_
  intro p e s m args below meth c s₁ B hml hv
  obtain ⟨rfl, hsz, hP, hK, hD0, hE⟩ := hv
  have hx := B.exec
  have hb := B.bytes
  have hr := B.returns
  have hts := atoms_spec (ws := vs_n_readLine) B.pre
  have hown : s.vm.findClass RX12 = some m.cls := findClass_of_methodNamed B.named
  have hlocks := B.notSynchronized
  subst hsz
  have hD := hD0.self (sz := s.heap.size)
  generalize hAe : va_A (mW h ad cl σ) s.heap.size = A at hD ⊢
  have hA : ∀ q : Nat, s.heap.size ≤ q → A q := fun q h => by rw [← hAe]; exact Or.inr h
  have hl := lv_entry ([.ref h]) (n := 4) (Nat.le_of_ble_eq_true rfl)
  rw [lg_entry_eq]
  generalize (lg_sl ([.ref h]) ++ List.replicate (4 - (lg_sl ([.ref h])).length) Slot.unset).toArray = ls at hl ⊢
  have hl : lv_has ls 4 [(0, .ref h)] := hl
  have ho := fun w (h : w ∈ ow_n_readLine) => hts w (List.mem_cons_of_mem _ (List.mem_append_left _ h))
  have hin12 : ∀ w ∈ u_ws RX12 TX12 59, w ∈ vs_n_readLine := fun w h => (List.mem_cons_of_mem _ (List.mem_append_right _ (List.mem_append_right _ (List.mem_append_right _ (List.mem_append_right _ (List.mem_append_right _ (List.mem_append_right _ (List.mem_append_right _ (List.mem_append_right _ (List.mem_append_right _ (List.mem_append_right _ (List.mem_append_right _ (List.mem_append_right _ (List.mem_append_right _ (List.mem_append_right _ (List.mem_append_right _ (List.mem_append_right _ (List.mem_append_right _ (List.mem_append_right _ (List.mem_append_right _ (List.mem_append_right _ (List.mem_append_right _ h))))))))))))))))))))))
  refine zQ (fun Q hQ => ?_)
  have bn12 : 0 ≤ (σ.2.1 12 (σ.1 30).toNatClampNeg).toInt ∧ (σ.2.1 12 (σ.1 30).toNatClampNeg).toInt ≤ 12 := hI.2 12 _ (cl_lt (n := 2) (hI.1 30).1 (Int.lt_of_le_of_lt (hI.1 30).2 (by decide)))
  have bn11 : 0 ≤ (σ.2.1 11 (σ.1 30).toNatClampNeg).toInt ∧ (σ.2.1 11 (σ.1 30).toNatClampNeg).toInt ≤ 2 := hI.2 11 _ (cl_lt (n := 2) (hI.1 30).1 (Int.lt_of_le_of_lt (hI.1 30).2 (by decide)))
  have brb : 0 ≤ (σ.1 30).toInt ∧ (σ.1 30).toInt ≤ 1 := hI.1 30
  have bn13 : 0 ≤ (σ.2.1 13 (σ.1 30).toNatClampNeg).toInt ∧ (σ.2.1 13 (σ.1 30).toNatClampNeg).toInt ≤ 4 := hI.2 13 _ (cl_lt (n := 2) (hI.1 30).1 (Int.lt_of_le_of_lt (hI.1 30).2 (by decide)))
  have pt_128 : ∀ (τ : MS) (H : Heap) (locs : List Loc) (ls : Array Slot), (Inv τ) → (eqx [6, 7, 8, 9, 10, 4, 5, 25, 14, 15, 16, 11, 17, 18, 19, 20, 21, 27, 28, 26, 12, 22, 23, 24, 13] τ σ) → (Mo τ σ) → (Lx τ σ) → (When τ (RelP σ (σ.1 30).toNatClampNeg → RelP τ (σ.1 30).toNatClampNeg)) → (∀ bk, bk < 2 → bk ≠ (σ.1 30).toNatClampNeg → SameB τ σ bk) → (Pg τ σ) → va_P (dC, dI) vwCl (mW h ad cl τ) H → va_D A (mW h ad cl τ) → va_S A s.heap H locs → lv_has ls 4 [(0, .ref h)] → W p l e (headSpec vs_n_readLine rm_n_readLine).room s m #[Value.ref h] below meth c H locs 0 0 Q (F0 m 128 ls []) := by
    intro τ H locs ls hIτ hxτ hmτ hgτ hw0 hoth hpg hP hD hS hl
    refine lv_aload_n hx hb dX12_readLine_128 rfl (lv_at hl 0 rfl) ?_
    refine lv_aload_n hx hb dX12_readLine_129 rfl (lv_at hl 0 rfl) ?_
    refine lv_bipush (v := 59) hx hb dX12_readLine_130 rg_36 ?_
    have kk1 : (59 : Int32).toInt = 59 := rg_37
    refine zy_i (va_runV (As := [.int 59]) (rest := [.ref h]) ⟨hx, hb, hml, hown, hts⟩ (n_is l dC dI h ad cl H.size τ 59 hIτ) (cwV 1 hts gd_n_readLine_234_n_is rfl rfl rfl dd_n_is ⟨Nat.le_of_ble_eq_true rfl, Nat.le_of_ble_eq_true rfl⟩) (preV hP hK hD hE (ci := 12) (q0 := 0) rfl rfl) rfl rfl hl.1 rfl (lv_room (Nat.le_of_ble_eq_true rfl)) dX12_readLine_132 ⟨Nat.le_of_ble_eq_true rfl, Nat.le_of_ble_eq_true rfl⟩) hD hS hA (fun z3 τ2 H locs hq hP hD hS => ?_)
    obtain ⟨rfl, f4⟩ := hq
    refine W.widen (k := 0) (n := 0) (Nat.le_of_ble_eq_true rfl) (Nat.le_of_ble_eq_true rfl) ?_
    refine zy_v (va_runV (As := [.int z3]) (rest := []) ⟨hx, hb, hml, hown, hts⟩ (n_must l dC dI h ad cl H.size τ z3 hIτ (Lx.es hgτ)) (cwV 1 hts gd_n_readLine_278_n_must rfl rfl rfl dd_n_must ⟨Nat.le_of_ble_eq_true rfl, Nat.le_of_ble_eq_true rfl⟩) (preV hP hK hD hE (ci := 12) (q0 := 0) rfl rfl) rfl rfl hl.1 rfl (lv_room (Nat.le_of_ble_eq_true rfl)) dX12_readLine_135 ⟨Nat.le_of_ble_eq_true rfl, Nat.le_of_ble_eq_true rfl⟩) hD hS hA (fun τ5 H locs hq hP hD hS => ?_)
    obtain ⟨hI7, hx8, mo9, lx10⟩ := hq
    have Xτ5 : eqx [6, 7, 8, 9, 10, 4, 5, 25, 14, 15, 16, 11, 17, 18, 19, 20, 21, 27, 28, 26, 12, 22, 23, 24, 13] τ5 σ := eqx.tr hx8 hxτ rg_439
    have Mτ5 : Mo τ5 σ := Mo.tr mo9 (fun h9 => hmτ h9)
    have Lτ5 : Lx τ5 σ := Lx.tr lx10 hgτ
    have W11 : When τ5 (RelP σ (σ.1 30).toNatClampNeg → RelP τ (σ.1 30).toNatClampNeg) := When.mo hw0 mo9
    refine W.widen (k := 0) (n := 0) (Nat.le_of_ble_eq_true rfl) (Nat.le_of_ble_eq_true rfl) ?_
    rw [hQ]
    exact W.vret hx hb hr (fun t ht hW => ⟨⟨τ5, rfl, ⟨hI7, Xτ5, (fun _ => Pg.tr hpg lx10), (fun h9 hr9 => ((W11 h9) hr9).eqs (eqx.tab hx8 rg_440)), (fun bk b1 b2 => (SameB.eqs (eqx.tab hx8 rg_440)).tr (hoth bk b1 b2)), Mτ5, Lτ5⟩, wEn_of hP (hK.sub [] rfl) hD ht hW⟩, hS.F ht⟩) hS.2.2 dX12_readLine_138
  have pt_89 : ∀ (τ : MS) (row : Int32) (last : Int32) (kd : Int32) (H : Heap) (locs : List Loc) (ls : Array Slot), (Inv τ) → (eqx [6, 7, 8, 9, 10, 4, 5, 25, 14, 15, 16, 11, 17, 18, 19, 20, 21, 27, 28, 26, 12, 22, 23, 24, 13] τ σ) → (Mo τ σ) → (Lx τ σ) → (eqx [4, 5] τ σ) → (-1 ≤ kd.toInt ∧ kd.toInt ≤ 7) → (When τ ((row.toInt ≠ 0 → (σ.2.1 11 (σ.1 30).toNatClampNeg).toInt ≤ 1) ∧ (row.toInt = 0 → last.toInt ≠ 0 → (σ.2.1 13 (σ.1 30).toNatClampNeg).toInt ≤ 3) ∧ (row.toInt = 0 → last.toInt = 0 → 0 ≤ kd.toInt ∧ (σ.2.1 12 (σ.1 30).toNatClampNeg).toInt ≤ 11))) → va_P (dC, dI) vwCl (mW h ad cl τ) H → va_D A (mW h ad cl τ) → va_S A s.heap H locs → lv_has ls 4 [(0, .ref h), (1, .int row), (2, .int last), (3, .int kd)] → W p l e (headSpec vs_n_readLine rm_n_readLine).room s m #[Value.ref h] below meth c H locs 0 0 Q (F0 m 89 ls []) := by
    intro τ row last kd H locs ls hIτ hxτ hmτ hgτ hxw hkd hw0 hP hD hS hl
    refine lv_aload_n hx hb dX12_readLine_89 rfl (lv_at hl 0 rfl) ?_
    refine zy_i (va_runV (As := []) (rest := []) ⟨hx, hb, hml, hown, hts⟩ (n_isGood l dC dI h ad cl H.size τ  hIτ) (cwV 0 hts gd_n_readLine_224_n_isGood rfl rfl rfl dd_n_isGood ⟨Nat.le_of_ble_eq_true rfl, Nat.le_of_ble_eq_true rfl⟩) (preV hP hK hD hE (ci := 12) (q0 := 0) rfl rfl) rfl rfl hl.1 rfl (lv_room (Nat.le_of_ble_eq_true rfl)) dX12_readLine_90 ⟨Nat.le_of_ble_eq_true rfl, Nat.le_of_ble_eq_true rfl⟩) hD hS hA (fun z13 τ12 H locs hq hP hD hS => ?_)
    obtain ⟨rfl, f14⟩ := hq
    refine W.widen (k := 0) (n := 0) (Nat.le_of_ble_eq_true rfl) (Nat.le_of_ble_eq_true rfl) ?_
    refine lv_if_ne (tgt := 97) hx hb dX12_readLine_93 rfl (fun c15 => ?_) (fun c15 => ?_)
    · have tc15 := (show z13.toInt ≠ 0 from ti_ne rfl rg_11 c15)
      refine lv_aload_n hx hb dX12_readLine_97 rfl (lv_at hl 0 rfl) ?_
      refine zy_v (va_runV (As := []) (rest := []) ⟨hx, hb, hml, hown, hts⟩ (n_next l dC dI h ad cl H.size τ  hIτ (Lx.es hgτ)) (cwV 0 hts gd_n_readLine_228_n_next rfl rfl rfl dd_n_next ⟨Nat.le_of_ble_eq_true rfl, Nat.le_of_ble_eq_true rfl⟩) (preV hP hK hD hE (ci := 12) (q0 := 0) rfl rfl) rfl rfl hl.1 rfl (lv_room (Nat.le_of_ble_eq_true rfl)) dX12_readLine_98 ⟨Nat.le_of_ble_eq_true rfl, Nat.le_of_ble_eq_true rfl⟩) hD hS hA (fun τ16 H locs hq hP hD hS => ?_)
      obtain ⟨hI18, hx19, f20, lx21⟩ := hq
      have Xτ16 : eqx [6, 7, 8, 9, 10, 4, 5, 25, 14, 15, 16, 11, 17, 18, 19, 20, 21, 27, 28, 26, 12, 22, 23, 24, 13] τ16 σ := eqx.tr hx19 hxτ rg_441
      have Mτ16 : Mo τ16 σ := Mo.tr (Mo.of hx19 rg_51) (fun h9 => hmτ h9)
      have Lτ16 : Lx τ16 σ := Lx.tr lx21 hgτ
      have W22 : When τ16 ((row.toInt ≠ 0 → (σ.2.1 11 (σ.1 30).toNatClampNeg).toInt ≤ 1) ∧ (row.toInt = 0 → last.toInt ≠ 0 → (σ.2.1 13 (σ.1 30).toNatClampNeg).toInt ≤ 3) ∧ (row.toInt = 0 → last.toInt = 0 → 0 ≤ kd.toInt ∧ (σ.2.1 12 (σ.1 30).toNatClampNeg).toInt ≤ 11)) := When.mo hw0 (Mo.of hx19 rg_51)
      refine W.widen (k := 0) (n := 0) (Nat.le_of_ble_eq_true rfl) (Nat.le_of_ble_eq_true rfl) ?_
      have h8 : (τ.1 4).toInt = 0 := by omega
      have qw := hw0 h8
      have pg23 : Pg τ16 σ := Pg.l f20 hgτ
      have HT24 : ∀ p9, 11 ≤ p9 → p9 ≤ 22 → τ16.2.1 p9 = σ.2.1 p9 := fun p9 h1 h2 => ((eqx.tab hx19 rg_442) p9 h1 h2).trans ((eqx.tab hxw rg_443) p9 h1 h2)
      have HB25 : τ16.1 30 = σ.1 30 := (show τ16.1 30 = (σ.1 30) from ((hx19 30 rg_445).1).trans ((hxτ 30 rg_444).1))
      refine lv_iload_n hx hb dX12_readLine_101 rfl (lv_at hl 1 rfl) ?_
      refine lv_if_eq (tgt := 112) hx hb dX12_readLine_102 rfl (fun c26 => ?_) (fun c26 => ?_)
      · have tc26 := (show row.toInt = 0 from ti_eq rfl rg_11 c26)
        refine lv_iload_n hx hb dX12_readLine_112 rfl (lv_at hl 2 rfl) ?_
        refine lv_if_eq (tgt := 123) hx hb dX12_readLine_113 rfl (fun c27 => ?_) (fun c27 => ?_)
        · have tc27 := (show last.toInt = 0 from ti_eq rfl rg_11 c27)
          refine lv_aload_n hx hb dX12_readLine_123 rfl (lv_at hl 0 rfl) ?_
          refine lv_iload_n hx hb dX12_readLine_124 rfl (lv_at hl 3 rfl) ?_
          have o1 : 0 ≤ kd.toInt := by omega
          have o2 : kd.toInt ≤ 7 := by omega
          have o3 : (σ.2.1 12 (σ.1 30).toNatClampNeg).toInt ≤ 11 := by omega
          refine zy_v (va_runV (As := [.int kd]) (rest := []) ⟨hx, hb, hml, hown, hts⟩ (n_readStep l dC dI h ad cl H.size τ16 kd hI18 ⟨o1, o2⟩ (cvle o3 (((hx19 12 rg_415).2.1).trans (hxw 12 rg_109).2.1) (show τ16.1 30 = (σ.1 30) from ((hx19 30 rg_445).1).trans ((hxτ 30 rg_444).1))) (Lx.es Lτ16)) (cwV 1 hts gd_n_readLine_274_n_readStep rfl rfl rfl dd_n_readStep ⟨Nat.le_of_ble_eq_true rfl, Nat.le_of_ble_eq_true rfl⟩) (preV hP hK hD hE (ci := 12) (q0 := 0) rfl rfl) rfl rfl hl.1 rfl (lv_room (Nat.le_of_ble_eq_true rfl)) dX12_readLine_125 ⟨Nat.le_of_ble_eq_true rfl, Nat.le_of_ble_eq_true rfl⟩) hD hS hA (fun τ28 H locs hq hP hD hS => ?_)
          obtain ⟨hI30, hx31, f32, f33, mo34, lx35⟩ := hq
          have Xτ28 : eqx [6, 7, 8, 9, 10, 4, 5, 25, 14, 15, 16, 11, 17, 18, 19, 20, 21, 27, 28, 26, 12, 22, 23, 24, 13] τ28 σ := eqx.tr hx31 Xτ16 rg_446
          have Mτ28 : Mo τ28 σ := Mo.tr mo34 (fun h9 => Mτ16 h9)
          have Lτ28 : Lx τ28 σ := Lx.tr lx35 Lτ16
          have W36 : When τ28 ((row.toInt ≠ 0 → (σ.2.1 11 (σ.1 30).toNatClampNeg).toInt ≤ 1) ∧ (row.toInt = 0 → last.toInt ≠ 0 → (σ.2.1 13 (σ.1 30).toNatClampNeg).toInt ≤ 3) ∧ (row.toInt = 0 → last.toInt = 0 → 0 ≤ kd.toInt ∧ (σ.2.1 12 (σ.1 30).toNatClampNeg).toInt ≤ 11)) := When.mo W22 mo34
          refine W.widen (k := 0) (n := 0) (Nat.le_of_ble_eq_true rfl) (Nat.le_of_ble_eq_true rfl) ?_
          have N37 : When τ28 (RelP σ (σ.1 30).toNatClampNeg → RelP τ28 (σ.1 30).toNatClampNeg) := fun h9 => rel_go HB25 HT24 (f32 h9)
          have N38 : ∀ bk, bk < 2 → bk ≠ (σ.1 30).toNatClampNeg → SameB τ28 σ bk := rel_go2 HB25 HT24 f33
          have N39 : Pg τ28 σ := Pg.tr pg23 lx35
          exact pt_128 τ28  _ _ _ hI30 Xτ28 Mτ28 Lτ28 N37 N38 N39 hP hD hS (lv_sub hl [0] rfl)
        · have tc27 := (show last.toInt ≠ 0 from ti_ne rfl rg_11 c27)
          refine lv_aload_n hx hb dX12_readLine_116 rfl (lv_at hl 0 rfl) ?_
          have o4 : (σ.2.1 13 (σ.1 30).toNatClampNeg).toInt ≤ 3 := by omega
          refine zy_v (va_runV (As := []) (rest := []) ⟨hx, hb, hml, hown, hts⟩ (n_readEnd l dC dI h ad cl H.size τ16  hI18 (cvle o4 (((hx19 13 rg_416).2.1).trans (hxw 13 rg_115).2.1) (show τ16.1 30 = (σ.1 30) from ((hx19 30 rg_445).1).trans ((hxτ 30 rg_444).1))) (Lx.es Lτ16)) (cwV 0 hts gd_n_readLine_271_n_readEnd rfl rfl rfl dd_n_readEnd ⟨Nat.le_of_ble_eq_true rfl, Nat.le_of_ble_eq_true rfl⟩) (preV hP hK hD hE (ci := 12) (q0 := 0) rfl rfl) rfl rfl hl.1 rfl (lv_room (Nat.le_of_ble_eq_true rfl)) dX12_readLine_117 ⟨Nat.le_of_ble_eq_true rfl, Nat.le_of_ble_eq_true rfl⟩) hD hS hA (fun τ40 H locs hq hP hD hS => ?_)
          obtain ⟨hI42, hx43, f44, f45, mo46, lx47⟩ := hq
          have Xτ40 : eqx [6, 7, 8, 9, 10, 4, 5, 25, 14, 15, 16, 11, 17, 18, 19, 20, 21, 27, 28, 26, 12, 22, 23, 24, 13] τ40 σ := eqx.tr hx43 Xτ16 rg_447
          have Mτ40 : Mo τ40 σ := Mo.tr mo46 (fun h9 => Mτ16 h9)
          have Lτ40 : Lx τ40 σ := Lx.tr lx47 Lτ16
          have W48 : When τ40 ((row.toInt ≠ 0 → (σ.2.1 11 (σ.1 30).toNatClampNeg).toInt ≤ 1) ∧ (row.toInt = 0 → last.toInt ≠ 0 → (σ.2.1 13 (σ.1 30).toNatClampNeg).toInt ≤ 3) ∧ (row.toInt = 0 → last.toInt = 0 → 0 ≤ kd.toInt ∧ (σ.2.1 12 (σ.1 30).toNatClampNeg).toInt ≤ 11)) := When.mo W22 mo46
          refine W.widen (k := 0) (n := 0) (Nat.le_of_ble_eq_true rfl) (Nat.le_of_ble_eq_true rfl) ?_
          refine lv_goto (tgt := 128) hx hb dX12_readLine_120 rfl ?_
          have N49 : When τ40 (RelP σ (σ.1 30).toNatClampNeg → RelP τ40 (σ.1 30).toNatClampNeg) := fun h9 => rel_go HB25 HT24 (f44 h9)
          have N50 : ∀ bk, bk < 2 → bk ≠ (σ.1 30).toNatClampNeg → SameB τ40 σ bk := rel_go2 HB25 HT24 f45
          have N51 : Pg τ40 σ := Pg.tr pg23 lx47
          exact pt_128 τ40  _ _ _ hI42 Xτ40 Mτ40 Lτ40 N49 N50 N51 hP hD hS (lv_sub hl [0] rfl)
      · have tc26 := (show row.toInt ≠ 0 from ti_ne rfl rg_11 c26)
        refine lv_aload_n hx hb dX12_readLine_105 rfl (lv_at hl 0 rfl) ?_
        have o5 : (σ.2.1 11 (σ.1 30).toNatClampNeg).toInt ≤ 1 := by omega
        refine zy_v (va_runV (As := []) (rest := []) ⟨hx, hb, hml, hown, hts⟩ (n_readRow l dC dI h ad cl H.size τ16  hI18 (cvle o5 (((hx19 11 rg_414).2.1).trans (hxw 11 rg_103).2.1) (show τ16.1 30 = (σ.1 30) from ((hx19 30 rg_445).1).trans ((hxτ 30 rg_444).1))) (Lx.es Lτ16)) (cwV 0 hts gd_n_readLine_268_n_readRow rfl rfl rfl dd_n_readRow ⟨Nat.le_of_ble_eq_true rfl, Nat.le_of_ble_eq_true rfl⟩) (preV hP hK hD hE (ci := 12) (q0 := 0) rfl rfl) rfl rfl hl.1 rfl (lv_room (Nat.le_of_ble_eq_true rfl)) dX12_readLine_106 ⟨Nat.le_of_ble_eq_true rfl, Nat.le_of_ble_eq_true rfl⟩) hD hS hA (fun τ52 H locs hq hP hD hS => ?_)
        obtain ⟨hI54, hx55, f56, f57, mo58, lx59⟩ := hq
        have Xτ52 : eqx [6, 7, 8, 9, 10, 4, 5, 25, 14, 15, 16, 11, 17, 18, 19, 20, 21, 27, 28, 26, 12, 22, 23, 24, 13] τ52 σ := eqx.tr hx55 Xτ16 rg_448
        have Mτ52 : Mo τ52 σ := Mo.tr mo58 (fun h9 => Mτ16 h9)
        have Lτ52 : Lx τ52 σ := Lx.tr lx59 Lτ16
        have W60 : When τ52 ((row.toInt ≠ 0 → (σ.2.1 11 (σ.1 30).toNatClampNeg).toInt ≤ 1) ∧ (row.toInt = 0 → last.toInt ≠ 0 → (σ.2.1 13 (σ.1 30).toNatClampNeg).toInt ≤ 3) ∧ (row.toInt = 0 → last.toInt = 0 → 0 ≤ kd.toInt ∧ (σ.2.1 12 (σ.1 30).toNatClampNeg).toInt ≤ 11)) := When.mo W22 mo58
        refine W.widen (k := 0) (n := 0) (Nat.le_of_ble_eq_true rfl) (Nat.le_of_ble_eq_true rfl) ?_
        refine lv_goto (tgt := 128) hx hb dX12_readLine_109 rfl ?_
        have N61 : When τ52 (RelP σ (σ.1 30).toNatClampNeg → RelP τ52 (σ.1 30).toNatClampNeg) := fun h9 => rel_go HB25 HT24 f56
        have N62 : ∀ bk, bk < 2 → bk ≠ (σ.1 30).toNatClampNeg → SameB τ52 σ bk := rel_go2 HB25 HT24 f57
        have N63 : Pg τ52 σ := Pg.tr pg23 lx59
        exact pt_128 τ52  _ _ _ hI54 Xτ52 Mτ52 Lτ52 N61 N62 N63 hP hD hS (lv_sub hl [0] rfl)
    · have tc15 := (show z13.toInt = 0 from ti_eq rfl rg_11 c15)
      rw [hQ]
      have o6 : ¬ (τ.1 4).toInt = 0 := by omega
      exact W.vret hx hb hr (fun t ht hW => ⟨⟨τ, rfl, ⟨hIτ, hxτ, (fun h9 => absurd h9 o6), (fun h9 => absurd h9 o6), (fun bk _ _ => SameB.eqs (eqx.tab hxw rg_443)), hmτ, hgτ⟩, wEn_of hP (hK.sub [] rfl) hD ht hW⟩, hS.F ht⟩) hS.2.2 dX12_readLine_96
  have pt_85 : ∀ (τ : MS) (row : Int32) (last : Int32) (kd : Int32) (H : Heap) (locs : List Loc) (ls : Array Slot), (Inv τ) → (eqx [6, 7, 8, 9, 10, 4, 5, 25, 14, 15, 16, 11, 17, 18, 19, 20, 21, 27, 28, 26, 12, 22, 23, 24, 13] τ σ) → (Mo τ σ) → (Lx τ σ) → (eqx [4, 5] τ σ) → (-1 ≤ kd.toInt ∧ kd.toInt ≤ 7) → va_P (dC, dI) vwCl (mW h ad cl τ) H → va_D A (mW h ad cl τ) → va_S A s.heap H locs → lv_has ls 4 [(0, .ref h), (1, .int row), (2, .int last), (3, .int kd)] → W p l e (headSpec vs_n_readLine rm_n_readLine).room s m #[Value.ref h] below meth c H locs 0 0 Q (F0 m 85 ls []) := by
    intro τ row last kd H locs ls hIτ hxτ hmτ hgτ hxw hkd hP hD hS hl
    refine lv_aload_n hx hb dX12_readLine_85 rfl (lv_at hl 0 rfl) ?_
    refine zy_v (va_runV (As := []) (rest := []) ⟨hx, hb, hml, hown, hts⟩ (n_wrong l dC dI h ad cl H.size τ  hIτ) (cwV 0 hts gd_n_readLine_231_n_wrong rfl rfl rfl dd_n_wrong ⟨Nat.le_of_ble_eq_true rfl, Nat.le_of_ble_eq_true rfl⟩) (preV hP hK hD hE (ci := 12) (q0 := 0) rfl rfl) rfl rfl hl.1 rfl (lv_room (Nat.le_of_ble_eq_true rfl)) dX12_readLine_86 ⟨Nat.le_of_ble_eq_true rfl, Nat.le_of_ble_eq_true rfl⟩) hD hS hA (fun τ64 H locs hq hP hD hS => ?_)
    obtain ⟨hI66, hx67, f68, mo69⟩ := hq
    have Xτ64 : eqx [6, 7, 8, 9, 10, 4, 5, 25, 14, 15, 16, 11, 17, 18, 19, 20, 21, 27, 28, 26, 12, 22, 23, 24, 13] τ64 σ := eqx.tr hx67 hxτ rg_449
    have Mτ64 : Mo τ64 σ := Mo.tr mo69 (fun h9 => hmτ h9)
    have Lτ64 : Lx τ64 σ := Lx.tr (Lx.of hx67 (Lx.es hgτ) rg_47 rg_48 rg_49) hgτ
    refine W.widen (k := 0) (n := 0) (Nat.le_of_ble_eq_true rfl) (Nat.le_of_ble_eq_true rfl) ?_
    have N70 : When τ64 ((row.toInt ≠ 0 → (σ.2.1 11 (σ.1 30).toNatClampNeg).toInt ≤ 1) ∧ (row.toInt = 0 → last.toInt ≠ 0 → (σ.2.1 13 (σ.1 30).toNatClampNeg).toInt ≤ 3) ∧ (row.toInt = 0 → last.toInt = 0 → 0 ≤ kd.toInt ∧ (σ.2.1 12 (σ.1 30).toNatClampNeg).toInt ≤ 11)) := fun h9 => absurd h9 (f68 (mo69 h9))
    have o7 : -1 ≤ kd.toInt := by omega
    have o8 : kd.toInt ≤ 7 := by omega
    exact pt_89 τ64 row last kd _ _ _ hI66 Xτ64 Mτ64 Lτ64 (eqx.tr hx67 hxw rg_21) (show -1 ≤ kd.toInt ∧ kd.toInt ≤ 7 from ⟨o7, o8⟩) N70 hP hD hS (lv_sub hl [0, 1, 2, 3] rfl)
  refine zH (A := A) (ws := mW h ad cl σ) (fun H hP hS => ?_) hP
  refine lv_aload_n hx hb dX12_readLine_0 rfl (lv_at hl 0 rfl) ?_
  refine lv_ldc2 (v := (7499639)) hx hb hown (ho (.constantLong RX12 143 (7499639)) (List.mem_of_getElem? (i := 0) rfl)) dX12_readLine_1 ?_
  refine zy_i (va_runV (As := [.long 7499639]) (rest := []) ⟨hx, hb, hml, hown, hts⟩ (n_isWord l dC dI h ad cl H.size σ 7499639 hI) (cwV 1 hts gd_n_readLine_261_n_isWord rfl rfl rfl dd_n_isWord ⟨Nat.le_of_ble_eq_true rfl, Nat.le_of_ble_eq_true rfl⟩) (preV hP hK hD hE (ci := 12) (q0 := 0) rfl rfl) rfl rfl hl.1 rfl (lv_room (Nat.le_of_ble_eq_true rfl)) dX12_readLine_4 ⟨Nat.le_of_ble_eq_true rfl, Nat.le_of_ble_eq_true rfl⟩) hD hS hA (fun z72 τ71 H locs hq hP hD hS => ?_)
  obtain ⟨rfl, f73⟩ := hq
  refine W.widen (k := 0) (n := 0) (Nat.le_of_ble_eq_true rfl) (Nat.le_of_ble_eq_true rfl) ?_
  refine lv_istore_n (lv' := [(1, .int z72), (0, .ref h)]) hx hb dX12_readLine_7 rfl hl (Nat.le_of_ble_eq_true rfl) rfl (fun ls hl => ?_)
  refine lv_aload_n hx hb dX12_readLine_8 rfl (lv_at hl 1 rfl) ?_
  refine lv_ldc2 (v := (6647396)) hx hb hown (ho (.constantLong RX12 179 (6647396)) (List.mem_of_getElem? (i := 1) rfl)) dX12_readLine_9 ?_
  refine zy_i (va_runV (As := [.long 6647396]) (rest := []) ⟨hx, hb, hml, hown, hts⟩ (n_isWord l dC dI h ad cl H.size σ 6647396 hI) (cwV 1 hts gd_n_readLine_261_n_isWord rfl rfl rfl dd_n_isWord ⟨Nat.le_of_ble_eq_true rfl, Nat.le_of_ble_eq_true rfl⟩) (preV hP hK hD hE (ci := 12) (q0 := 0) rfl rfl) rfl rfl hl.1 rfl (lv_room (Nat.le_of_ble_eq_true rfl)) dX12_readLine_12 ⟨Nat.le_of_ble_eq_true rfl, Nat.le_of_ble_eq_true rfl⟩) hD hS hA (fun z75 τ74 H locs hq hP hD hS => ?_)
  obtain ⟨rfl, f76⟩ := hq
  refine W.widen (k := 0) (n := 0) (Nat.le_of_ble_eq_true rfl) (Nat.le_of_ble_eq_true rfl) ?_
  refine lv_istore_n (lv' := [(2, .int z75), (1, .int z72), (0, .ref h)]) hx hb dX12_readLine_15 rfl hl (Nat.le_of_ble_eq_true rfl) rfl (fun ls hl => ?_)
  refine lv_aload_n hx hb dX12_readLine_16 rfl (lv_at hl 2 rfl) ?_
  refine zy_i (va_runV (As := []) (rest := []) ⟨hx, hb, hml, hown, hts⟩ (n_kindHere l dC dI h ad cl H.size σ  hI) (cwV 0 hts gd_n_readLine_264_n_kindHere rfl rfl rfl dd_n_kindHere ⟨Nat.le_of_ble_eq_true rfl, Nat.le_of_ble_eq_true rfl⟩) (preV hP hK hD hE (ci := 12) (q0 := 0) rfl rfl) rfl rfl hl.1 rfl (lv_room (Nat.le_of_ble_eq_true rfl)) dX12_readLine_17 ⟨Nat.le_of_ble_eq_true rfl, Nat.le_of_ble_eq_true rfl⟩) hD hS hA (fun z78 τ77 H locs hq hP hD hS => ?_)
  obtain ⟨rfl, f79, f80⟩ := hq
  refine W.widen (k := 0) (n := 0) (Nat.le_of_ble_eq_true rfl) (Nat.le_of_ble_eq_true rfl) ?_
  refine lv_istore_n (lv' := [(3, .int z78), (2, .int z75), (1, .int z72), (0, .ref h)]) hx hb dX12_readLine_20 rfl hl (Nat.le_of_ble_eq_true rfl) rfl (fun ls hl => ?_)
  refine lv_iload_n hx hb dX12_readLine_21 rfl (lv_at hl 2 rfl) ?_
  refine lv_if_ne (tgt := 33) hx hb dX12_readLine_22 rfl (fun c81 => ?_) (fun c81 => ?_)
  · have tc81 := (show z72.toInt ≠ 0 from ti_ne rfl rg_11 c81)
    refine lv_iload_n hx hb dX12_readLine_33 rfl (lv_at hl 2 rfl) ?_
    refine lv_if_eq (tgt := 50) hx hb dX12_readLine_34 rfl (fun c82 => ?_) (fun c82 => ?_)
    · have tc82 := (show z72.toInt = 0 from ti_eq rfl rg_11 c82)
      refine lv_iload_n hx hb dX12_readLine_50 rfl (lv_at hl 1 rfl) ?_
      refine lv_if_eq (tgt := 67) hx hb dX12_readLine_51 rfl (fun c83 => ?_) (fun c83 => ?_)
      · have tc83 := (show z75.toInt = 0 from ti_eq rfl rg_11 c83)
        refine lv_iload_n hx hb dX12_readLine_67 rfl (lv_at hl 0 rfl) ?_
        refine lv_if_lt (tgt := 89) hx hb dX12_readLine_68 rfl (fun c84 => ?_) (fun c84 => ?_)
        · have tc84 := (show z78.toInt < 0 from ti_lt rfl rg_11 c84)
          have N85 : When σ ((z72.toInt ≠ 0 → (σ.2.1 11 (σ.1 30).toNatClampNeg).toInt ≤ 1) ∧ (z72.toInt = 0 → z75.toInt ≠ 0 → (σ.2.1 13 (σ.1 30).toNatClampNeg).toInt ≤ 3) ∧ (z72.toInt = 0 → z75.toInt = 0 → 0 ≤ z78.toInt ∧ (σ.2.1 12 (σ.1 30).toNatClampNeg).toInt ≤ 11)) := fun _ => by omega
          have o9 : -1 ≤ z78.toInt := by omega
          have o10 : z78.toInt ≤ 7 := by omega
          exact pt_89 σ z72 z75 z78 _ _ _ hI eqx.rf Mo.rf (Lx.rf hes) eqx.rf (show -1 ≤ z78.toInt ∧ z78.toInt ≤ 7 from ⟨o9, o10⟩) N85 hP hD hS (lv_sub hl [3, 2, 1, 0] rfl)
        · have tc84 := (show 0 ≤ z78.toInt from ti_nlt rfl rg_11 c84)
          refine lv_aload_n hx hb dX12_readLine_71 rfl (lv_at hl 3 rfl) ?_
          refine va_get (D := (dC, dI)) (ci := 12) (v := .ref (ad 12)) (C := RX12) (T := TX12) (N := 59) hx hb hts hin12 hown hK hP 0 rfl rfl 12 (Nat.le_of_ble_eq_true rfl) (ho (.fieldLink RX12 24 "NearEnoughModel" "stepMany" "[I") (List.mem_of_getElem? (i := 2) rfl)) (fun _ h9 => h9) rfl dX12_readLine_72 ?_
          refine lv_aload_n hx hb dX12_readLine_75 rfl (lv_at hl 3 rfl) ?_
          refine va_get (D := (dC, dI)) (ci := 12) (v := .int (σ.1 30)) (C := RX12) (T := TX12) (N := 59) hx hb hts hin12 hown hK hP 0 rfl rfl 30 (Nat.le_of_ble_eq_true rfl) (ho (.fieldLink RX12 243 "NearEnoughModel" "rb" "I") (List.mem_of_getElem? (i := 3) rfl)) (fun _ h9 => h9) rfl dX12_readLine_76 ?_
          have bσ_30 : 0 ≤ (σ.1 30).toInt ∧ (σ.1 30).toInt ≤ 1 := hI.1 30
          have o11 : 0 ≤ (σ.1 30).toInt := by omega
          have o12 : (σ.1 30).toInt < ((2 : Nat) : Int) := by omega
          refine va_iald hx hb hK hP 4 3 rfl rfl (ti_inx o11 o12) dX12_readLine_79 ?_
          refine lv_topi (fun z86 ez86 => ?_)
          have gz86 : z86.toInt = ((σ.2.1 12) (Int32.toNatClampNeg (σ.1 30))).toInt := congrArg Int32.toInt (ez86.trans (congrFun rfl (Int32.toNatClampNeg (σ.1 30))))
          have bz86 : 0 ≤ z86.toInt ∧ z86.toInt ≤ 12 := by rw [ez86]; exact (hI.2 12) _ (cl_lt (n := 2) o11 o12)
          refine lv_bipush (v := 12) hx hb dX12_readLine_80 rg_57 ?_
          refine lv_icmp_ne (tgt := 89) hx hb dX12_readLine_82 rfl (fun c87 => ?_) (fun c87 => ?_)
          · have tc87 := (show z86.toInt ≠ 12 from ti_ne rfl rg_58 c87)
            have N88 : When σ ((z72.toInt ≠ 0 → (σ.2.1 11 (σ.1 30).toNatClampNeg).toInt ≤ 1) ∧ (z72.toInt = 0 → z75.toInt ≠ 0 → (σ.2.1 13 (σ.1 30).toNatClampNeg).toInt ≤ 3) ∧ (z72.toInt = 0 → z75.toInt = 0 → 0 ≤ z78.toInt ∧ (σ.2.1 12 (σ.1 30).toNatClampNeg).toInt ≤ 11)) := fun _ => by omega
            have o13 : -1 ≤ z78.toInt := by omega
            have o14 : z78.toInt ≤ 7 := by omega
            exact pt_89 σ z72 z75 z78 _ _ _ hI eqx.rf Mo.rf (Lx.rf hes) eqx.rf (show -1 ≤ z78.toInt ∧ z78.toInt ≤ 7 from ⟨o13, o14⟩) N88 hP hD hS (lv_sub hl [3, 2, 1, 0] rfl)
          · have tc87 := (show z86.toInt = 12 from ti_eq rfl rg_58 c87)
            have o15 : -1 ≤ z78.toInt := by omega
            have o16 : z78.toInt ≤ 7 := by omega
            exact pt_85 σ z72 z75 z78 _ _ _ hI eqx.rf Mo.rf (Lx.rf hes) eqx.rf (show -1 ≤ z78.toInt ∧ z78.toInt ≤ 7 from ⟨o15, o16⟩) hP hD hS (lv_sub hl [3, 2, 1, 0] rfl)
      · have tc83 := (show z75.toInt ≠ 0 from ti_ne rfl rg_11 c83)
        refine lv_aload_n hx hb dX12_readLine_54 rfl (lv_at hl 3 rfl) ?_
        refine va_get (D := (dC, dI)) (ci := 12) (v := .ref (ad 13)) (C := RX12) (T := TX12) (N := 59) hx hb hts hin12 hown hK hP 0 rfl rfl 13 (Nat.le_of_ble_eq_true rfl) (ho (.fieldLink RX12 27 "NearEnoughModel" "endMany" "[I") (List.mem_of_getElem? (i := 4) rfl)) (fun _ h9 => h9) rfl dX12_readLine_55 ?_
        refine lv_aload_n hx hb dX12_readLine_58 rfl (lv_at hl 3 rfl) ?_
        refine va_get (D := (dC, dI)) (ci := 12) (v := .int (σ.1 30)) (C := RX12) (T := TX12) (N := 59) hx hb hts hin12 hown hK hP 0 rfl rfl 30 (Nat.le_of_ble_eq_true rfl) (ho (.fieldLink RX12 243 "NearEnoughModel" "rb" "I") (List.mem_of_getElem? (i := 3) rfl)) (fun _ h9 => h9) rfl dX12_readLine_59 ?_
        have bσ_30 : 0 ≤ (σ.1 30).toInt ∧ (σ.1 30).toInt ≤ 1 := hI.1 30
        have o17 : 0 ≤ (σ.1 30).toInt := by omega
        have o18 : (σ.1 30).toInt < ((2 : Nat) : Int) := by omega
        refine va_iald hx hb hK hP 5 4 rfl rfl (ti_inx o17 o18) dX12_readLine_62 ?_
        refine lv_topi (fun z89 ez89 => ?_)
        have gz89 : z89.toInt = ((σ.2.1 13) (Int32.toNatClampNeg (σ.1 30))).toInt := congrArg Int32.toInt (ez89.trans (congrFun rfl (Int32.toNatClampNeg (σ.1 30))))
        have bz89 : 0 ≤ z89.toInt ∧ z89.toInt ≤ 4 := by rw [ez89]; exact (hI.2 13) _ (cl_lt (n := 2) o17 o18)
        refine lv_iconst (v := 4) hx hb dX12_readLine_63 rg_31 ?_
        refine lv_icmp_eq (tgt := 85) hx hb dX12_readLine_64 rfl (fun c90 => ?_) (fun c90 => ?_)
        · have tc90 := (show z89.toInt = 4 from ti_eq rfl rg_32 c90)
          have o19 : -1 ≤ z78.toInt := by omega
          have o20 : z78.toInt ≤ 7 := by omega
          exact pt_85 σ z72 z75 z78 _ _ _ hI eqx.rf Mo.rf (Lx.rf hes) eqx.rf (show -1 ≤ z78.toInt ∧ z78.toInt ≤ 7 from ⟨o19, o20⟩) hP hD hS (lv_sub hl [3, 2, 1, 0] rfl)
        · have tc90 := (show z89.toInt ≠ 4 from ti_ne rfl rg_32 c90)
          refine lv_iload_n hx hb dX12_readLine_67 rfl (lv_at hl 0 rfl) ?_
          refine lv_if_lt (tgt := 89) hx hb dX12_readLine_68 rfl (fun c91 => ?_) (fun c91 => ?_)
          · have tc91 := (show z78.toInt < 0 from ti_lt rfl rg_11 c91)
            have N92 : When σ ((z72.toInt ≠ 0 → (σ.2.1 11 (σ.1 30).toNatClampNeg).toInt ≤ 1) ∧ (z72.toInt = 0 → z75.toInt ≠ 0 → (σ.2.1 13 (σ.1 30).toNatClampNeg).toInt ≤ 3) ∧ (z72.toInt = 0 → z75.toInt = 0 → 0 ≤ z78.toInt ∧ (σ.2.1 12 (σ.1 30).toNatClampNeg).toInt ≤ 11)) := fun _ => by omega
            have o21 : -1 ≤ z78.toInt := by omega
            have o22 : z78.toInt ≤ 7 := by omega
            exact pt_89 σ z72 z75 z78 _ _ _ hI eqx.rf Mo.rf (Lx.rf hes) eqx.rf (show -1 ≤ z78.toInt ∧ z78.toInt ≤ 7 from ⟨o21, o22⟩) N92 hP hD hS (lv_sub hl [3, 2, 1, 0] rfl)
          · have tc91 := (show 0 ≤ z78.toInt from ti_nlt rfl rg_11 c91)
            refine lv_aload_n hx hb dX12_readLine_71 rfl (lv_at hl 3 rfl) ?_
            refine va_get (D := (dC, dI)) (ci := 12) (v := .ref (ad 12)) (C := RX12) (T := TX12) (N := 59) hx hb hts hin12 hown hK hP 0 rfl rfl 12 (Nat.le_of_ble_eq_true rfl) (ho (.fieldLink RX12 24 "NearEnoughModel" "stepMany" "[I") (List.mem_of_getElem? (i := 2) rfl)) (fun _ h9 => h9) rfl dX12_readLine_72 ?_
            refine lv_aload_n hx hb dX12_readLine_75 rfl (lv_at hl 3 rfl) ?_
            refine va_get (D := (dC, dI)) (ci := 12) (v := .int (σ.1 30)) (C := RX12) (T := TX12) (N := 59) hx hb hts hin12 hown hK hP 0 rfl rfl 30 (Nat.le_of_ble_eq_true rfl) (ho (.fieldLink RX12 243 "NearEnoughModel" "rb" "I") (List.mem_of_getElem? (i := 3) rfl)) (fun _ h9 => h9) rfl dX12_readLine_76 ?_
            have bσ_30 : 0 ≤ (σ.1 30).toInt ∧ (σ.1 30).toInt ≤ 1 := hI.1 30
            refine va_iald hx hb hK hP 4 3 rfl rfl (ti_inx o17 o18) dX12_readLine_79 ?_
            refine lv_topi (fun z93 ez93 => ?_)
            have gz93 : z93.toInt = ((σ.2.1 12) (Int32.toNatClampNeg (σ.1 30))).toInt := congrArg Int32.toInt (ez93.trans (congrFun rfl (Int32.toNatClampNeg (σ.1 30))))
            have bz93 : 0 ≤ z93.toInt ∧ z93.toInt ≤ 12 := by rw [ez93]; exact (hI.2 12) _ (cl_lt (n := 2) o17 o18)
            refine lv_bipush (v := 12) hx hb dX12_readLine_80 rg_57 ?_
            refine lv_icmp_ne (tgt := 89) hx hb dX12_readLine_82 rfl (fun c94 => ?_) (fun c94 => ?_)
            · have tc94 := (show z93.toInt ≠ 12 from ti_ne rfl rg_58 c94)
              have N95 : When σ ((z72.toInt ≠ 0 → (σ.2.1 11 (σ.1 30).toNatClampNeg).toInt ≤ 1) ∧ (z72.toInt = 0 → z75.toInt ≠ 0 → (σ.2.1 13 (σ.1 30).toNatClampNeg).toInt ≤ 3) ∧ (z72.toInt = 0 → z75.toInt = 0 → 0 ≤ z78.toInt ∧ (σ.2.1 12 (σ.1 30).toNatClampNeg).toInt ≤ 11)) := fun _ => by omega
              have o23 : -1 ≤ z78.toInt := by omega
              have o24 : z78.toInt ≤ 7 := by omega
              exact pt_89 σ z72 z75 z78 _ _ _ hI eqx.rf Mo.rf (Lx.rf hes) eqx.rf (show -1 ≤ z78.toInt ∧ z78.toInt ≤ 7 from ⟨o23, o24⟩) N95 hP hD hS (lv_sub hl [3, 2, 1, 0] rfl)
            · have tc94 := (show z93.toInt = 12 from ti_eq rfl rg_58 c94)
              have o25 : -1 ≤ z78.toInt := by omega
              have o26 : z78.toInt ≤ 7 := by omega
              exact pt_85 σ z72 z75 z78 _ _ _ hI eqx.rf Mo.rf (Lx.rf hes) eqx.rf (show -1 ≤ z78.toInt ∧ z78.toInt ≤ 7 from ⟨o25, o26⟩) hP hD hS (lv_sub hl [3, 2, 1, 0] rfl)
    · have tc82 := (show z72.toInt ≠ 0 from ti_ne rfl rg_11 c82)
      refine lv_aload_n hx hb dX12_readLine_37 rfl (lv_at hl 3 rfl) ?_
      refine va_get (D := (dC, dI)) (ci := 12) (v := .ref (ad 11)) (C := RX12) (T := TX12) (N := 59) hx hb hts hin12 hown hK hP 0 rfl rfl 11 (Nat.le_of_ble_eq_true rfl) (ho (.fieldLink RX12 20 "NearEnoughModel" "rowMany" "[I") (List.mem_of_getElem? (i := 5) rfl)) (fun _ h9 => h9) rfl dX12_readLine_38 ?_
      refine lv_aload_n hx hb dX12_readLine_41 rfl (lv_at hl 3 rfl) ?_
      refine va_get (D := (dC, dI)) (ci := 12) (v := .int (σ.1 30)) (C := RX12) (T := TX12) (N := 59) hx hb hts hin12 hown hK hP 0 rfl rfl 30 (Nat.le_of_ble_eq_true rfl) (ho (.fieldLink RX12 243 "NearEnoughModel" "rb" "I") (List.mem_of_getElem? (i := 3) rfl)) (fun _ h9 => h9) rfl dX12_readLine_42 ?_
      have bσ_30 : 0 ≤ (σ.1 30).toInt ∧ (σ.1 30).toInt ≤ 1 := hI.1 30
      have o27 : 0 ≤ (σ.1 30).toInt := by omega
      have o28 : (σ.1 30).toInt < ((2 : Nat) : Int) := by omega
      refine va_iald hx hb hK hP 3 2 rfl rfl (ti_inx o27 o28) dX12_readLine_45 ?_
      refine lv_topi (fun z96 ez96 => ?_)
      have gz96 : z96.toInt = ((σ.2.1 11) (Int32.toNatClampNeg (σ.1 30))).toInt := congrArg Int32.toInt (ez96.trans (congrFun rfl (Int32.toNatClampNeg (σ.1 30))))
      have bz96 : 0 ≤ z96.toInt ∧ z96.toInt ≤ 2 := by rw [ez96]; exact (hI.2 11) _ (cl_lt (n := 2) o27 o28)
      refine lv_iconst (v := 2) hx hb dX12_readLine_46 rg_19 ?_
      refine lv_icmp_eq (tgt := 85) hx hb dX12_readLine_47 rfl (fun c97 => ?_) (fun c97 => ?_)
      · have tc97 := (show z96.toInt = 2 from ti_eq rfl rg_20 c97)
        have o29 : -1 ≤ z78.toInt := by omega
        have o30 : z78.toInt ≤ 7 := by omega
        exact pt_85 σ z72 z75 z78 _ _ _ hI eqx.rf Mo.rf (Lx.rf hes) eqx.rf (show -1 ≤ z78.toInt ∧ z78.toInt ≤ 7 from ⟨o29, o30⟩) hP hD hS (lv_sub hl [3, 2, 1, 0] rfl)
      · have tc97 := (show z96.toInt ≠ 2 from ti_ne rfl rg_20 c97)
        refine lv_iload_n hx hb dX12_readLine_50 rfl (lv_at hl 1 rfl) ?_
        refine lv_if_eq (tgt := 67) hx hb dX12_readLine_51 rfl (fun c98 => ?_) (fun c98 => ?_)
        · have tc98 := (show z75.toInt = 0 from ti_eq rfl rg_11 c98)
          refine lv_iload_n hx hb dX12_readLine_67 rfl (lv_at hl 0 rfl) ?_
          refine lv_if_lt (tgt := 89) hx hb dX12_readLine_68 rfl (fun c99 => ?_) (fun c99 => ?_)
          · have tc99 := (show z78.toInt < 0 from ti_lt rfl rg_11 c99)
            have N100 : When σ ((z72.toInt ≠ 0 → (σ.2.1 11 (σ.1 30).toNatClampNeg).toInt ≤ 1) ∧ (z72.toInt = 0 → z75.toInt ≠ 0 → (σ.2.1 13 (σ.1 30).toNatClampNeg).toInt ≤ 3) ∧ (z72.toInt = 0 → z75.toInt = 0 → 0 ≤ z78.toInt ∧ (σ.2.1 12 (σ.1 30).toNatClampNeg).toInt ≤ 11)) := fun _ => by omega
            have o31 : -1 ≤ z78.toInt := by omega
            have o32 : z78.toInt ≤ 7 := by omega
            exact pt_89 σ z72 z75 z78 _ _ _ hI eqx.rf Mo.rf (Lx.rf hes) eqx.rf (show -1 ≤ z78.toInt ∧ z78.toInt ≤ 7 from ⟨o31, o32⟩) N100 hP hD hS (lv_sub hl [3, 2, 1, 0] rfl)
          · have tc99 := (show 0 ≤ z78.toInt from ti_nlt rfl rg_11 c99)
            refine lv_aload_n hx hb dX12_readLine_71 rfl (lv_at hl 3 rfl) ?_
            refine va_get (D := (dC, dI)) (ci := 12) (v := .ref (ad 12)) (C := RX12) (T := TX12) (N := 59) hx hb hts hin12 hown hK hP 0 rfl rfl 12 (Nat.le_of_ble_eq_true rfl) (ho (.fieldLink RX12 24 "NearEnoughModel" "stepMany" "[I") (List.mem_of_getElem? (i := 2) rfl)) (fun _ h9 => h9) rfl dX12_readLine_72 ?_
            refine lv_aload_n hx hb dX12_readLine_75 rfl (lv_at hl 3 rfl) ?_
            refine va_get (D := (dC, dI)) (ci := 12) (v := .int (σ.1 30)) (C := RX12) (T := TX12) (N := 59) hx hb hts hin12 hown hK hP 0 rfl rfl 30 (Nat.le_of_ble_eq_true rfl) (ho (.fieldLink RX12 243 "NearEnoughModel" "rb" "I") (List.mem_of_getElem? (i := 3) rfl)) (fun _ h9 => h9) rfl dX12_readLine_76 ?_
            have bσ_30 : 0 ≤ (σ.1 30).toInt ∧ (σ.1 30).toInt ≤ 1 := hI.1 30
            refine va_iald hx hb hK hP 4 3 rfl rfl (ti_inx o27 o28) dX12_readLine_79 ?_
            refine lv_topi (fun z101 ez101 => ?_)
            have gz101 : z101.toInt = ((σ.2.1 12) (Int32.toNatClampNeg (σ.1 30))).toInt := congrArg Int32.toInt (ez101.trans (congrFun rfl (Int32.toNatClampNeg (σ.1 30))))
            have bz101 : 0 ≤ z101.toInt ∧ z101.toInt ≤ 12 := by rw [ez101]; exact (hI.2 12) _ (cl_lt (n := 2) o27 o28)
            refine lv_bipush (v := 12) hx hb dX12_readLine_80 rg_57 ?_
            refine lv_icmp_ne (tgt := 89) hx hb dX12_readLine_82 rfl (fun c102 => ?_) (fun c102 => ?_)
            · have tc102 := (show z101.toInt ≠ 12 from ti_ne rfl rg_58 c102)
              have N103 : When σ ((z72.toInt ≠ 0 → (σ.2.1 11 (σ.1 30).toNatClampNeg).toInt ≤ 1) ∧ (z72.toInt = 0 → z75.toInt ≠ 0 → (σ.2.1 13 (σ.1 30).toNatClampNeg).toInt ≤ 3) ∧ (z72.toInt = 0 → z75.toInt = 0 → 0 ≤ z78.toInt ∧ (σ.2.1 12 (σ.1 30).toNatClampNeg).toInt ≤ 11)) := fun _ => by omega
              have o33 : -1 ≤ z78.toInt := by omega
              have o34 : z78.toInt ≤ 7 := by omega
              exact pt_89 σ z72 z75 z78 _ _ _ hI eqx.rf Mo.rf (Lx.rf hes) eqx.rf (show -1 ≤ z78.toInt ∧ z78.toInt ≤ 7 from ⟨o33, o34⟩) N103 hP hD hS (lv_sub hl [3, 2, 1, 0] rfl)
            · have tc102 := (show z101.toInt = 12 from ti_eq rfl rg_58 c102)
              have o35 : -1 ≤ z78.toInt := by omega
              have o36 : z78.toInt ≤ 7 := by omega
              exact pt_85 σ z72 z75 z78 _ _ _ hI eqx.rf Mo.rf (Lx.rf hes) eqx.rf (show -1 ≤ z78.toInt ∧ z78.toInt ≤ 7 from ⟨o35, o36⟩) hP hD hS (lv_sub hl [3, 2, 1, 0] rfl)
        · have tc98 := (show z75.toInt ≠ 0 from ti_ne rfl rg_11 c98)
          refine lv_aload_n hx hb dX12_readLine_54 rfl (lv_at hl 3 rfl) ?_
          refine va_get (D := (dC, dI)) (ci := 12) (v := .ref (ad 13)) (C := RX12) (T := TX12) (N := 59) hx hb hts hin12 hown hK hP 0 rfl rfl 13 (Nat.le_of_ble_eq_true rfl) (ho (.fieldLink RX12 27 "NearEnoughModel" "endMany" "[I") (List.mem_of_getElem? (i := 4) rfl)) (fun _ h9 => h9) rfl dX12_readLine_55 ?_
          refine lv_aload_n hx hb dX12_readLine_58 rfl (lv_at hl 3 rfl) ?_
          refine va_get (D := (dC, dI)) (ci := 12) (v := .int (σ.1 30)) (C := RX12) (T := TX12) (N := 59) hx hb hts hin12 hown hK hP 0 rfl rfl 30 (Nat.le_of_ble_eq_true rfl) (ho (.fieldLink RX12 243 "NearEnoughModel" "rb" "I") (List.mem_of_getElem? (i := 3) rfl)) (fun _ h9 => h9) rfl dX12_readLine_59 ?_
          have bσ_30 : 0 ≤ (σ.1 30).toInt ∧ (σ.1 30).toInt ≤ 1 := hI.1 30
          refine va_iald hx hb hK hP 5 4 rfl rfl (ti_inx o27 o28) dX12_readLine_62 ?_
          refine lv_topi (fun z104 ez104 => ?_)
          have gz104 : z104.toInt = ((σ.2.1 13) (Int32.toNatClampNeg (σ.1 30))).toInt := congrArg Int32.toInt (ez104.trans (congrFun rfl (Int32.toNatClampNeg (σ.1 30))))
          have bz104 : 0 ≤ z104.toInt ∧ z104.toInt ≤ 4 := by rw [ez104]; exact (hI.2 13) _ (cl_lt (n := 2) o27 o28)
          refine lv_iconst (v := 4) hx hb dX12_readLine_63 rg_31 ?_
          refine lv_icmp_eq (tgt := 85) hx hb dX12_readLine_64 rfl (fun c105 => ?_) (fun c105 => ?_)
          · have tc105 := (show z104.toInt = 4 from ti_eq rfl rg_32 c105)
            have o37 : -1 ≤ z78.toInt := by omega
            have o38 : z78.toInt ≤ 7 := by omega
            exact pt_85 σ z72 z75 z78 _ _ _ hI eqx.rf Mo.rf (Lx.rf hes) eqx.rf (show -1 ≤ z78.toInt ∧ z78.toInt ≤ 7 from ⟨o37, o38⟩) hP hD hS (lv_sub hl [3, 2, 1, 0] rfl)
          · have tc105 := (show z104.toInt ≠ 4 from ti_ne rfl rg_32 c105)
            refine lv_iload_n hx hb dX12_readLine_67 rfl (lv_at hl 0 rfl) ?_
            refine lv_if_lt (tgt := 89) hx hb dX12_readLine_68 rfl (fun c106 => ?_) (fun c106 => ?_)
            · have tc106 := (show z78.toInt < 0 from ti_lt rfl rg_11 c106)
              have N107 : When σ ((z72.toInt ≠ 0 → (σ.2.1 11 (σ.1 30).toNatClampNeg).toInt ≤ 1) ∧ (z72.toInt = 0 → z75.toInt ≠ 0 → (σ.2.1 13 (σ.1 30).toNatClampNeg).toInt ≤ 3) ∧ (z72.toInt = 0 → z75.toInt = 0 → 0 ≤ z78.toInt ∧ (σ.2.1 12 (σ.1 30).toNatClampNeg).toInt ≤ 11)) := fun _ => by omega
              have o39 : -1 ≤ z78.toInt := by omega
              have o40 : z78.toInt ≤ 7 := by omega
              exact pt_89 σ z72 z75 z78 _ _ _ hI eqx.rf Mo.rf (Lx.rf hes) eqx.rf (show -1 ≤ z78.toInt ∧ z78.toInt ≤ 7 from ⟨o39, o40⟩) N107 hP hD hS (lv_sub hl [3, 2, 1, 0] rfl)
            · have tc106 := (show 0 ≤ z78.toInt from ti_nlt rfl rg_11 c106)
              refine lv_aload_n hx hb dX12_readLine_71 rfl (lv_at hl 3 rfl) ?_
              refine va_get (D := (dC, dI)) (ci := 12) (v := .ref (ad 12)) (C := RX12) (T := TX12) (N := 59) hx hb hts hin12 hown hK hP 0 rfl rfl 12 (Nat.le_of_ble_eq_true rfl) (ho (.fieldLink RX12 24 "NearEnoughModel" "stepMany" "[I") (List.mem_of_getElem? (i := 2) rfl)) (fun _ h9 => h9) rfl dX12_readLine_72 ?_
              refine lv_aload_n hx hb dX12_readLine_75 rfl (lv_at hl 3 rfl) ?_
              refine va_get (D := (dC, dI)) (ci := 12) (v := .int (σ.1 30)) (C := RX12) (T := TX12) (N := 59) hx hb hts hin12 hown hK hP 0 rfl rfl 30 (Nat.le_of_ble_eq_true rfl) (ho (.fieldLink RX12 243 "NearEnoughModel" "rb" "I") (List.mem_of_getElem? (i := 3) rfl)) (fun _ h9 => h9) rfl dX12_readLine_76 ?_
              have bσ_30 : 0 ≤ (σ.1 30).toInt ∧ (σ.1 30).toInt ≤ 1 := hI.1 30
              refine va_iald hx hb hK hP 4 3 rfl rfl (ti_inx o27 o28) dX12_readLine_79 ?_
              refine lv_topi (fun z108 ez108 => ?_)
              have gz108 : z108.toInt = ((σ.2.1 12) (Int32.toNatClampNeg (σ.1 30))).toInt := congrArg Int32.toInt (ez108.trans (congrFun rfl (Int32.toNatClampNeg (σ.1 30))))
              have bz108 : 0 ≤ z108.toInt ∧ z108.toInt ≤ 12 := by rw [ez108]; exact (hI.2 12) _ (cl_lt (n := 2) o27 o28)
              refine lv_bipush (v := 12) hx hb dX12_readLine_80 rg_57 ?_
              refine lv_icmp_ne (tgt := 89) hx hb dX12_readLine_82 rfl (fun c109 => ?_) (fun c109 => ?_)
              · have tc109 := (show z108.toInt ≠ 12 from ti_ne rfl rg_58 c109)
                have N110 : When σ ((z72.toInt ≠ 0 → (σ.2.1 11 (σ.1 30).toNatClampNeg).toInt ≤ 1) ∧ (z72.toInt = 0 → z75.toInt ≠ 0 → (σ.2.1 13 (σ.1 30).toNatClampNeg).toInt ≤ 3) ∧ (z72.toInt = 0 → z75.toInt = 0 → 0 ≤ z78.toInt ∧ (σ.2.1 12 (σ.1 30).toNatClampNeg).toInt ≤ 11)) := fun _ => by omega
                have o41 : -1 ≤ z78.toInt := by omega
                have o42 : z78.toInt ≤ 7 := by omega
                exact pt_89 σ z72 z75 z78 _ _ _ hI eqx.rf Mo.rf (Lx.rf hes) eqx.rf (show -1 ≤ z78.toInt ∧ z78.toInt ≤ 7 from ⟨o41, o42⟩) N110 hP hD hS (lv_sub hl [3, 2, 1, 0] rfl)
              · have tc109 := (show z108.toInt = 12 from ti_eq rfl rg_58 c109)
                have o43 : -1 ≤ z78.toInt := by omega
                have o44 : z78.toInt ≤ 7 := by omega
                exact pt_85 σ z72 z75 z78 _ _ _ hI eqx.rf Mo.rf (Lx.rf hes) eqx.rf (show -1 ≤ z78.toInt ∧ z78.toInt ≤ 7 from ⟨o43, o44⟩) hP hD hS (lv_sub hl [3, 2, 1, 0] rfl)
  · have tc81 := (show z72.toInt = 0 from ti_eq rfl rg_11 c81)
    refine lv_iload_n hx hb dX12_readLine_25 rfl (lv_at hl 1 rfl) ?_
    refine lv_if_ne (tgt := 33) hx hb dX12_readLine_26 rfl (fun c111 => ?_) (fun c111 => ?_)
    · have tc111 := (show z75.toInt ≠ 0 from ti_ne rfl rg_11 c111)
      refine lv_iload_n hx hb dX12_readLine_33 rfl (lv_at hl 2 rfl) ?_
      refine lv_if_eq (tgt := 50) hx hb dX12_readLine_34 rfl (fun c112 => ?_) (fun c112 => ?_)
      · have tc112 := (show z72.toInt = 0 from ti_eq rfl rg_11 c112)
        refine lv_iload_n hx hb dX12_readLine_50 rfl (lv_at hl 1 rfl) ?_
        refine lv_if_eq (tgt := 67) hx hb dX12_readLine_51 rfl (fun c113 => ?_) (fun c113 => ?_)
        · have tc113 := (show z75.toInt = 0 from ti_eq rfl rg_11 c113)
          refine lv_iload_n hx hb dX12_readLine_67 rfl (lv_at hl 0 rfl) ?_
          refine lv_if_lt (tgt := 89) hx hb dX12_readLine_68 rfl (fun c114 => ?_) (fun c114 => ?_)
          · have tc114 := (show z78.toInt < 0 from ti_lt rfl rg_11 c114)
            have N115 : When σ ((z72.toInt ≠ 0 → (σ.2.1 11 (σ.1 30).toNatClampNeg).toInt ≤ 1) ∧ (z72.toInt = 0 → z75.toInt ≠ 0 → (σ.2.1 13 (σ.1 30).toNatClampNeg).toInt ≤ 3) ∧ (z72.toInt = 0 → z75.toInt = 0 → 0 ≤ z78.toInt ∧ (σ.2.1 12 (σ.1 30).toNatClampNeg).toInt ≤ 11)) := fun _ => by omega
            have o45 : -1 ≤ z78.toInt := by omega
            have o46 : z78.toInt ≤ 7 := by omega
            exact pt_89 σ z72 z75 z78 _ _ _ hI eqx.rf Mo.rf (Lx.rf hes) eqx.rf (show -1 ≤ z78.toInt ∧ z78.toInt ≤ 7 from ⟨o45, o46⟩) N115 hP hD hS (lv_sub hl [3, 2, 1, 0] rfl)
          · have tc114 := (show 0 ≤ z78.toInt from ti_nlt rfl rg_11 c114)
            refine lv_aload_n hx hb dX12_readLine_71 rfl (lv_at hl 3 rfl) ?_
            refine va_get (D := (dC, dI)) (ci := 12) (v := .ref (ad 12)) (C := RX12) (T := TX12) (N := 59) hx hb hts hin12 hown hK hP 0 rfl rfl 12 (Nat.le_of_ble_eq_true rfl) (ho (.fieldLink RX12 24 "NearEnoughModel" "stepMany" "[I") (List.mem_of_getElem? (i := 2) rfl)) (fun _ h9 => h9) rfl dX12_readLine_72 ?_
            refine lv_aload_n hx hb dX12_readLine_75 rfl (lv_at hl 3 rfl) ?_
            refine va_get (D := (dC, dI)) (ci := 12) (v := .int (σ.1 30)) (C := RX12) (T := TX12) (N := 59) hx hb hts hin12 hown hK hP 0 rfl rfl 30 (Nat.le_of_ble_eq_true rfl) (ho (.fieldLink RX12 243 "NearEnoughModel" "rb" "I") (List.mem_of_getElem? (i := 3) rfl)) (fun _ h9 => h9) rfl dX12_readLine_76 ?_
            have bσ_30 : 0 ≤ (σ.1 30).toInt ∧ (σ.1 30).toInt ≤ 1 := hI.1 30
            have o47 : 0 ≤ (σ.1 30).toInt := by omega
            have o48 : (σ.1 30).toInt < ((2 : Nat) : Int) := by omega
            refine va_iald hx hb hK hP 4 3 rfl rfl (ti_inx o47 o48) dX12_readLine_79 ?_
            refine lv_topi (fun z116 ez116 => ?_)
            have gz116 : z116.toInt = ((σ.2.1 12) (Int32.toNatClampNeg (σ.1 30))).toInt := congrArg Int32.toInt (ez116.trans (congrFun rfl (Int32.toNatClampNeg (σ.1 30))))
            have bz116 : 0 ≤ z116.toInt ∧ z116.toInt ≤ 12 := by rw [ez116]; exact (hI.2 12) _ (cl_lt (n := 2) o47 o48)
            refine lv_bipush (v := 12) hx hb dX12_readLine_80 rg_57 ?_
            refine lv_icmp_ne (tgt := 89) hx hb dX12_readLine_82 rfl (fun c117 => ?_) (fun c117 => ?_)
            · have tc117 := (show z116.toInt ≠ 12 from ti_ne rfl rg_58 c117)
              have N118 : When σ ((z72.toInt ≠ 0 → (σ.2.1 11 (σ.1 30).toNatClampNeg).toInt ≤ 1) ∧ (z72.toInt = 0 → z75.toInt ≠ 0 → (σ.2.1 13 (σ.1 30).toNatClampNeg).toInt ≤ 3) ∧ (z72.toInt = 0 → z75.toInt = 0 → 0 ≤ z78.toInt ∧ (σ.2.1 12 (σ.1 30).toNatClampNeg).toInt ≤ 11)) := fun _ => by omega
              have o49 : -1 ≤ z78.toInt := by omega
              have o50 : z78.toInt ≤ 7 := by omega
              exact pt_89 σ z72 z75 z78 _ _ _ hI eqx.rf Mo.rf (Lx.rf hes) eqx.rf (show -1 ≤ z78.toInt ∧ z78.toInt ≤ 7 from ⟨o49, o50⟩) N118 hP hD hS (lv_sub hl [3, 2, 1, 0] rfl)
            · have tc117 := (show z116.toInt = 12 from ti_eq rfl rg_58 c117)
              have o51 : -1 ≤ z78.toInt := by omega
              have o52 : z78.toInt ≤ 7 := by omega
              exact pt_85 σ z72 z75 z78 _ _ _ hI eqx.rf Mo.rf (Lx.rf hes) eqx.rf (show -1 ≤ z78.toInt ∧ z78.toInt ≤ 7 from ⟨o51, o52⟩) hP hD hS (lv_sub hl [3, 2, 1, 0] rfl)
        · have tc113 := (show z75.toInt ≠ 0 from ti_ne rfl rg_11 c113)
          refine lv_aload_n hx hb dX12_readLine_54 rfl (lv_at hl 3 rfl) ?_
          refine va_get (D := (dC, dI)) (ci := 12) (v := .ref (ad 13)) (C := RX12) (T := TX12) (N := 59) hx hb hts hin12 hown hK hP 0 rfl rfl 13 (Nat.le_of_ble_eq_true rfl) (ho (.fieldLink RX12 27 "NearEnoughModel" "endMany" "[I") (List.mem_of_getElem? (i := 4) rfl)) (fun _ h9 => h9) rfl dX12_readLine_55 ?_
          refine lv_aload_n hx hb dX12_readLine_58 rfl (lv_at hl 3 rfl) ?_
          refine va_get (D := (dC, dI)) (ci := 12) (v := .int (σ.1 30)) (C := RX12) (T := TX12) (N := 59) hx hb hts hin12 hown hK hP 0 rfl rfl 30 (Nat.le_of_ble_eq_true rfl) (ho (.fieldLink RX12 243 "NearEnoughModel" "rb" "I") (List.mem_of_getElem? (i := 3) rfl)) (fun _ h9 => h9) rfl dX12_readLine_59 ?_
          have bσ_30 : 0 ≤ (σ.1 30).toInt ∧ (σ.1 30).toInt ≤ 1 := hI.1 30
          have o53 : 0 ≤ (σ.1 30).toInt := by omega
          have o54 : (σ.1 30).toInt < ((2 : Nat) : Int) := by omega
          refine va_iald hx hb hK hP 5 4 rfl rfl (ti_inx o53 o54) dX12_readLine_62 ?_
          refine lv_topi (fun z119 ez119 => ?_)
          have gz119 : z119.toInt = ((σ.2.1 13) (Int32.toNatClampNeg (σ.1 30))).toInt := congrArg Int32.toInt (ez119.trans (congrFun rfl (Int32.toNatClampNeg (σ.1 30))))
          have bz119 : 0 ≤ z119.toInt ∧ z119.toInt ≤ 4 := by rw [ez119]; exact (hI.2 13) _ (cl_lt (n := 2) o53 o54)
          refine lv_iconst (v := 4) hx hb dX12_readLine_63 rg_31 ?_
          refine lv_icmp_eq (tgt := 85) hx hb dX12_readLine_64 rfl (fun c120 => ?_) (fun c120 => ?_)
          · have tc120 := (show z119.toInt = 4 from ti_eq rfl rg_32 c120)
            have o55 : -1 ≤ z78.toInt := by omega
            have o56 : z78.toInt ≤ 7 := by omega
            exact pt_85 σ z72 z75 z78 _ _ _ hI eqx.rf Mo.rf (Lx.rf hes) eqx.rf (show -1 ≤ z78.toInt ∧ z78.toInt ≤ 7 from ⟨o55, o56⟩) hP hD hS (lv_sub hl [3, 2, 1, 0] rfl)
          · have tc120 := (show z119.toInt ≠ 4 from ti_ne rfl rg_32 c120)
            refine lv_iload_n hx hb dX12_readLine_67 rfl (lv_at hl 0 rfl) ?_
            refine lv_if_lt (tgt := 89) hx hb dX12_readLine_68 rfl (fun c121 => ?_) (fun c121 => ?_)
            · have tc121 := (show z78.toInt < 0 from ti_lt rfl rg_11 c121)
              have N122 : When σ ((z72.toInt ≠ 0 → (σ.2.1 11 (σ.1 30).toNatClampNeg).toInt ≤ 1) ∧ (z72.toInt = 0 → z75.toInt ≠ 0 → (σ.2.1 13 (σ.1 30).toNatClampNeg).toInt ≤ 3) ∧ (z72.toInt = 0 → z75.toInt = 0 → 0 ≤ z78.toInt ∧ (σ.2.1 12 (σ.1 30).toNatClampNeg).toInt ≤ 11)) := fun _ => by omega
              have o57 : -1 ≤ z78.toInt := by omega
              have o58 : z78.toInt ≤ 7 := by omega
              exact pt_89 σ z72 z75 z78 _ _ _ hI eqx.rf Mo.rf (Lx.rf hes) eqx.rf (show -1 ≤ z78.toInt ∧ z78.toInt ≤ 7 from ⟨o57, o58⟩) N122 hP hD hS (lv_sub hl [3, 2, 1, 0] rfl)
            · have tc121 := (show 0 ≤ z78.toInt from ti_nlt rfl rg_11 c121)
              refine lv_aload_n hx hb dX12_readLine_71 rfl (lv_at hl 3 rfl) ?_
              refine va_get (D := (dC, dI)) (ci := 12) (v := .ref (ad 12)) (C := RX12) (T := TX12) (N := 59) hx hb hts hin12 hown hK hP 0 rfl rfl 12 (Nat.le_of_ble_eq_true rfl) (ho (.fieldLink RX12 24 "NearEnoughModel" "stepMany" "[I") (List.mem_of_getElem? (i := 2) rfl)) (fun _ h9 => h9) rfl dX12_readLine_72 ?_
              refine lv_aload_n hx hb dX12_readLine_75 rfl (lv_at hl 3 rfl) ?_
              refine va_get (D := (dC, dI)) (ci := 12) (v := .int (σ.1 30)) (C := RX12) (T := TX12) (N := 59) hx hb hts hin12 hown hK hP 0 rfl rfl 30 (Nat.le_of_ble_eq_true rfl) (ho (.fieldLink RX12 243 "NearEnoughModel" "rb" "I") (List.mem_of_getElem? (i := 3) rfl)) (fun _ h9 => h9) rfl dX12_readLine_76 ?_
              have bσ_30 : 0 ≤ (σ.1 30).toInt ∧ (σ.1 30).toInt ≤ 1 := hI.1 30
              refine va_iald hx hb hK hP 4 3 rfl rfl (ti_inx o53 o54) dX12_readLine_79 ?_
              refine lv_topi (fun z123 ez123 => ?_)
              have gz123 : z123.toInt = ((σ.2.1 12) (Int32.toNatClampNeg (σ.1 30))).toInt := congrArg Int32.toInt (ez123.trans (congrFun rfl (Int32.toNatClampNeg (σ.1 30))))
              have bz123 : 0 ≤ z123.toInt ∧ z123.toInt ≤ 12 := by rw [ez123]; exact (hI.2 12) _ (cl_lt (n := 2) o53 o54)
              refine lv_bipush (v := 12) hx hb dX12_readLine_80 rg_57 ?_
              refine lv_icmp_ne (tgt := 89) hx hb dX12_readLine_82 rfl (fun c124 => ?_) (fun c124 => ?_)
              · have tc124 := (show z123.toInt ≠ 12 from ti_ne rfl rg_58 c124)
                have N125 : When σ ((z72.toInt ≠ 0 → (σ.2.1 11 (σ.1 30).toNatClampNeg).toInt ≤ 1) ∧ (z72.toInt = 0 → z75.toInt ≠ 0 → (σ.2.1 13 (σ.1 30).toNatClampNeg).toInt ≤ 3) ∧ (z72.toInt = 0 → z75.toInt = 0 → 0 ≤ z78.toInt ∧ (σ.2.1 12 (σ.1 30).toNatClampNeg).toInt ≤ 11)) := fun _ => by omega
                have o59 : -1 ≤ z78.toInt := by omega
                have o60 : z78.toInt ≤ 7 := by omega
                exact pt_89 σ z72 z75 z78 _ _ _ hI eqx.rf Mo.rf (Lx.rf hes) eqx.rf (show -1 ≤ z78.toInt ∧ z78.toInt ≤ 7 from ⟨o59, o60⟩) N125 hP hD hS (lv_sub hl [3, 2, 1, 0] rfl)
              · have tc124 := (show z123.toInt = 12 from ti_eq rfl rg_58 c124)
                have o61 : -1 ≤ z78.toInt := by omega
                have o62 : z78.toInt ≤ 7 := by omega
                exact pt_85 σ z72 z75 z78 _ _ _ hI eqx.rf Mo.rf (Lx.rf hes) eqx.rf (show -1 ≤ z78.toInt ∧ z78.toInt ≤ 7 from ⟨o61, o62⟩) hP hD hS (lv_sub hl [3, 2, 1, 0] rfl)
      · have tc112 := (show z72.toInt ≠ 0 from ti_ne rfl rg_11 c112)
        refine lv_aload_n hx hb dX12_readLine_37 rfl (lv_at hl 3 rfl) ?_
        refine va_get (D := (dC, dI)) (ci := 12) (v := .ref (ad 11)) (C := RX12) (T := TX12) (N := 59) hx hb hts hin12 hown hK hP 0 rfl rfl 11 (Nat.le_of_ble_eq_true rfl) (ho (.fieldLink RX12 20 "NearEnoughModel" "rowMany" "[I") (List.mem_of_getElem? (i := 5) rfl)) (fun _ h9 => h9) rfl dX12_readLine_38 ?_
        refine lv_aload_n hx hb dX12_readLine_41 rfl (lv_at hl 3 rfl) ?_
        refine va_get (D := (dC, dI)) (ci := 12) (v := .int (σ.1 30)) (C := RX12) (T := TX12) (N := 59) hx hb hts hin12 hown hK hP 0 rfl rfl 30 (Nat.le_of_ble_eq_true rfl) (ho (.fieldLink RX12 243 "NearEnoughModel" "rb" "I") (List.mem_of_getElem? (i := 3) rfl)) (fun _ h9 => h9) rfl dX12_readLine_42 ?_
        have bσ_30 : 0 ≤ (σ.1 30).toInt ∧ (σ.1 30).toInt ≤ 1 := hI.1 30
        have o63 : 0 ≤ (σ.1 30).toInt := by omega
        have o64 : (σ.1 30).toInt < ((2 : Nat) : Int) := by omega
        refine va_iald hx hb hK hP 3 2 rfl rfl (ti_inx o63 o64) dX12_readLine_45 ?_
        refine lv_topi (fun z126 ez126 => ?_)
        have gz126 : z126.toInt = ((σ.2.1 11) (Int32.toNatClampNeg (σ.1 30))).toInt := congrArg Int32.toInt (ez126.trans (congrFun rfl (Int32.toNatClampNeg (σ.1 30))))
        have bz126 : 0 ≤ z126.toInt ∧ z126.toInt ≤ 2 := by rw [ez126]; exact (hI.2 11) _ (cl_lt (n := 2) o63 o64)
        refine lv_iconst (v := 2) hx hb dX12_readLine_46 rg_19 ?_
        refine lv_icmp_eq (tgt := 85) hx hb dX12_readLine_47 rfl (fun c127 => ?_) (fun c127 => ?_)
        · have tc127 := (show z126.toInt = 2 from ti_eq rfl rg_20 c127)
          have o65 : -1 ≤ z78.toInt := by omega
          have o66 : z78.toInt ≤ 7 := by omega
          exact pt_85 σ z72 z75 z78 _ _ _ hI eqx.rf Mo.rf (Lx.rf hes) eqx.rf (show -1 ≤ z78.toInt ∧ z78.toInt ≤ 7 from ⟨o65, o66⟩) hP hD hS (lv_sub hl [3, 2, 1, 0] rfl)
        · have tc127 := (show z126.toInt ≠ 2 from ti_ne rfl rg_20 c127)
          refine lv_iload_n hx hb dX12_readLine_50 rfl (lv_at hl 1 rfl) ?_
          refine lv_if_eq (tgt := 67) hx hb dX12_readLine_51 rfl (fun c128 => ?_) (fun c128 => ?_)
          · have tc128 := (show z75.toInt = 0 from ti_eq rfl rg_11 c128)
            refine lv_iload_n hx hb dX12_readLine_67 rfl (lv_at hl 0 rfl) ?_
            refine lv_if_lt (tgt := 89) hx hb dX12_readLine_68 rfl (fun c129 => ?_) (fun c129 => ?_)
            · have tc129 := (show z78.toInt < 0 from ti_lt rfl rg_11 c129)
              have N130 : When σ ((z72.toInt ≠ 0 → (σ.2.1 11 (σ.1 30).toNatClampNeg).toInt ≤ 1) ∧ (z72.toInt = 0 → z75.toInt ≠ 0 → (σ.2.1 13 (σ.1 30).toNatClampNeg).toInt ≤ 3) ∧ (z72.toInt = 0 → z75.toInt = 0 → 0 ≤ z78.toInt ∧ (σ.2.1 12 (σ.1 30).toNatClampNeg).toInt ≤ 11)) := fun _ => by omega
              have o67 : -1 ≤ z78.toInt := by omega
              have o68 : z78.toInt ≤ 7 := by omega
              exact pt_89 σ z72 z75 z78 _ _ _ hI eqx.rf Mo.rf (Lx.rf hes) eqx.rf (show -1 ≤ z78.toInt ∧ z78.toInt ≤ 7 from ⟨o67, o68⟩) N130 hP hD hS (lv_sub hl [3, 2, 1, 0] rfl)
            · have tc129 := (show 0 ≤ z78.toInt from ti_nlt rfl rg_11 c129)
              refine lv_aload_n hx hb dX12_readLine_71 rfl (lv_at hl 3 rfl) ?_
              refine va_get (D := (dC, dI)) (ci := 12) (v := .ref (ad 12)) (C := RX12) (T := TX12) (N := 59) hx hb hts hin12 hown hK hP 0 rfl rfl 12 (Nat.le_of_ble_eq_true rfl) (ho (.fieldLink RX12 24 "NearEnoughModel" "stepMany" "[I") (List.mem_of_getElem? (i := 2) rfl)) (fun _ h9 => h9) rfl dX12_readLine_72 ?_
              refine lv_aload_n hx hb dX12_readLine_75 rfl (lv_at hl 3 rfl) ?_
              refine va_get (D := (dC, dI)) (ci := 12) (v := .int (σ.1 30)) (C := RX12) (T := TX12) (N := 59) hx hb hts hin12 hown hK hP 0 rfl rfl 30 (Nat.le_of_ble_eq_true rfl) (ho (.fieldLink RX12 243 "NearEnoughModel" "rb" "I") (List.mem_of_getElem? (i := 3) rfl)) (fun _ h9 => h9) rfl dX12_readLine_76 ?_
              have bσ_30 : 0 ≤ (σ.1 30).toInt ∧ (σ.1 30).toInt ≤ 1 := hI.1 30
              refine va_iald hx hb hK hP 4 3 rfl rfl (ti_inx o63 o64) dX12_readLine_79 ?_
              refine lv_topi (fun z131 ez131 => ?_)
              have gz131 : z131.toInt = ((σ.2.1 12) (Int32.toNatClampNeg (σ.1 30))).toInt := congrArg Int32.toInt (ez131.trans (congrFun rfl (Int32.toNatClampNeg (σ.1 30))))
              have bz131 : 0 ≤ z131.toInt ∧ z131.toInt ≤ 12 := by rw [ez131]; exact (hI.2 12) _ (cl_lt (n := 2) o63 o64)
              refine lv_bipush (v := 12) hx hb dX12_readLine_80 rg_57 ?_
              refine lv_icmp_ne (tgt := 89) hx hb dX12_readLine_82 rfl (fun c132 => ?_) (fun c132 => ?_)
              · have tc132 := (show z131.toInt ≠ 12 from ti_ne rfl rg_58 c132)
                have N133 : When σ ((z72.toInt ≠ 0 → (σ.2.1 11 (σ.1 30).toNatClampNeg).toInt ≤ 1) ∧ (z72.toInt = 0 → z75.toInt ≠ 0 → (σ.2.1 13 (σ.1 30).toNatClampNeg).toInt ≤ 3) ∧ (z72.toInt = 0 → z75.toInt = 0 → 0 ≤ z78.toInt ∧ (σ.2.1 12 (σ.1 30).toNatClampNeg).toInt ≤ 11)) := fun _ => by omega
                have o69 : -1 ≤ z78.toInt := by omega
                have o70 : z78.toInt ≤ 7 := by omega
                exact pt_89 σ z72 z75 z78 _ _ _ hI eqx.rf Mo.rf (Lx.rf hes) eqx.rf (show -1 ≤ z78.toInt ∧ z78.toInt ≤ 7 from ⟨o69, o70⟩) N133 hP hD hS (lv_sub hl [3, 2, 1, 0] rfl)
              · have tc132 := (show z131.toInt = 12 from ti_eq rfl rg_58 c132)
                have o71 : -1 ≤ z78.toInt := by omega
                have o72 : z78.toInt ≤ 7 := by omega
                exact pt_85 σ z72 z75 z78 _ _ _ hI eqx.rf Mo.rf (Lx.rf hes) eqx.rf (show -1 ≤ z78.toInt ∧ z78.toInt ≤ 7 from ⟨o71, o72⟩) hP hD hS (lv_sub hl [3, 2, 1, 0] rfl)
          · have tc128 := (show z75.toInt ≠ 0 from ti_ne rfl rg_11 c128)
            refine lv_aload_n hx hb dX12_readLine_54 rfl (lv_at hl 3 rfl) ?_
            refine va_get (D := (dC, dI)) (ci := 12) (v := .ref (ad 13)) (C := RX12) (T := TX12) (N := 59) hx hb hts hin12 hown hK hP 0 rfl rfl 13 (Nat.le_of_ble_eq_true rfl) (ho (.fieldLink RX12 27 "NearEnoughModel" "endMany" "[I") (List.mem_of_getElem? (i := 4) rfl)) (fun _ h9 => h9) rfl dX12_readLine_55 ?_
            refine lv_aload_n hx hb dX12_readLine_58 rfl (lv_at hl 3 rfl) ?_
            refine va_get (D := (dC, dI)) (ci := 12) (v := .int (σ.1 30)) (C := RX12) (T := TX12) (N := 59) hx hb hts hin12 hown hK hP 0 rfl rfl 30 (Nat.le_of_ble_eq_true rfl) (ho (.fieldLink RX12 243 "NearEnoughModel" "rb" "I") (List.mem_of_getElem? (i := 3) rfl)) (fun _ h9 => h9) rfl dX12_readLine_59 ?_
            have bσ_30 : 0 ≤ (σ.1 30).toInt ∧ (σ.1 30).toInt ≤ 1 := hI.1 30
            refine va_iald hx hb hK hP 5 4 rfl rfl (ti_inx o63 o64) dX12_readLine_62 ?_
            refine lv_topi (fun z134 ez134 => ?_)
            have gz134 : z134.toInt = ((σ.2.1 13) (Int32.toNatClampNeg (σ.1 30))).toInt := congrArg Int32.toInt (ez134.trans (congrFun rfl (Int32.toNatClampNeg (σ.1 30))))
            have bz134 : 0 ≤ z134.toInt ∧ z134.toInt ≤ 4 := by rw [ez134]; exact (hI.2 13) _ (cl_lt (n := 2) o63 o64)
            refine lv_iconst (v := 4) hx hb dX12_readLine_63 rg_31 ?_
            refine lv_icmp_eq (tgt := 85) hx hb dX12_readLine_64 rfl (fun c135 => ?_) (fun c135 => ?_)
            · have tc135 := (show z134.toInt = 4 from ti_eq rfl rg_32 c135)
              have o73 : -1 ≤ z78.toInt := by omega
              have o74 : z78.toInt ≤ 7 := by omega
              exact pt_85 σ z72 z75 z78 _ _ _ hI eqx.rf Mo.rf (Lx.rf hes) eqx.rf (show -1 ≤ z78.toInt ∧ z78.toInt ≤ 7 from ⟨o73, o74⟩) hP hD hS (lv_sub hl [3, 2, 1, 0] rfl)
            · have tc135 := (show z134.toInt ≠ 4 from ti_ne rfl rg_32 c135)
              refine lv_iload_n hx hb dX12_readLine_67 rfl (lv_at hl 0 rfl) ?_
              refine lv_if_lt (tgt := 89) hx hb dX12_readLine_68 rfl (fun c136 => ?_) (fun c136 => ?_)
              · have tc136 := (show z78.toInt < 0 from ti_lt rfl rg_11 c136)
                have N137 : When σ ((z72.toInt ≠ 0 → (σ.2.1 11 (σ.1 30).toNatClampNeg).toInt ≤ 1) ∧ (z72.toInt = 0 → z75.toInt ≠ 0 → (σ.2.1 13 (σ.1 30).toNatClampNeg).toInt ≤ 3) ∧ (z72.toInt = 0 → z75.toInt = 0 → 0 ≤ z78.toInt ∧ (σ.2.1 12 (σ.1 30).toNatClampNeg).toInt ≤ 11)) := fun _ => by omega
                have o75 : -1 ≤ z78.toInt := by omega
                have o76 : z78.toInt ≤ 7 := by omega
                exact pt_89 σ z72 z75 z78 _ _ _ hI eqx.rf Mo.rf (Lx.rf hes) eqx.rf (show -1 ≤ z78.toInt ∧ z78.toInt ≤ 7 from ⟨o75, o76⟩) N137 hP hD hS (lv_sub hl [3, 2, 1, 0] rfl)
              · have tc136 := (show 0 ≤ z78.toInt from ti_nlt rfl rg_11 c136)
                refine lv_aload_n hx hb dX12_readLine_71 rfl (lv_at hl 3 rfl) ?_
                refine va_get (D := (dC, dI)) (ci := 12) (v := .ref (ad 12)) (C := RX12) (T := TX12) (N := 59) hx hb hts hin12 hown hK hP 0 rfl rfl 12 (Nat.le_of_ble_eq_true rfl) (ho (.fieldLink RX12 24 "NearEnoughModel" "stepMany" "[I") (List.mem_of_getElem? (i := 2) rfl)) (fun _ h9 => h9) rfl dX12_readLine_72 ?_
                refine lv_aload_n hx hb dX12_readLine_75 rfl (lv_at hl 3 rfl) ?_
                refine va_get (D := (dC, dI)) (ci := 12) (v := .int (σ.1 30)) (C := RX12) (T := TX12) (N := 59) hx hb hts hin12 hown hK hP 0 rfl rfl 30 (Nat.le_of_ble_eq_true rfl) (ho (.fieldLink RX12 243 "NearEnoughModel" "rb" "I") (List.mem_of_getElem? (i := 3) rfl)) (fun _ h9 => h9) rfl dX12_readLine_76 ?_
                have bσ_30 : 0 ≤ (σ.1 30).toInt ∧ (σ.1 30).toInt ≤ 1 := hI.1 30
                refine va_iald hx hb hK hP 4 3 rfl rfl (ti_inx o63 o64) dX12_readLine_79 ?_
                refine lv_topi (fun z138 ez138 => ?_)
                have gz138 : z138.toInt = ((σ.2.1 12) (Int32.toNatClampNeg (σ.1 30))).toInt := congrArg Int32.toInt (ez138.trans (congrFun rfl (Int32.toNatClampNeg (σ.1 30))))
                have bz138 : 0 ≤ z138.toInt ∧ z138.toInt ≤ 12 := by rw [ez138]; exact (hI.2 12) _ (cl_lt (n := 2) o63 o64)
                refine lv_bipush (v := 12) hx hb dX12_readLine_80 rg_57 ?_
                refine lv_icmp_ne (tgt := 89) hx hb dX12_readLine_82 rfl (fun c139 => ?_) (fun c139 => ?_)
                · have tc139 := (show z138.toInt ≠ 12 from ti_ne rfl rg_58 c139)
                  have N140 : When σ ((z72.toInt ≠ 0 → (σ.2.1 11 (σ.1 30).toNatClampNeg).toInt ≤ 1) ∧ (z72.toInt = 0 → z75.toInt ≠ 0 → (σ.2.1 13 (σ.1 30).toNatClampNeg).toInt ≤ 3) ∧ (z72.toInt = 0 → z75.toInt = 0 → 0 ≤ z78.toInt ∧ (σ.2.1 12 (σ.1 30).toNatClampNeg).toInt ≤ 11)) := fun _ => by omega
                  have o77 : -1 ≤ z78.toInt := by omega
                  have o78 : z78.toInt ≤ 7 := by omega
                  exact pt_89 σ z72 z75 z78 _ _ _ hI eqx.rf Mo.rf (Lx.rf hes) eqx.rf (show -1 ≤ z78.toInt ∧ z78.toInt ≤ 7 from ⟨o77, o78⟩) N140 hP hD hS (lv_sub hl [3, 2, 1, 0] rfl)
                · have tc139 := (show z138.toInt = 12 from ti_eq rfl rg_58 c139)
                  have o79 : -1 ≤ z78.toInt := by omega
                  have o80 : z78.toInt ≤ 7 := by omega
                  exact pt_85 σ z72 z75 z78 _ _ _ hI eqx.rf Mo.rf (Lx.rf hes) eqx.rf (show -1 ≤ z78.toInt ∧ z78.toInt ≤ 7 from ⟨o79, o80⟩) hP hD hS (lv_sub hl [3, 2, 1, 0] rfl)
    · have tc111 := (show z75.toInt = 0 from ti_eq rfl rg_11 c111)
      refine lv_iload_n hx hb dX12_readLine_29 rfl (lv_at hl 0 rfl) ?_
      refine lv_if_lt (tgt := 85) hx hb dX12_readLine_30 rfl (fun c141 => ?_) (fun c141 => ?_)
      · have tc141 := (show z78.toInt < 0 from ti_lt rfl rg_11 c141)
        have o81 : -1 ≤ z78.toInt := by omega
        have o82 : z78.toInt ≤ 7 := by omega
        exact pt_85 σ z72 z75 z78 _ _ _ hI eqx.rf Mo.rf (Lx.rf hes) eqx.rf (show -1 ≤ z78.toInt ∧ z78.toInt ≤ 7 from ⟨o81, o82⟩) hP hD hS (lv_sub hl [3, 2, 1, 0] rfl)
      · have tc141 := (show 0 ≤ z78.toInt from ti_nlt rfl rg_11 c141)
        refine lv_iload_n hx hb dX12_readLine_33 rfl (lv_at hl 2 rfl) ?_
        refine lv_if_eq (tgt := 50) hx hb dX12_readLine_34 rfl (fun c142 => ?_) (fun c142 => ?_)
        · have tc142 := (show z72.toInt = 0 from ti_eq rfl rg_11 c142)
          refine lv_iload_n hx hb dX12_readLine_50 rfl (lv_at hl 1 rfl) ?_
          refine lv_if_eq (tgt := 67) hx hb dX12_readLine_51 rfl (fun c143 => ?_) (fun c143 => ?_)
          · have tc143 := (show z75.toInt = 0 from ti_eq rfl rg_11 c143)
            refine lv_iload_n hx hb dX12_readLine_67 rfl (lv_at hl 0 rfl) ?_
            refine lv_if_lt (tgt := 89) hx hb dX12_readLine_68 rfl (fun c144 => ?_) (fun c144 => ?_)
            · have tc144 := (show z78.toInt < 0 from ti_lt rfl rg_11 c144)
              have N145 : When σ ((z72.toInt ≠ 0 → (σ.2.1 11 (σ.1 30).toNatClampNeg).toInt ≤ 1) ∧ (z72.toInt = 0 → z75.toInt ≠ 0 → (σ.2.1 13 (σ.1 30).toNatClampNeg).toInt ≤ 3) ∧ (z72.toInt = 0 → z75.toInt = 0 → 0 ≤ z78.toInt ∧ (σ.2.1 12 (σ.1 30).toNatClampNeg).toInt ≤ 11)) := fun _ => by omega
              have o83 : -1 ≤ z78.toInt := by omega
              have o84 : z78.toInt ≤ 7 := by omega
              exact pt_89 σ z72 z75 z78 _ _ _ hI eqx.rf Mo.rf (Lx.rf hes) eqx.rf (show -1 ≤ z78.toInt ∧ z78.toInt ≤ 7 from ⟨o83, o84⟩) N145 hP hD hS (lv_sub hl [3, 2, 1, 0] rfl)
            · have tc144 := (show 0 ≤ z78.toInt from ti_nlt rfl rg_11 c144)
              refine lv_aload_n hx hb dX12_readLine_71 rfl (lv_at hl 3 rfl) ?_
              refine va_get (D := (dC, dI)) (ci := 12) (v := .ref (ad 12)) (C := RX12) (T := TX12) (N := 59) hx hb hts hin12 hown hK hP 0 rfl rfl 12 (Nat.le_of_ble_eq_true rfl) (ho (.fieldLink RX12 24 "NearEnoughModel" "stepMany" "[I") (List.mem_of_getElem? (i := 2) rfl)) (fun _ h9 => h9) rfl dX12_readLine_72 ?_
              refine lv_aload_n hx hb dX12_readLine_75 rfl (lv_at hl 3 rfl) ?_
              refine va_get (D := (dC, dI)) (ci := 12) (v := .int (σ.1 30)) (C := RX12) (T := TX12) (N := 59) hx hb hts hin12 hown hK hP 0 rfl rfl 30 (Nat.le_of_ble_eq_true rfl) (ho (.fieldLink RX12 243 "NearEnoughModel" "rb" "I") (List.mem_of_getElem? (i := 3) rfl)) (fun _ h9 => h9) rfl dX12_readLine_76 ?_
              have bσ_30 : 0 ≤ (σ.1 30).toInt ∧ (σ.1 30).toInt ≤ 1 := hI.1 30
              have o85 : 0 ≤ (σ.1 30).toInt := by omega
              have o86 : (σ.1 30).toInt < ((2 : Nat) : Int) := by omega
              refine va_iald hx hb hK hP 4 3 rfl rfl (ti_inx o85 o86) dX12_readLine_79 ?_
              refine lv_topi (fun z146 ez146 => ?_)
              have gz146 : z146.toInt = ((σ.2.1 12) (Int32.toNatClampNeg (σ.1 30))).toInt := congrArg Int32.toInt (ez146.trans (congrFun rfl (Int32.toNatClampNeg (σ.1 30))))
              have bz146 : 0 ≤ z146.toInt ∧ z146.toInt ≤ 12 := by rw [ez146]; exact (hI.2 12) _ (cl_lt (n := 2) o85 o86)
              refine lv_bipush (v := 12) hx hb dX12_readLine_80 rg_57 ?_
              refine lv_icmp_ne (tgt := 89) hx hb dX12_readLine_82 rfl (fun c147 => ?_) (fun c147 => ?_)
              · have tc147 := (show z146.toInt ≠ 12 from ti_ne rfl rg_58 c147)
                have N148 : When σ ((z72.toInt ≠ 0 → (σ.2.1 11 (σ.1 30).toNatClampNeg).toInt ≤ 1) ∧ (z72.toInt = 0 → z75.toInt ≠ 0 → (σ.2.1 13 (σ.1 30).toNatClampNeg).toInt ≤ 3) ∧ (z72.toInt = 0 → z75.toInt = 0 → 0 ≤ z78.toInt ∧ (σ.2.1 12 (σ.1 30).toNatClampNeg).toInt ≤ 11)) := fun _ => by omega
                have o87 : -1 ≤ z78.toInt := by omega
                have o88 : z78.toInt ≤ 7 := by omega
                exact pt_89 σ z72 z75 z78 _ _ _ hI eqx.rf Mo.rf (Lx.rf hes) eqx.rf (show -1 ≤ z78.toInt ∧ z78.toInt ≤ 7 from ⟨o87, o88⟩) N148 hP hD hS (lv_sub hl [3, 2, 1, 0] rfl)
              · have tc147 := (show z146.toInt = 12 from ti_eq rfl rg_58 c147)
                have o89 : -1 ≤ z78.toInt := by omega
                have o90 : z78.toInt ≤ 7 := by omega
                exact pt_85 σ z72 z75 z78 _ _ _ hI eqx.rf Mo.rf (Lx.rf hes) eqx.rf (show -1 ≤ z78.toInt ∧ z78.toInt ≤ 7 from ⟨o89, o90⟩) hP hD hS (lv_sub hl [3, 2, 1, 0] rfl)
          · have tc143 := (show z75.toInt ≠ 0 from ti_ne rfl rg_11 c143)
            refine lv_aload_n hx hb dX12_readLine_54 rfl (lv_at hl 3 rfl) ?_
            refine va_get (D := (dC, dI)) (ci := 12) (v := .ref (ad 13)) (C := RX12) (T := TX12) (N := 59) hx hb hts hin12 hown hK hP 0 rfl rfl 13 (Nat.le_of_ble_eq_true rfl) (ho (.fieldLink RX12 27 "NearEnoughModel" "endMany" "[I") (List.mem_of_getElem? (i := 4) rfl)) (fun _ h9 => h9) rfl dX12_readLine_55 ?_
            refine lv_aload_n hx hb dX12_readLine_58 rfl (lv_at hl 3 rfl) ?_
            refine va_get (D := (dC, dI)) (ci := 12) (v := .int (σ.1 30)) (C := RX12) (T := TX12) (N := 59) hx hb hts hin12 hown hK hP 0 rfl rfl 30 (Nat.le_of_ble_eq_true rfl) (ho (.fieldLink RX12 243 "NearEnoughModel" "rb" "I") (List.mem_of_getElem? (i := 3) rfl)) (fun _ h9 => h9) rfl dX12_readLine_59 ?_
            have bσ_30 : 0 ≤ (σ.1 30).toInt ∧ (σ.1 30).toInt ≤ 1 := hI.1 30
            have o91 : 0 ≤ (σ.1 30).toInt := by omega
            have o92 : (σ.1 30).toInt < ((2 : Nat) : Int) := by omega
            refine va_iald hx hb hK hP 5 4 rfl rfl (ti_inx o91 o92) dX12_readLine_62 ?_
            refine lv_topi (fun z149 ez149 => ?_)
            have gz149 : z149.toInt = ((σ.2.1 13) (Int32.toNatClampNeg (σ.1 30))).toInt := congrArg Int32.toInt (ez149.trans (congrFun rfl (Int32.toNatClampNeg (σ.1 30))))
            have bz149 : 0 ≤ z149.toInt ∧ z149.toInt ≤ 4 := by rw [ez149]; exact (hI.2 13) _ (cl_lt (n := 2) o91 o92)
            refine lv_iconst (v := 4) hx hb dX12_readLine_63 rg_31 ?_
            refine lv_icmp_eq (tgt := 85) hx hb dX12_readLine_64 rfl (fun c150 => ?_) (fun c150 => ?_)
            · have tc150 := (show z149.toInt = 4 from ti_eq rfl rg_32 c150)
              have o93 : -1 ≤ z78.toInt := by omega
              have o94 : z78.toInt ≤ 7 := by omega
              exact pt_85 σ z72 z75 z78 _ _ _ hI eqx.rf Mo.rf (Lx.rf hes) eqx.rf (show -1 ≤ z78.toInt ∧ z78.toInt ≤ 7 from ⟨o93, o94⟩) hP hD hS (lv_sub hl [3, 2, 1, 0] rfl)
            · have tc150 := (show z149.toInt ≠ 4 from ti_ne rfl rg_32 c150)
              refine lv_iload_n hx hb dX12_readLine_67 rfl (lv_at hl 0 rfl) ?_
              refine lv_if_lt (tgt := 89) hx hb dX12_readLine_68 rfl (fun c151 => ?_) (fun c151 => ?_)
              · have tc151 := (show z78.toInt < 0 from ti_lt rfl rg_11 c151)
                have N152 : When σ ((z72.toInt ≠ 0 → (σ.2.1 11 (σ.1 30).toNatClampNeg).toInt ≤ 1) ∧ (z72.toInt = 0 → z75.toInt ≠ 0 → (σ.2.1 13 (σ.1 30).toNatClampNeg).toInt ≤ 3) ∧ (z72.toInt = 0 → z75.toInt = 0 → 0 ≤ z78.toInt ∧ (σ.2.1 12 (σ.1 30).toNatClampNeg).toInt ≤ 11)) := fun _ => by omega
                have o95 : -1 ≤ z78.toInt := by omega
                have o96 : z78.toInt ≤ 7 := by omega
                exact pt_89 σ z72 z75 z78 _ _ _ hI eqx.rf Mo.rf (Lx.rf hes) eqx.rf (show -1 ≤ z78.toInt ∧ z78.toInt ≤ 7 from ⟨o95, o96⟩) N152 hP hD hS (lv_sub hl [3, 2, 1, 0] rfl)
              · have tc151 := (show 0 ≤ z78.toInt from ti_nlt rfl rg_11 c151)
                refine lv_aload_n hx hb dX12_readLine_71 rfl (lv_at hl 3 rfl) ?_
                refine va_get (D := (dC, dI)) (ci := 12) (v := .ref (ad 12)) (C := RX12) (T := TX12) (N := 59) hx hb hts hin12 hown hK hP 0 rfl rfl 12 (Nat.le_of_ble_eq_true rfl) (ho (.fieldLink RX12 24 "NearEnoughModel" "stepMany" "[I") (List.mem_of_getElem? (i := 2) rfl)) (fun _ h9 => h9) rfl dX12_readLine_72 ?_
                refine lv_aload_n hx hb dX12_readLine_75 rfl (lv_at hl 3 rfl) ?_
                refine va_get (D := (dC, dI)) (ci := 12) (v := .int (σ.1 30)) (C := RX12) (T := TX12) (N := 59) hx hb hts hin12 hown hK hP 0 rfl rfl 30 (Nat.le_of_ble_eq_true rfl) (ho (.fieldLink RX12 243 "NearEnoughModel" "rb" "I") (List.mem_of_getElem? (i := 3) rfl)) (fun _ h9 => h9) rfl dX12_readLine_76 ?_
                have bσ_30 : 0 ≤ (σ.1 30).toInt ∧ (σ.1 30).toInt ≤ 1 := hI.1 30
                refine va_iald hx hb hK hP 4 3 rfl rfl (ti_inx o91 o92) dX12_readLine_79 ?_
                refine lv_topi (fun z153 ez153 => ?_)
                have gz153 : z153.toInt = ((σ.2.1 12) (Int32.toNatClampNeg (σ.1 30))).toInt := congrArg Int32.toInt (ez153.trans (congrFun rfl (Int32.toNatClampNeg (σ.1 30))))
                have bz153 : 0 ≤ z153.toInt ∧ z153.toInt ≤ 12 := by rw [ez153]; exact (hI.2 12) _ (cl_lt (n := 2) o91 o92)
                refine lv_bipush (v := 12) hx hb dX12_readLine_80 rg_57 ?_
                refine lv_icmp_ne (tgt := 89) hx hb dX12_readLine_82 rfl (fun c154 => ?_) (fun c154 => ?_)
                · have tc154 := (show z153.toInt ≠ 12 from ti_ne rfl rg_58 c154)
                  have N155 : When σ ((z72.toInt ≠ 0 → (σ.2.1 11 (σ.1 30).toNatClampNeg).toInt ≤ 1) ∧ (z72.toInt = 0 → z75.toInt ≠ 0 → (σ.2.1 13 (σ.1 30).toNatClampNeg).toInt ≤ 3) ∧ (z72.toInt = 0 → z75.toInt = 0 → 0 ≤ z78.toInt ∧ (σ.2.1 12 (σ.1 30).toNatClampNeg).toInt ≤ 11)) := fun _ => by omega
                  have o97 : -1 ≤ z78.toInt := by omega
                  have o98 : z78.toInt ≤ 7 := by omega
                  exact pt_89 σ z72 z75 z78 _ _ _ hI eqx.rf Mo.rf (Lx.rf hes) eqx.rf (show -1 ≤ z78.toInt ∧ z78.toInt ≤ 7 from ⟨o97, o98⟩) N155 hP hD hS (lv_sub hl [3, 2, 1, 0] rfl)
                · have tc154 := (show z153.toInt = 12 from ti_eq rfl rg_58 c154)
                  have o99 : -1 ≤ z78.toInt := by omega
                  have o100 : z78.toInt ≤ 7 := by omega
                  exact pt_85 σ z72 z75 z78 _ _ _ hI eqx.rf Mo.rf (Lx.rf hes) eqx.rf (show -1 ≤ z78.toInt ∧ z78.toInt ≤ 7 from ⟨o99, o100⟩) hP hD hS (lv_sub hl [3, 2, 1, 0] rfl)
        · have tc142 := (show z72.toInt ≠ 0 from ti_ne rfl rg_11 c142)
          refine lv_aload_n hx hb dX12_readLine_37 rfl (lv_at hl 3 rfl) ?_
          refine va_get (D := (dC, dI)) (ci := 12) (v := .ref (ad 11)) (C := RX12) (T := TX12) (N := 59) hx hb hts hin12 hown hK hP 0 rfl rfl 11 (Nat.le_of_ble_eq_true rfl) (ho (.fieldLink RX12 20 "NearEnoughModel" "rowMany" "[I") (List.mem_of_getElem? (i := 5) rfl)) (fun _ h9 => h9) rfl dX12_readLine_38 ?_
          refine lv_aload_n hx hb dX12_readLine_41 rfl (lv_at hl 3 rfl) ?_
          refine va_get (D := (dC, dI)) (ci := 12) (v := .int (σ.1 30)) (C := RX12) (T := TX12) (N := 59) hx hb hts hin12 hown hK hP 0 rfl rfl 30 (Nat.le_of_ble_eq_true rfl) (ho (.fieldLink RX12 243 "NearEnoughModel" "rb" "I") (List.mem_of_getElem? (i := 3) rfl)) (fun _ h9 => h9) rfl dX12_readLine_42 ?_
          have bσ_30 : 0 ≤ (σ.1 30).toInt ∧ (σ.1 30).toInt ≤ 1 := hI.1 30
          have o101 : 0 ≤ (σ.1 30).toInt := by omega
          have o102 : (σ.1 30).toInt < ((2 : Nat) : Int) := by omega
          refine va_iald hx hb hK hP 3 2 rfl rfl (ti_inx o101 o102) dX12_readLine_45 ?_
          refine lv_topi (fun z156 ez156 => ?_)
          have gz156 : z156.toInt = ((σ.2.1 11) (Int32.toNatClampNeg (σ.1 30))).toInt := congrArg Int32.toInt (ez156.trans (congrFun rfl (Int32.toNatClampNeg (σ.1 30))))
          have bz156 : 0 ≤ z156.toInt ∧ z156.toInt ≤ 2 := by rw [ez156]; exact (hI.2 11) _ (cl_lt (n := 2) o101 o102)
          refine lv_iconst (v := 2) hx hb dX12_readLine_46 rg_19 ?_
          refine lv_icmp_eq (tgt := 85) hx hb dX12_readLine_47 rfl (fun c157 => ?_) (fun c157 => ?_)
          · have tc157 := (show z156.toInt = 2 from ti_eq rfl rg_20 c157)
            have o103 : -1 ≤ z78.toInt := by omega
            have o104 : z78.toInt ≤ 7 := by omega
            exact pt_85 σ z72 z75 z78 _ _ _ hI eqx.rf Mo.rf (Lx.rf hes) eqx.rf (show -1 ≤ z78.toInt ∧ z78.toInt ≤ 7 from ⟨o103, o104⟩) hP hD hS (lv_sub hl [3, 2, 1, 0] rfl)
          · have tc157 := (show z156.toInt ≠ 2 from ti_ne rfl rg_20 c157)
            refine lv_iload_n hx hb dX12_readLine_50 rfl (lv_at hl 1 rfl) ?_
            refine lv_if_eq (tgt := 67) hx hb dX12_readLine_51 rfl (fun c158 => ?_) (fun c158 => ?_)
            · have tc158 := (show z75.toInt = 0 from ti_eq rfl rg_11 c158)
              refine lv_iload_n hx hb dX12_readLine_67 rfl (lv_at hl 0 rfl) ?_
              refine lv_if_lt (tgt := 89) hx hb dX12_readLine_68 rfl (fun c159 => ?_) (fun c159 => ?_)
              · have tc159 := (show z78.toInt < 0 from ti_lt rfl rg_11 c159)
                have N160 : When σ ((z72.toInt ≠ 0 → (σ.2.1 11 (σ.1 30).toNatClampNeg).toInt ≤ 1) ∧ (z72.toInt = 0 → z75.toInt ≠ 0 → (σ.2.1 13 (σ.1 30).toNatClampNeg).toInt ≤ 3) ∧ (z72.toInt = 0 → z75.toInt = 0 → 0 ≤ z78.toInt ∧ (σ.2.1 12 (σ.1 30).toNatClampNeg).toInt ≤ 11)) := fun _ => by omega
                have o105 : -1 ≤ z78.toInt := by omega
                have o106 : z78.toInt ≤ 7 := by omega
                exact pt_89 σ z72 z75 z78 _ _ _ hI eqx.rf Mo.rf (Lx.rf hes) eqx.rf (show -1 ≤ z78.toInt ∧ z78.toInt ≤ 7 from ⟨o105, o106⟩) N160 hP hD hS (lv_sub hl [3, 2, 1, 0] rfl)
              · have tc159 := (show 0 ≤ z78.toInt from ti_nlt rfl rg_11 c159)
                refine lv_aload_n hx hb dX12_readLine_71 rfl (lv_at hl 3 rfl) ?_
                refine va_get (D := (dC, dI)) (ci := 12) (v := .ref (ad 12)) (C := RX12) (T := TX12) (N := 59) hx hb hts hin12 hown hK hP 0 rfl rfl 12 (Nat.le_of_ble_eq_true rfl) (ho (.fieldLink RX12 24 "NearEnoughModel" "stepMany" "[I") (List.mem_of_getElem? (i := 2) rfl)) (fun _ h9 => h9) rfl dX12_readLine_72 ?_
                refine lv_aload_n hx hb dX12_readLine_75 rfl (lv_at hl 3 rfl) ?_
                refine va_get (D := (dC, dI)) (ci := 12) (v := .int (σ.1 30)) (C := RX12) (T := TX12) (N := 59) hx hb hts hin12 hown hK hP 0 rfl rfl 30 (Nat.le_of_ble_eq_true rfl) (ho (.fieldLink RX12 243 "NearEnoughModel" "rb" "I") (List.mem_of_getElem? (i := 3) rfl)) (fun _ h9 => h9) rfl dX12_readLine_76 ?_
                have bσ_30 : 0 ≤ (σ.1 30).toInt ∧ (σ.1 30).toInt ≤ 1 := hI.1 30
                refine va_iald hx hb hK hP 4 3 rfl rfl (ti_inx o101 o102) dX12_readLine_79 ?_
                refine lv_topi (fun z161 ez161 => ?_)
                have gz161 : z161.toInt = ((σ.2.1 12) (Int32.toNatClampNeg (σ.1 30))).toInt := congrArg Int32.toInt (ez161.trans (congrFun rfl (Int32.toNatClampNeg (σ.1 30))))
                have bz161 : 0 ≤ z161.toInt ∧ z161.toInt ≤ 12 := by rw [ez161]; exact (hI.2 12) _ (cl_lt (n := 2) o101 o102)
                refine lv_bipush (v := 12) hx hb dX12_readLine_80 rg_57 ?_
                refine lv_icmp_ne (tgt := 89) hx hb dX12_readLine_82 rfl (fun c162 => ?_) (fun c162 => ?_)
                · have tc162 := (show z161.toInt ≠ 12 from ti_ne rfl rg_58 c162)
                  have N163 : When σ ((z72.toInt ≠ 0 → (σ.2.1 11 (σ.1 30).toNatClampNeg).toInt ≤ 1) ∧ (z72.toInt = 0 → z75.toInt ≠ 0 → (σ.2.1 13 (σ.1 30).toNatClampNeg).toInt ≤ 3) ∧ (z72.toInt = 0 → z75.toInt = 0 → 0 ≤ z78.toInt ∧ (σ.2.1 12 (σ.1 30).toNatClampNeg).toInt ≤ 11)) := fun _ => by omega
                  have o107 : -1 ≤ z78.toInt := by omega
                  have o108 : z78.toInt ≤ 7 := by omega
                  exact pt_89 σ z72 z75 z78 _ _ _ hI eqx.rf Mo.rf (Lx.rf hes) eqx.rf (show -1 ≤ z78.toInt ∧ z78.toInt ≤ 7 from ⟨o107, o108⟩) N163 hP hD hS (lv_sub hl [3, 2, 1, 0] rfl)
                · have tc162 := (show z161.toInt = 12 from ti_eq rfl rg_58 c162)
                  have o109 : -1 ≤ z78.toInt := by omega
                  have o110 : z78.toInt ≤ 7 := by omega
                  exact pt_85 σ z72 z75 z78 _ _ _ hI eqx.rf Mo.rf (Lx.rf hes) eqx.rf (show -1 ≤ z78.toInt ∧ z78.toInt ≤ 7 from ⟨o109, o110⟩) hP hD hS (lv_sub hl [3, 2, 1, 0] rfl)
            · have tc158 := (show z75.toInt ≠ 0 from ti_ne rfl rg_11 c158)
              refine lv_aload_n hx hb dX12_readLine_54 rfl (lv_at hl 3 rfl) ?_
              refine va_get (D := (dC, dI)) (ci := 12) (v := .ref (ad 13)) (C := RX12) (T := TX12) (N := 59) hx hb hts hin12 hown hK hP 0 rfl rfl 13 (Nat.le_of_ble_eq_true rfl) (ho (.fieldLink RX12 27 "NearEnoughModel" "endMany" "[I") (List.mem_of_getElem? (i := 4) rfl)) (fun _ h9 => h9) rfl dX12_readLine_55 ?_
              refine lv_aload_n hx hb dX12_readLine_58 rfl (lv_at hl 3 rfl) ?_
              refine va_get (D := (dC, dI)) (ci := 12) (v := .int (σ.1 30)) (C := RX12) (T := TX12) (N := 59) hx hb hts hin12 hown hK hP 0 rfl rfl 30 (Nat.le_of_ble_eq_true rfl) (ho (.fieldLink RX12 243 "NearEnoughModel" "rb" "I") (List.mem_of_getElem? (i := 3) rfl)) (fun _ h9 => h9) rfl dX12_readLine_59 ?_
              have bσ_30 : 0 ≤ (σ.1 30).toInt ∧ (σ.1 30).toInt ≤ 1 := hI.1 30
              refine va_iald hx hb hK hP 5 4 rfl rfl (ti_inx o101 o102) dX12_readLine_62 ?_
              refine lv_topi (fun z164 ez164 => ?_)
              have gz164 : z164.toInt = ((σ.2.1 13) (Int32.toNatClampNeg (σ.1 30))).toInt := congrArg Int32.toInt (ez164.trans (congrFun rfl (Int32.toNatClampNeg (σ.1 30))))
              have bz164 : 0 ≤ z164.toInt ∧ z164.toInt ≤ 4 := by rw [ez164]; exact (hI.2 13) _ (cl_lt (n := 2) o101 o102)
              refine lv_iconst (v := 4) hx hb dX12_readLine_63 rg_31 ?_
              refine lv_icmp_eq (tgt := 85) hx hb dX12_readLine_64 rfl (fun c165 => ?_) (fun c165 => ?_)
              · have tc165 := (show z164.toInt = 4 from ti_eq rfl rg_32 c165)
                have o111 : -1 ≤ z78.toInt := by omega
                have o112 : z78.toInt ≤ 7 := by omega
                exact pt_85 σ z72 z75 z78 _ _ _ hI eqx.rf Mo.rf (Lx.rf hes) eqx.rf (show -1 ≤ z78.toInt ∧ z78.toInt ≤ 7 from ⟨o111, o112⟩) hP hD hS (lv_sub hl [3, 2, 1, 0] rfl)
              · have tc165 := (show z164.toInt ≠ 4 from ti_ne rfl rg_32 c165)
                refine lv_iload_n hx hb dX12_readLine_67 rfl (lv_at hl 0 rfl) ?_
                refine lv_if_lt (tgt := 89) hx hb dX12_readLine_68 rfl (fun c166 => ?_) (fun c166 => ?_)
                · have tc166 := (show z78.toInt < 0 from ti_lt rfl rg_11 c166)
                  have N167 : When σ ((z72.toInt ≠ 0 → (σ.2.1 11 (σ.1 30).toNatClampNeg).toInt ≤ 1) ∧ (z72.toInt = 0 → z75.toInt ≠ 0 → (σ.2.1 13 (σ.1 30).toNatClampNeg).toInt ≤ 3) ∧ (z72.toInt = 0 → z75.toInt = 0 → 0 ≤ z78.toInt ∧ (σ.2.1 12 (σ.1 30).toNatClampNeg).toInt ≤ 11)) := fun _ => by omega
                  have o113 : -1 ≤ z78.toInt := by omega
                  have o114 : z78.toInt ≤ 7 := by omega
                  exact pt_89 σ z72 z75 z78 _ _ _ hI eqx.rf Mo.rf (Lx.rf hes) eqx.rf (show -1 ≤ z78.toInt ∧ z78.toInt ≤ 7 from ⟨o113, o114⟩) N167 hP hD hS (lv_sub hl [3, 2, 1, 0] rfl)
                · have tc166 := (show 0 ≤ z78.toInt from ti_nlt rfl rg_11 c166)
                  refine lv_aload_n hx hb dX12_readLine_71 rfl (lv_at hl 3 rfl) ?_
                  refine va_get (D := (dC, dI)) (ci := 12) (v := .ref (ad 12)) (C := RX12) (T := TX12) (N := 59) hx hb hts hin12 hown hK hP 0 rfl rfl 12 (Nat.le_of_ble_eq_true rfl) (ho (.fieldLink RX12 24 "NearEnoughModel" "stepMany" "[I") (List.mem_of_getElem? (i := 2) rfl)) (fun _ h9 => h9) rfl dX12_readLine_72 ?_
                  refine lv_aload_n hx hb dX12_readLine_75 rfl (lv_at hl 3 rfl) ?_
                  refine va_get (D := (dC, dI)) (ci := 12) (v := .int (σ.1 30)) (C := RX12) (T := TX12) (N := 59) hx hb hts hin12 hown hK hP 0 rfl rfl 30 (Nat.le_of_ble_eq_true rfl) (ho (.fieldLink RX12 243 "NearEnoughModel" "rb" "I") (List.mem_of_getElem? (i := 3) rfl)) (fun _ h9 => h9) rfl dX12_readLine_76 ?_
                  have bσ_30 : 0 ≤ (σ.1 30).toInt ∧ (σ.1 30).toInt ≤ 1 := hI.1 30
                  refine va_iald hx hb hK hP 4 3 rfl rfl (ti_inx o101 o102) dX12_readLine_79 ?_
                  refine lv_topi (fun z168 ez168 => ?_)
                  have gz168 : z168.toInt = ((σ.2.1 12) (Int32.toNatClampNeg (σ.1 30))).toInt := congrArg Int32.toInt (ez168.trans (congrFun rfl (Int32.toNatClampNeg (σ.1 30))))
                  have bz168 : 0 ≤ z168.toInt ∧ z168.toInt ≤ 12 := by rw [ez168]; exact (hI.2 12) _ (cl_lt (n := 2) o101 o102)
                  refine lv_bipush (v := 12) hx hb dX12_readLine_80 rg_57 ?_
                  refine lv_icmp_ne (tgt := 89) hx hb dX12_readLine_82 rfl (fun c169 => ?_) (fun c169 => ?_)
                  · have tc169 := (show z168.toInt ≠ 12 from ti_ne rfl rg_58 c169)
                    have N170 : When σ ((z72.toInt ≠ 0 → (σ.2.1 11 (σ.1 30).toNatClampNeg).toInt ≤ 1) ∧ (z72.toInt = 0 → z75.toInt ≠ 0 → (σ.2.1 13 (σ.1 30).toNatClampNeg).toInt ≤ 3) ∧ (z72.toInt = 0 → z75.toInt = 0 → 0 ≤ z78.toInt ∧ (σ.2.1 12 (σ.1 30).toNatClampNeg).toInt ≤ 11)) := fun _ => by omega
                    have o115 : -1 ≤ z78.toInt := by omega
                    have o116 : z78.toInt ≤ 7 := by omega
                    exact pt_89 σ z72 z75 z78 _ _ _ hI eqx.rf Mo.rf (Lx.rf hes) eqx.rf (show -1 ≤ z78.toInt ∧ z78.toInt ≤ 7 from ⟨o115, o116⟩) N170 hP hD hS (lv_sub hl [3, 2, 1, 0] rfl)
                  · have tc169 := (show z168.toInt = 12 from ti_eq rfl rg_58 c169)
                    have o117 : -1 ≤ z78.toInt := by omega
                    have o118 : z78.toInt ≤ 7 := by omega
                    exact pt_85 σ z72 z75 z78 _ _ _ hI eqx.rf Mo.rf (Lx.rf hes) eqx.rf (show -1 ≤ z78.toInt ∧ z78.toInt ≤ 7 from ⟨o117, o118⟩) hP hD hS (lv_sub hl [3, 2, 1, 0] rfl)

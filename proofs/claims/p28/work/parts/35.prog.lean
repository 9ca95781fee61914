theorem dX12_program_100 : decode cX12_program 100 = .ok (.aload_n 0, 1) := by decide +kernel
theorem dX12_program_101 : decode cX12_program 101 = .ok (.invokevirtual 224, 3) := by decide +kernel
theorem dX12_program_104 : decode cX12_program 104 = .ok (.ifCond .eq 17, 3) := by decide +kernel
theorem dX12_program_121 : decode cX12_program 121 = .ok (.aload_n 0, 1) := by decide +kernel
theorem dX12_program_122 : decode cX12_program 122 = .ok (.invokevirtual 224, 3) := by decide +kernel
theorem dX12_program_125 : decode cX12_program 125 = .ok (.ifCond .ne 5, 3) := by decide +kernel
theorem dX12_program_130 : decode cX12_program 130 = .ok (.aload_n 0, 1) := by decide +kernel
theorem dX12_program_131 : decode cX12_program 131 = .ok (.aload_n 0, 1) := by decide +kernel
theorem dX12_program_132 : decode cX12_program 132 = .ok (.getfield 243, 3) := by decide +kernel
theorem dX12_program_135 : decode cX12_program 135 = .ok (.putfield 240, 3) := by decide +kernel
theorem dX12_program_138 : decode cX12_program 138 = .ok (.aload_n 0, 1) := by decide +kernel
theorem dX12_program_139 : decode cX12_program 139 = .ok (.iconst 0, 1) := by decide +kernel
theorem dX12_program_140 : decode cX12_program 140 = .ok (.putfield 249, 3) := by decide +kernel
theorem dX12_program_143 : decode cX12_program 143 = .ok (.aload_n 0, 1) := by decide +kernel
theorem dX12_program_144 : decode cX12_program 144 = .ok (.iconst 0, 1) := by decide +kernel
theorem dX12_program_145 : decode cX12_program 145 = .ok (.putfield 252, 3) := by decide +kernel
theorem dX12_program_148 : decode cX12_program 148 = .ok (.aload_n 0, 1) := by decide +kernel
theorem dX12_program_149 : decode cX12_program 149 = .ok (.iconst 0, 1) := by decide +kernel
theorem dX12_program_150 : decode cX12_program 150 = .ok (.putfield 255, 3) := by decide +kernel
theorem dX12_program_153 : decode cX12_program 153 = .ok (.aload_n 0, 1) := by decide +kernel
theorem dX12_program_154 : decode cX12_program 154 = .ok (.iconst 0, 1) := by decide +kernel
theorem dX12_program_155 : decode cX12_program 155 = .ok (.putfield 258, 3) := by decide +kernel
theorem dX12_program_158 : decode cX12_program 158 = .ok (.aload_n 0, 1) := by decide +kernel
theorem dX12_program_159 : decode cX12_program 159 = .ok (.getfield 24, 3) := by decide +kernel
theorem dX12_program_162 : decode cX12_program 162 = .ok (.aload_n 0, 1) := by decide +kernel
theorem dX12_program_163 : decode cX12_program 163 = .ok (.getfield 240, 3) := by decide +kernel
theorem dX12_program_166 : decode cX12_program 166 = .ok (.iaload, 1) := by decide +kernel
theorem dX12_program_167 : decode cX12_program 167 = .ok (.ireturn, 1) := by decide +kernel
theorem dX12_program_128 : decode cX12_program 128 = .ok (.iconst (-1), 1) := by decide +kernel
theorem dX12_program_129 : decode cX12_program 129 = .ok (.ireturn, 1) := by decide +kernel
theorem dX12_program_107 : decode cX12_program 107 = .ok (.aload_n 0, 1) := by decide +kernel
theorem dX12_program_108 : decode cX12_program 108 = .ok (.getfield 199, 3) := by decide +kernel
theorem dX12_program_111 : decode cX12_program 111 = .ok (.ifCond .eq 10, 3) := by decide +kernel
theorem dX12_program_114 : decode cX12_program 114 = .ok (.aload_n 0, 1) := by decide +kernel
theorem dX12_program_115 : decode cX12_program 115 = .ok (.invokevirtual 246, 3) := by decide +kernel
theorem dX12_program_118 : decode cX12_program 118 = .ok (.goto (-18), 3) := by decide +kernel
theorem dX12_program_20 : decode cX12_program 20 = .ok (.iload_n 1, 1) := by decide +kernel
theorem dX12_program_21 : decode cX12_program 21 = .ok (.aload_n 0, 1) := by decide +kernel
theorem dX12_program_22 : decode cX12_program 22 = .ok (.getfield 137, 3) := by decide +kernel
theorem dX12_program_25 : decode cX12_program 25 = .ok (.if_icmp .ge 21, 3) := by decide +kernel
theorem dX12_program_46 : decode cX12_program 46 = .ok (.aload_n 0, 1) := by decide +kernel
theorem dX12_program_47 : decode cX12_program 47 = .ok (.iconst 0, 1) := by decide +kernel
theorem dX12_program_48 : decode cX12_program 48 = .ok (.putfield 237, 3) := by decide +kernel
theorem dX12_program_51 : decode cX12_program 51 = .ok (.aload_n 0, 1) := by decide +kernel
theorem dX12_program_52 : decode cX12_program 52 = .ok (.iconst 0, 1) := by decide +kernel
theorem dX12_program_53 : decode cX12_program 53 = .ok (.putfield 189, 3) := by decide +kernel
theorem dX12_program_56 : decode cX12_program 56 = .ok (.aload_n 0, 1) := by decide +kernel
theorem dX12_program_57 : decode cX12_program 57 = .ok (.iconst 1, 1) := by decide +kernel
theorem dX12_program_58 : decode cX12_program 58 = .ok (.aload_n 0, 1) := by decide +kernel
theorem dX12_program_59 : decode cX12_program 59 = .ok (.getfield 240, 3) := by decide +kernel
theorem dX12_program_62 : decode cX12_program 62 = .ok (.isub, 1) := by decide +kernel
theorem dX12_program_63 : decode cX12_program 63 = .ok (.putfield 243, 3) := by decide +kernel
theorem dX12_program_66 : decode cX12_program 66 = .ok (.aload_n 0, 1) := by decide +kernel
theorem dX12_program_67 : decode cX12_program 67 = .ok (.getfield 20, 3) := by decide +kernel
theorem dX12_program_70 : decode cX12_program 70 = .ok (.aload_n 0, 1) := by decide +kernel
theorem dX12_program_71 : decode cX12_program 71 = .ok (.getfield 243, 3) := by decide +kernel
theorem dX12_program_74 : decode cX12_program 74 = .ok (.iconst 0, 1) := by decide +kernel
theorem dX12_program_75 : decode cX12_program 75 = .ok (.iastore, 1) := by decide +kernel
theorem dX12_program_76 : decode cX12_program 76 = .ok (.aload_n 0, 1) := by decide +kernel
theorem dX12_program_77 : decode cX12_program 77 = .ok (.getfield 24, 3) := by decide +kernel
theorem dX12_program_80 : decode cX12_program 80 = .ok (.aload_n 0, 1) := by decide +kernel
theorem dX12_program_81 : decode cX12_program 81 = .ok (.getfield 243, 3) := by decide +kernel
theorem dX12_program_84 : decode cX12_program 84 = .ok (.iconst 0, 1) := by decide +kernel
theorem dX12_program_85 : decode cX12_program 85 = .ok (.iastore, 1) := by decide +kernel
theorem dX12_program_86 : decode cX12_program 86 = .ok (.aload_n 0, 1) := by decide +kernel
theorem dX12_program_87 : decode cX12_program 87 = .ok (.getfield 27, 3) := by decide +kernel
theorem dX12_program_90 : decode cX12_program 90 = .ok (.aload_n 0, 1) := by decide +kernel
theorem dX12_program_91 : decode cX12_program 91 = .ok (.getfield 243, 3) := by decide +kernel
theorem dX12_program_94 : decode cX12_program 94 = .ok (.iconst 0, 1) := by decide +kernel
theorem dX12_program_95 : decode cX12_program 95 = .ok (.iastore, 1) := by decide +kernel
theorem dX12_program_96 : decode cX12_program 96 = .ok (.aload_n 0, 1) := by decide +kernel
theorem dX12_program_97 : decode cX12_program 97 = .ok (.invokevirtual 228, 3) := by decide +kernel
theorem dX12_program_28 : decode cX12_program 28 = .ok (.aload_n 0, 1) := by decide +kernel
theorem dX12_program_29 : decode cX12_program 29 = .ok (.getfield 13, 3) := by decide +kernel
theorem dX12_program_32 : decode cX12_program 32 = .ok (.iload_n 1, 1) := by decide +kernel
theorem dX12_program_33 : decode cX12_program 33 = .ok (.aload_n 0, 1) := by decide +kernel
theorem dX12_program_34 : decode cX12_program 34 = .ok (.getfield 7, 3) := by decide +kernel
theorem dX12_program_37 : decode cX12_program 37 = .ok (.iload_n 1, 1) := by decide +kernel
theorem dX12_program_38 : decode cX12_program 38 = .ok (.baload, 1) := by decide +kernel
theorem dX12_program_39 : decode cX12_program 39 = .ok (.bastore, 1) := by decide +kernel
theorem dX12_program_40 : decode cX12_program 40 = .ok (.iinc 1 1, 3) := by decide +kernel
theorem dX12_program_43 : decode cX12_program 43 = .ok (.goto (-23), 3) := by decide +kernel
theorem dX12_program_0 : decode cX12_program 0 = .ok (.aload_n 0, 1) := by decide +kernel
theorem dX12_program_1 : decode cX12_program 1 = .ok (.iconst 0, 1) := by decide +kernel
theorem dX12_program_2 : decode cX12_program 2 = .ok (.putfield 140, 3) := by decide +kernel
theorem dX12_program_5 : decode cX12_program 5 = .ok (.aload_n 0, 1) := by decide +kernel
theorem dX12_program_6 : decode cX12_program 6 = .ok (.iconst (-1), 1) := by decide +kernel
theorem dX12_program_7 : decode cX12_program 7 = .ok (.putfield 16, 3) := by decide +kernel
theorem dX12_program_10 : decode cX12_program 10 = .ok (.aload_n 0, 1) := by decide +kernel
theorem dX12_program_11 : decode cX12_program 11 = .ok (.aload_n 0, 1) := by decide +kernel
theorem dX12_program_12 : decode cX12_program 12 = .ok (.getfield 237, 3) := by decide +kernel
theorem dX12_program_15 : decode cX12_program 15 = .ok (.putfield 137, 3) := by decide +kernel
theorem dX12_program_18 : decode cX12_program 18 = .ok (.iconst 0, 1) := by decide +kernel
theorem dX12_program_19 : decode cX12_program 19 = .ok (.istore_n 1, 1) := by decide +kernel
theorem rg_457 : (0 : Int) ≤ (0 : Int32).toInt ∧ (0 : Int32).toInt ≤ 40 := by decide
theorem rg_458 : (0 : Int) ≤ (0 : Int32).toInt ∧ (0 : Int32).toInt ≤ 12 := by decide
theorem rg_459 : (0 : Int) ≤ (0 : Int32).toInt ∧ (0 : Int32).toInt ≤ 4 := by decide
theorem rg_460 : (0 : Int) ≤ (0 : Int32).toInt ∧ (0 : Int32).toInt ≤ 99999 := by decide
theorem rg_451 : ∀ q, q ∈ [4, 5, 3, 1, 2, 30, 6, 7, 8, 9, 10, 25, 14, 15, 16, 11, 17, 18, 19, 20, 21, 27, 28, 26, 12, 22, 23, 24, 13] → q ∈ [4, 5, 3, 1, 2, 30, 6, 7, 8, 9, 10, 25, 14, 15, 16, 11, 17, 18, 19, 20, 21, 27, 28, 26, 12, 22, 23, 24, 13, 29, 39, 40, 53, 58] := by decide
theorem rg_452 : 29 ∈ [4, 5, 3, 1, 2, 30, 6, 7, 8, 9, 10, 25, 14, 15, 16, 11, 17, 18, 19, 20, 21, 27, 28, 26, 12, 22, 23, 24, 13, 29, 39, 40, 53, 58] := by decide
theorem rg_453 : 39 ∈ [4, 5, 3, 1, 2, 30, 6, 7, 8, 9, 10, 25, 14, 15, 16, 11, 17, 18, 19, 20, 21, 27, 28, 26, 12, 22, 23, 24, 13, 29, 39, 40, 53, 58] := by decide
theorem rg_454 : 40 ∈ [4, 5, 3, 1, 2, 30, 6, 7, 8, 9, 10, 25, 14, 15, 16, 11, 17, 18, 19, 20, 21, 27, 28, 26, 12, 22, 23, 24, 13, 29, 39, 40, 53, 58] := by decide
theorem rg_455 : 53 ∈ [4, 5, 3, 1, 2, 30, 6, 7, 8, 9, 10, 25, 14, 15, 16, 11, 17, 18, 19, 20, 21, 27, 28, 26, 12, 22, 23, 24, 13, 29, 39, 40, 53, 58] := by decide
theorem rg_456 : 58 ∈ [4, 5, 3, 1, 2, 30, 6, 7, 8, 9, 10, 25, 14, 15, 16, 11, 17, 18, 19, 20, 21, 27, 28, 26, 12, 22, 23, 24, 13, 29, 39, 40, 53, 58] := by decide
theorem rg_461 : ∀ q, q ∈ [6, 7, 8, 9, 10, 4, 5, 25, 14, 15, 16, 11, 17, 18, 19, 20, 21, 27, 28, 26, 12, 22, 23, 24, 13] → q ∈ [4, 5, 3, 1, 2, 30, 6, 7, 8, 9, 10, 25, 14, 15, 16, 11, 17, 18, 19, 20, 21, 27, 28, 26, 12, 22, 23, 24, 13] := by decide
theorem rg_462 : 29 ∉ [6, 7, 8, 9, 10, 4, 5, 25, 14, 15, 16, 11, 17, 18, 19, 20, 21, 27, 28, 26, 12, 22, 23, 24, 13] := by decide
theorem rg_450 : 29 ∉ [4, 5, 3, 1, 2, 30, 6, 7, 8, 9, 10, 25, 14, 15, 16, 11, 17, 18, 19, 20, 21, 27, 28, 26, 12, 22, 23, 24, 13] := by decide
theorem rg_463 : (0 : Int) ≤ (0 : Int32).toInt ∧ (0 : Int32).toInt ≤ 1000 := by decide
theorem rg_464 : (0 : Int) ≤ (0 : Int32).toInt ∧ (0 : Int32).toInt ≤ 2 := by decide
theorem rg_465 : 2 ∈ [4, 5, 3, 1, 2, 30, 6, 7, 8, 9, 10, 25, 14, 15, 16, 11, 17, 18, 19, 20, 21, 27, 28, 26, 12, 22, 23, 24, 13] := by decide
theorem rg_466 : 7 ∈ [4, 5, 3, 1, 2, 30, 6, 7, 8, 9, 10, 25, 14, 15, 16, 11, 17, 18, 19, 20, 21, 27, 28, 26, 12, 22, 23, 24, 13] := by decide
theorem rg_467 : 30 ∈ [4, 5, 3, 1, 2, 30, 6, 7, 8, 9, 10, 25, 14, 15, 16, 11, 17, 18, 19, 20, 21, 27, 28, 26, 12, 22, 23, 24, 13] := by decide
theorem rg_468 : 11 ∈ [4, 5, 3, 1, 2, 30, 6, 7, 8, 9, 10, 25, 14, 15, 16, 11, 17, 18, 19, 20, 21, 27, 28, 26, 12, 22, 23, 24, 13] := by decide
theorem rg_469 : 12 ∈ [4, 5, 3, 1, 2, 30, 6, 7, 8, 9, 10, 25, 14, 15, 16, 11, 17, 18, 19, 20, 21, 27, 28, 26, 12, 22, 23, 24, 13] := by decide
theorem rg_470 : 13 ∈ [4, 5, 3, 1, 2, 30, 6, 7, 8, 9, 10, 25, 14, 15, 16, 11, 17, 18, 19, 20, 21, 27, 28, 26, 12, 22, 23, 24, 13] := by decide
theorem rg_471 : ∀ q, q ∈ [6, 7, 8, 9, 10] → q ∈ [4, 5, 3, 1, 2, 30, 6, 7, 8, 9, 10, 25, 14, 15, 16, 11, 17, 18, 19, 20, 21, 27, 28, 26, 12, 22, 23, 24, 13] := by decide
theorem rg_472 : 29 ∉ [6, 7, 8, 9, 10] := by decide
theorem rg_473 : 1 ∈ [4, 5, 3, 1, 2, 30, 6, 7, 8, 9, 10, 25, 14, 15, 16, 11, 17, 18, 19, 20, 21, 27, 28, 26, 12, 22, 23, 24, 13] := by decide
theorem rg_474 : (0 : Int) ≤ (0 : Int32).toInt ∧ (0 : Int32).toInt ≤ 7 := by decide
theorem rg_475 : 4 ∈ [4, 5, 3, 1, 2, 30, 6, 7, 8, 9, 10, 25, 14, 15, 16, 11, 17, 18, 19, 20, 21, 27, 28, 26, 12, 22, 23, 24, 13] := by decide
theorem rg_476 : 5 ∈ [4, 5, 3, 1, 2, 30, 6, 7, 8, 9, 10, 25, 14, 15, 16, 11, 17, 18, 19, 20, 21, 27, 28, 26, 12, 22, 23, 24, 13] := by decide
theorem rg_477 : 3 ∈ [4, 5, 3, 1, 2, 30, 6, 7, 8, 9, 10, 25, 14, 15, 16, 11, 17, 18, 19, 20, 21, 27, 28, 26, 12, 22, 23, 24, 13] := by decide
def ow_n_program : List Cond := [.fieldLink RX12 243 "NearEnoughModel" "rb" "I", .fieldLink RX12 240 "NearEnoughModel" "bank" "I", .fieldLink RX12 249 "NearEnoughModel" "sheets" "I", .fieldLink RX12 252 "NearEnoughModel" "changes" "I", .fieldLink RX12 255 "NearEnoughModel" "guards" "I", .fieldLink RX12 258 "NearEnoughModel" "purse" "I", .fieldLink RX12 24 "NearEnoughModel" "stepMany" "[I", .fieldLink RX12 199 "NearEnoughModel" "token" "I", .fieldLink RX12 137 "NearEnoughModel" "size" "I", .fieldLink RX12 237 "NearEnoughModel" "taped" "I", .fieldLink RX12 189 "NearEnoughModel" "end" "I", .fieldLink RX12 20 "NearEnoughModel" "rowMany" "[I", .fieldLink RX12 27 "NearEnoughModel" "endMany" "[I", .fieldLink RX12 13 "NearEnoughModel" "text" "[B", .fieldLink RX12 7 "NearEnoughModel" "tape" "[B", .fieldLink RX12 140 "NearEnoughModel" "faultKind" "I", .fieldLink RX12 16 "NearEnoughModel" "faultPlace" "I"]
def vs_n_program : List Cond := .code yX12_program cX12_program 2 (some .int) :: (ow_n_program ++ (([.methodLink RX12 224 yX12_isGood, .instanceMethod yX12_isGood, .selects RX12 yX12_isGood yX12_isGood, .initialized RX12] : List Cond) ++ (vs_n_isGood ++ (([.methodLink RX12 246 yX12_readLine, .instanceMethod yX12_readLine, .selects RX12 yX12_readLine yX12_readLine, .initialized RX12] : List Cond) ++ (vs_n_readLine ++ (([.methodLink RX12 228 yX12_next, .instanceMethod yX12_next, .selects RX12 yX12_next yX12_next, .initialized RX12] : List Cond) ++ (vs_n_next ++ (wsX120))))))))
theorem vg_n_program : vs_n_program.all goodWord = true := by decide +kernel
theorem dd_n_program : yX12_program.cls = RX12 ∧ yX12_program.cls ≠ "java/lang/invoke/MethodHandle" ∧ yX12_program.cls ≠ "java/lang/invoke/VarHandle" ∧ (parseMethodDescriptor yX12_program.desc).map (fun d => d.parameters.length) = some 0 := by decide +kernel
def rm_n_program : Room := { frames := 6, cells := 0, slots := 0, locals := 132 }
theorem gd_n_program_224_n_isGood : GoodIn vs_n_program (wsV RX12 224 RX12 yX12_isGood vs_n_isGood) := goodIn_app (goodIn_sub (fun w h => (List.mem_cons_of_mem _ (List.mem_append_right _ (List.mem_append_left _ h)))) (by decide +kernel)) (goodIn_sub (fun w h => (List.mem_cons_of_mem _ (List.mem_append_right _ (List.mem_append_right _ (List.mem_append_left _ h))))) vg_n_isGood)
theorem gd_n_program_246_n_readLine : GoodIn vs_n_program (wsV RX12 246 RX12 yX12_readLine vs_n_readLine) := goodIn_app (goodIn_sub (fun w h => (List.mem_cons_of_mem _ (List.mem_append_right _ (List.mem_append_right _ (List.mem_append_right _ (List.mem_append_left _ h)))))) (by decide +kernel)) (goodIn_sub (fun w h => (List.mem_cons_of_mem _ (List.mem_append_right _ (List.mem_append_right _ (List.mem_append_right _ (List.mem_append_right _ (List.mem_append_left _ h))))))) vg_n_readLine)
theorem gd_n_program_228_n_next : GoodIn vs_n_program (wsV RX12 228 RX12 yX12_next vs_n_next) := goodIn_app (goodIn_sub (fun w h => (List.mem_cons_of_mem _ (List.mem_append_right _ (List.mem_append_right _ (List.mem_append_right _ (List.mem_append_right _ (List.mem_append_right _ (List.mem_append_left _ h)))))))) (by decide +kernel)) (goodIn_sub (fun w h => (List.mem_cons_of_mem _ (List.mem_append_right _ (List.mem_append_right _ (List.mem_append_right _ (List.mem_append_right _ (List.mem_append_right _ (List.mem_append_right _ (List.mem_append_left _ h))))))))) vg_n_next)
set_option maxHeartbeats 4000000 in
set_option maxRecDepth 100000 in
theorem n_program (l : Launch) (dC : Nat → ClassId) (dI : Nat → Nat → Nat) (h : Nat) (ad : Nat → Nat) (cl : Nat → ClassId) (sz : Nat) (σ : MS)  (hI : Inv σ) : Met l yX12_program vs_n_program rm_n_program (va_Pc [.ref h] (wSt dC dI (mW h ad cl σ) (mT cl) sz)) (va_Qi (fun (r : Int32) (τ : MS) => Inv τ ∧ eqx [4, 5, 3, 1, 2, 30, 6, 7, 8, 9, 10, 25, 14, 15, 16, 11, 17, 18, 19, 20, 21, 27, 28, 26, 12, 22, 23, 24, 13, 29, 39, 40, 53, 58] τ σ ∧ (RelP σ (σ.1 29).toNatClampNeg → ((eqx [4, 5, 3, 1, 2, 30, 6, 7, 8, 9, 10, 25, 14, 15, 16, 11, 17, 18, 19, 20, 21, 27, 28, 26, 12, 22, 23, 24, 13] τ σ ∧ τ.1 29 = σ.1 29 ∧ SameB τ σ (σ.1 29).toNatClampNeg) ∨ (RelP τ (τ.1 29).toNatClampNeg ∧ (τ.1 39) = 0 ∧ (τ.1 40) = 0 ∧ (τ.1 53) = 0)))) (fun (τ : MS) => wEn dC dI (va_A (mW h ad cl σ) sz) (mW h ad cl τ) []) (va_A (mW h ad cl σ) sz)) 0 0 (va_A (mW h ad cl σ) sz) := by
  refine Met.ofW (cc := cX12_program) (maxL := 2) (ret := (some .int)) (by decide) rfl ?_
  intro p e s m args below meth c s₁ B hml hv
  obtain ⟨rfl, hsz, hP, hK, hD0, hE⟩ := hv
  have hx := B.exec
  have hb := B.bytes
  have hr := B.returns
  have hts := atoms_spec (ws := vs_n_program) B.pre
  have hown : s.vm.findClass RX12 = some m.cls := findClass_of_methodNamed B.named
  have hlocks := B.notSynchronized
  subst hsz
  have hD := hD0.self (sz := s.heap.size)
  generalize hAe : va_A (mW h ad cl σ) s.heap.size = A at hD ⊢
  have hA : ∀ q : Nat, s.heap.size ≤ q → A q := fun q h => by rw [← hAe]; exact Or.inr h
  have hl := lv_entry ([.ref h]) (n := 2) (Nat.le_of_ble_eq_true rfl)
  rw [lg_entry_eq]
  generalize (lg_sl ([.ref h]) ++ List.replicate (2 - (lg_sl ([.ref h])).length) Slot.unset).toArray = ls at hl ⊢
  have hl : lv_has ls 2 [(0, .ref h)] := hl
  have ho := fun w (h : w ∈ ow_n_program) => hts w (List.mem_cons_of_mem _ (List.mem_append_left _ h))
  have hin12 : ∀ w ∈ u_ws RX12 TX12 59, w ∈ vs_n_program := fun w h => (List.mem_cons_of_mem _ (List.mem_append_right _ (List.mem_append_right _ (List.mem_append_right _ (List.mem_append_right _ (List.mem_append_right _ (List.mem_append_right _ (List.mem_append_right _ h))))))))
  refine zQ (fun Q hQ => ?_)
  have bkσ : 0 ≤ (σ.1 29).toInt ∧ (σ.1 29).toInt ≤ 1 := hI.1 29
  have pt_100 : ∀ (n100 : Nat) (τ : MS) (H : Heap) (locs : List Loc) (ls : Array Slot), ms τ < n100 → (Inv τ) → (eqx [4, 5, 3, 1, 2, 30, 6, 7, 8, 9, 10, 25, 14, 15, 16, 11, 17, 18, 19, 20, 21, 27, 28, 26, 12, 22, 23, 24, 13] τ σ) → (τ.1 29 = σ.1 29) → ((τ.1 30).toInt = 1 - (σ.1 29).toInt) → (Es τ) → (When τ (RelP τ (τ.1 30).toNatClampNeg)) → (SameB τ σ (σ.1 29).toNatClampNeg) → va_P (dC, dI) vwCl (mW h ad cl τ) H → va_D A (mW h ad cl τ) → va_S A s.heap H locs → lv_has ls 2 [(0, .ref h)] → W p l e (headSpec vs_n_program rm_n_program).room s m #[Value.ref h] below meth c H locs 0 0 Q (F0 m 100 ls []) := by
    intro n100
    induction n100 with
    | zero => intro τ H locs ls hn100 hIτ hxτ hbk hz hesτ hw0 hold hP hD hS hl; exact absurd hn100 (Nat.not_lt_zero _)
    | succ n100 ih100 =>
      intro τ H locs ls hn100 hIτ hxτ hbk hz hesτ hw0 hold hP hD hS hl
      refine lv_aload_n hx hb dX12_program_100 rfl (lv_at hl 0 rfl) ?_
      refine zy_i (va_runV (As := []) (rest := []) ⟨hx, hb, hml, hown, hts⟩ (n_isGood l dC dI h ad cl H.size τ  hIτ) (cwV 0 hts gd_n_program_224_n_isGood rfl rfl rfl dd_n_isGood ⟨Nat.le_of_ble_eq_true rfl, Nat.le_of_ble_eq_true rfl⟩) (preV hP hK hD hE (ci := 12) (q0 := 0) rfl rfl) rfl rfl hl.1 rfl (lv_room (Nat.le_of_ble_eq_true rfl)) dX12_program_101 ⟨Nat.le_of_ble_eq_true rfl, Nat.le_of_ble_eq_true rfl⟩) hD hS hA (fun z2 τ1 H locs hq hP hD hS => ?_)
      obtain ⟨rfl, f3⟩ := hq
      refine W.widen (k := 0) (n := 0) (Nat.le_of_ble_eq_true rfl) (Nat.le_of_ble_eq_true rfl) ?_
      refine lv_if_eq (tgt := 121) hx hb dX12_program_104 rfl (fun c4 => ?_) (fun c4 => ?_)
      · have tc4 := (show z2.toInt = 0 from ti_eq rfl rg_11 c4)
        refine lv_aload_n hx hb dX12_program_121 rfl (lv_at hl 0 rfl) ?_
        refine zy_i (va_runV (As := []) (rest := []) ⟨hx, hb, hml, hown, hts⟩ (n_isGood l dC dI h ad cl H.size τ  hIτ) (cwV 0 hts gd_n_program_224_n_isGood rfl rfl rfl dd_n_isGood ⟨Nat.le_of_ble_eq_true rfl, Nat.le_of_ble_eq_true rfl⟩) (preV hP hK hD hE (ci := 12) (q0 := 0) rfl rfl) rfl rfl hl.1 rfl (lv_room (Nat.le_of_ble_eq_true rfl)) dX12_program_122 ⟨Nat.le_of_ble_eq_true rfl, Nat.le_of_ble_eq_true rfl⟩) hD hS hA (fun z6 τ5 H locs hq hP hD hS => ?_)
        obtain ⟨rfl, f7⟩ := hq
        refine W.widen (k := 0) (n := 0) (Nat.le_of_ble_eq_true rfl) (Nat.le_of_ble_eq_true rfl) ?_
        refine lv_if_ne (tgt := 130) hx hb dX12_program_125 rfl (fun c8 => ?_) (fun c8 => ?_)
        · have tc8 := (show z6.toInt ≠ 0 from ti_ne rfl rg_11 c8)
          refine lv_aload_n hx hb dX12_program_130 rfl (lv_at hl 0 rfl) ?_
          refine lv_aload_n hx hb dX12_program_131 rfl (lv_at hl 0 rfl) ?_
          refine va_get (D := (dC, dI)) (ci := 12) (v := .int (τ.1 30)) (C := RX12) (T := TX12) (N := 59) hx hb hts hin12 hown hK hP 0 rfl rfl 30 (Nat.le_of_ble_eq_true rfl) (ho (.fieldLink RX12 243 "NearEnoughModel" "rb" "I") (List.mem_of_getElem? (i := 0) rfl)) (fun _ h9 => h9) rfl dX12_program_132 ?_
          have bτ_30 : 0 ≤ (τ.1 30).toInt ∧ (τ.1 30).toInt ≤ 1 := hIτ.1 30
          refine va_put (D := (dC, dI)) (ci := 12) (v := .int (τ.1 30)) (ty := tyX12 29) (C := RX12) (T := TX12) (N := 59) hx hb hts hin12 tyX12 tyX12_ok nmX12 hown hK hP hD hS 0 rfl rfl 29 (Nat.le_of_ble_eq_true rfl) (ho (.fieldLink RX12 240 "NearEnoughModel" "bank" "I") (List.mem_of_getElem? (i := 1) rfl)) (fun _ h9 => h9) rfl (tyX12_ok 29 (Nat.le_of_ble_eq_true rfl)) rfl rfl (Nat.le_of_ble_eq_true rfl) dX12_program_135 (fun H locs hP hD hS => ?_)
          have hP : va_P (dC, dI) vwCl (mW h ad cl (sI τ 29 (τ.1 30))) H := hP
          have hD : va_D A (mW h ad cl (sI τ 29 (τ.1 30))) := hD
          refine lv_aload_n hx hb dX12_program_138 rfl (lv_at hl 0 rfl) ?_
          refine lv_iconst (v := 0) hx hb dX12_program_139 rg_0 ?_
          refine va_put (D := (dC, dI)) (ci := 12) (v := .int 0) (ty := tyX12 39) (C := RX12) (T := TX12) (N := 59) hx hb hts hin12 tyX12 tyX12_ok nmX12 hown hK hP hD hS 0 rfl rfl 39 (Nat.le_of_ble_eq_true rfl) (ho (.fieldLink RX12 249 "NearEnoughModel" "sheets" "I") (List.mem_of_getElem? (i := 2) rfl)) (fun _ h9 => h9) rfl (tyX12_ok 39 (Nat.le_of_ble_eq_true rfl)) rfl rfl (Nat.le_of_ble_eq_true rfl) dX12_program_140 (fun H locs hP hD hS => ?_)
          have hP : va_P (dC, dI) vwCl (mW h ad cl (sI (sI τ 29 (τ.1 30)) 39 0)) H := hP
          have hD : va_D A (mW h ad cl (sI (sI τ 29 (τ.1 30)) 39 0)) := hD
          refine lv_aload_n hx hb dX12_program_143 rfl (lv_at hl 0 rfl) ?_
          refine lv_iconst (v := 0) hx hb dX12_program_144 rg_0 ?_
          refine va_put (D := (dC, dI)) (ci := 12) (v := .int 0) (ty := tyX12 40) (C := RX12) (T := TX12) (N := 59) hx hb hts hin12 tyX12 tyX12_ok nmX12 hown hK hP hD hS 0 rfl rfl 40 (Nat.le_of_ble_eq_true rfl) (ho (.fieldLink RX12 252 "NearEnoughModel" "changes" "I") (List.mem_of_getElem? (i := 3) rfl)) (fun _ h9 => h9) rfl (tyX12_ok 40 (Nat.le_of_ble_eq_true rfl)) rfl rfl (Nat.le_of_ble_eq_true rfl) dX12_program_145 (fun H locs hP hD hS => ?_)
          have hP : va_P (dC, dI) vwCl (mW h ad cl (sI (sI (sI τ 29 (τ.1 30)) 39 0) 40 0)) H := hP
          have hD : va_D A (mW h ad cl (sI (sI (sI τ 29 (τ.1 30)) 39 0) 40 0)) := hD
          refine lv_aload_n hx hb dX12_program_148 rfl (lv_at hl 0 rfl) ?_
          refine lv_iconst (v := 0) hx hb dX12_program_149 rg_0 ?_
          refine va_put (D := (dC, dI)) (ci := 12) (v := .int 0) (ty := tyX12 53) (C := RX12) (T := TX12) (N := 59) hx hb hts hin12 tyX12 tyX12_ok nmX12 hown hK hP hD hS 0 rfl rfl 53 (Nat.le_of_ble_eq_true rfl) (ho (.fieldLink RX12 255 "NearEnoughModel" "guards" "I") (List.mem_of_getElem? (i := 4) rfl)) (fun _ h9 => h9) rfl (tyX12_ok 53 (Nat.le_of_ble_eq_true rfl)) rfl rfl (Nat.le_of_ble_eq_true rfl) dX12_program_150 (fun H locs hP hD hS => ?_)
          have hP : va_P (dC, dI) vwCl (mW h ad cl (sI (sI (sI (sI τ 29 (τ.1 30)) 39 0) 40 0) 53 0)) H := hP
          have hD : va_D A (mW h ad cl (sI (sI (sI (sI τ 29 (τ.1 30)) 39 0) 40 0) 53 0)) := hD
          refine lv_aload_n hx hb dX12_program_153 rfl (lv_at hl 0 rfl) ?_
          refine lv_iconst (v := 0) hx hb dX12_program_154 rg_0 ?_
          refine va_put (D := (dC, dI)) (ci := 12) (v := .int 0) (ty := tyX12 58) (C := RX12) (T := TX12) (N := 59) hx hb hts hin12 tyX12 tyX12_ok nmX12 hown hK hP hD hS 0 rfl rfl 58 (Nat.le_of_ble_eq_true rfl) (ho (.fieldLink RX12 258 "NearEnoughModel" "purse" "I") (List.mem_of_getElem? (i := 5) rfl)) (fun _ h9 => h9) rfl (tyX12_ok 58 (Nat.le_of_ble_eq_true rfl)) rfl rfl (Nat.le_of_ble_eq_true rfl) dX12_program_155 (fun H locs hP hD hS => ?_)
          have hP : va_P (dC, dI) vwCl (mW h ad cl (sI (sI (sI (sI (sI τ 29 (τ.1 30)) 39 0) 40 0) 53 0) 58 0)) H := hP
          have hD : va_D A (mW h ad cl (sI (sI (sI (sI (sI τ 29 (τ.1 30)) 39 0) 40 0) 53 0) 58 0)) := hD
          refine lv_aload_n hx hb dX12_program_158 rfl (lv_at hl 0 rfl) ?_
          refine va_get (D := (dC, dI)) (ci := 12) (v := .ref (ad 12)) (C := RX12) (T := TX12) (N := 59) hx hb hts hin12 hown hK hP 0 rfl rfl 12 (Nat.le_of_ble_eq_true rfl) (ho (.fieldLink RX12 24 "NearEnoughModel" "stepMany" "[I") (List.mem_of_getElem? (i := 6) rfl)) (fun _ h9 => h9) rfl dX12_program_159 ?_
          refine lv_aload_n hx hb dX12_program_162 rfl (lv_at hl 0 rfl) ?_
          refine va_get (D := (dC, dI)) (ci := 12) (v := .int (τ.1 30)) (C := RX12) (T := TX12) (N := 59) hx hb hts hin12 hown hK hP 0 rfl rfl 29 (Nat.le_of_ble_eq_true rfl) (ho (.fieldLink RX12 240 "NearEnoughModel" "bank" "I") (List.mem_of_getElem? (i := 1) rfl)) (fun _ h9 => h9) rfl dX12_program_163 ?_
          have o1 : 0 ≤ (τ.1 30).toInt := by omega
          have o2 : (τ.1 30).toInt < ((2 : Nat) : Int) := by omega
          refine va_iald hx hb hK hP 4 3 rfl rfl (ti_inx o1 o2) dX12_program_166 ?_
          refine lv_topi (fun z9 ez9 => ?_)
          have gz9 : z9.toInt = ((τ.2.1 12) (Int32.toNatClampNeg (τ.1 30))).toInt := congrArg Int32.toInt (ez9.trans (congrFun (tI.trans (tI.trans (tI.trans (tI.trans tI)))) (Int32.toNatClampNeg (τ.1 30))))
          have bz9 : 0 ≤ z9.toInt ∧ z9.toInt ≤ 12 := by rw [ez9]; exact (hIτ.2 12) _ (cl_lt (n := 2) o1 o2)
          rw [hQ]
          have o3 : (τ.1 4).toInt = 0 := by omega
          have o4 : (0 : Int) ≤ (τ.1 30).toInt := by omega
          have o5 : (τ.1 30).toInt ≤ 1 := by omega
          exact W.iret (v := z9) hx hb hr (fun t ht hW => ⟨⟨z9, (sI (sI (sI (sI (sI τ 29 (τ.1 30)) 39 0) 40 0) 53 0) 58 0), rfl, ⟨(Inv.sI (k := 58) (v := 0) (Inv.sI (k := 53) (v := 0) (Inv.sI (k := 40) (v := 0) (Inv.sI (k := 39) (v := 0) (Inv.sI (k := 29) (v := (τ.1 30)) hIτ (show (0 : Int) ≤ (τ.1 30).toInt ∧ (τ.1 30).toInt ≤ 1 from ⟨o4, o5⟩)) rg_457) rg_458) rg_459) rg_460), (eqx.sI (eqx.sI (eqx.sI (eqx.sI (eqx.sI (eqx.mono hxτ rg_451) rg_452) rg_453) rg_454) rg_455) rg_456), (fun _ => Or.inr ⟨(show RelP τ (τ.1 30).toNatClampNeg from hw0 o3), rfl, rfl, rfl⟩)⟩, wEn_of hP (hK.sub [] rfl) hD ht hW⟩, hS.F ht⟩) hS.2.2 dX12_program_167
        · have tc8 := (show z6.toInt = 0 from ti_eq rfl rg_11 c8)
          refine lv_iconst (v := (-1)) hx hb dX12_program_128 rg_53 ?_
          rw [hQ]
          exact W.iret (v := (-1)) hx hb hr (fun t ht hW => ⟨⟨(-1), τ, rfl, ⟨hIτ, (eqx.mono hxτ rg_451), (fun hr9 => Or.inl ⟨hxτ, hbk, hold⟩)⟩, wEn_of hP (hK.sub [] rfl) hD ht hW⟩, hS.F ht⟩) hS.2.2 dX12_program_129
      · have tc4 := (show z2.toInt ≠ 0 from ti_ne rfl rg_11 c4)
        refine lv_aload_n hx hb dX12_program_107 rfl (lv_at hl 0 rfl) ?_
        refine va_get (D := (dC, dI)) (ci := 12) (v := .int (τ.1 8)) (C := RX12) (T := TX12) (N := 59) hx hb hts hin12 hown hK hP 0 rfl rfl 8 (Nat.le_of_ble_eq_true rfl) (ho (.fieldLink RX12 199 "NearEnoughModel" "token" "I") (List.mem_of_getElem? (i := 7) rfl)) (fun _ h9 => h9) rfl dX12_program_108 ?_
        have bτ_8 : 0 ≤ (τ.1 8).toInt ∧ (τ.1 8).toInt ≤ 5 := hIτ.1 8
        refine lv_if_eq (tgt := 121) hx hb dX12_program_111 rfl (fun c10 => ?_) (fun c10 => ?_)
        · have tc10 := (show (τ.1 8).toInt = 0 from ti_eq rfl rg_11 c10)
          refine lv_aload_n hx hb dX12_program_121 rfl (lv_at hl 0 rfl) ?_
          refine zy_i (va_runV (As := []) (rest := []) ⟨hx, hb, hml, hown, hts⟩ (n_isGood l dC dI h ad cl H.size τ  hIτ) (cwV 0 hts gd_n_program_224_n_isGood rfl rfl rfl dd_n_isGood ⟨Nat.le_of_ble_eq_true rfl, Nat.le_of_ble_eq_true rfl⟩) (preV hP hK hD hE (ci := 12) (q0 := 0) rfl rfl) rfl rfl hl.1 rfl (lv_room (Nat.le_of_ble_eq_true rfl)) dX12_program_122 ⟨Nat.le_of_ble_eq_true rfl, Nat.le_of_ble_eq_true rfl⟩) hD hS hA (fun z12 τ11 H locs hq hP hD hS => ?_)
          obtain ⟨rfl, f13⟩ := hq
          refine W.widen (k := 0) (n := 0) (Nat.le_of_ble_eq_true rfl) (Nat.le_of_ble_eq_true rfl) ?_
          refine lv_if_ne (tgt := 130) hx hb dX12_program_125 rfl (fun c14 => ?_) (fun c14 => ?_)
          · have tc14 := (show z12.toInt ≠ 0 from ti_ne rfl rg_11 c14)
            refine lv_aload_n hx hb dX12_program_130 rfl (lv_at hl 0 rfl) ?_
            refine lv_aload_n hx hb dX12_program_131 rfl (lv_at hl 0 rfl) ?_
            refine va_get (D := (dC, dI)) (ci := 12) (v := .int (τ.1 30)) (C := RX12) (T := TX12) (N := 59) hx hb hts hin12 hown hK hP 0 rfl rfl 30 (Nat.le_of_ble_eq_true rfl) (ho (.fieldLink RX12 243 "NearEnoughModel" "rb" "I") (List.mem_of_getElem? (i := 0) rfl)) (fun _ h9 => h9) rfl dX12_program_132 ?_
            have bτ_30 : 0 ≤ (τ.1 30).toInt ∧ (τ.1 30).toInt ≤ 1 := hIτ.1 30
            refine va_put (D := (dC, dI)) (ci := 12) (v := .int (τ.1 30)) (ty := tyX12 29) (C := RX12) (T := TX12) (N := 59) hx hb hts hin12 tyX12 tyX12_ok nmX12 hown hK hP hD hS 0 rfl rfl 29 (Nat.le_of_ble_eq_true rfl) (ho (.fieldLink RX12 240 "NearEnoughModel" "bank" "I") (List.mem_of_getElem? (i := 1) rfl)) (fun _ h9 => h9) rfl (tyX12_ok 29 (Nat.le_of_ble_eq_true rfl)) rfl rfl (Nat.le_of_ble_eq_true rfl) dX12_program_135 (fun H locs hP hD hS => ?_)
            have hP : va_P (dC, dI) vwCl (mW h ad cl (sI τ 29 (τ.1 30))) H := hP
            have hD : va_D A (mW h ad cl (sI τ 29 (τ.1 30))) := hD
            refine lv_aload_n hx hb dX12_program_138 rfl (lv_at hl 0 rfl) ?_
            refine lv_iconst (v := 0) hx hb dX12_program_139 rg_0 ?_
            refine va_put (D := (dC, dI)) (ci := 12) (v := .int 0) (ty := tyX12 39) (C := RX12) (T := TX12) (N := 59) hx hb hts hin12 tyX12 tyX12_ok nmX12 hown hK hP hD hS 0 rfl rfl 39 (Nat.le_of_ble_eq_true rfl) (ho (.fieldLink RX12 249 "NearEnoughModel" "sheets" "I") (List.mem_of_getElem? (i := 2) rfl)) (fun _ h9 => h9) rfl (tyX12_ok 39 (Nat.le_of_ble_eq_true rfl)) rfl rfl (Nat.le_of_ble_eq_true rfl) dX12_program_140 (fun H locs hP hD hS => ?_)
            have hP : va_P (dC, dI) vwCl (mW h ad cl (sI (sI τ 29 (τ.1 30)) 39 0)) H := hP
            have hD : va_D A (mW h ad cl (sI (sI τ 29 (τ.1 30)) 39 0)) := hD
            refine lv_aload_n hx hb dX12_program_143 rfl (lv_at hl 0 rfl) ?_
            refine lv_iconst (v := 0) hx hb dX12_program_144 rg_0 ?_
            refine va_put (D := (dC, dI)) (ci := 12) (v := .int 0) (ty := tyX12 40) (C := RX12) (T := TX12) (N := 59) hx hb hts hin12 tyX12 tyX12_ok nmX12 hown hK hP hD hS 0 rfl rfl 40 (Nat.le_of_ble_eq_true rfl) (ho (.fieldLink RX12 252 "NearEnoughModel" "changes" "I") (List.mem_of_getElem? (i := 3) rfl)) (fun _ h9 => h9) rfl (tyX12_ok 40 (Nat.le_of_ble_eq_true rfl)) rfl rfl (Nat.le_of_ble_eq_true rfl) dX12_program_145 (fun H locs hP hD hS => ?_)
            have hP : va_P (dC, dI) vwCl (mW h ad cl (sI (sI (sI τ 29 (τ.1 30)) 39 0) 40 0)) H := hP
            have hD : va_D A (mW h ad cl (sI (sI (sI τ 29 (τ.1 30)) 39 0) 40 0)) := hD
            refine lv_aload_n hx hb dX12_program_148 rfl (lv_at hl 0 rfl) ?_
            refine lv_iconst (v := 0) hx hb dX12_program_149 rg_0 ?_
            refine va_put (D := (dC, dI)) (ci := 12) (v := .int 0) (ty := tyX12 53) (C := RX12) (T := TX12) (N := 59) hx hb hts hin12 tyX12 tyX12_ok nmX12 hown hK hP hD hS 0 rfl rfl 53 (Nat.le_of_ble_eq_true rfl) (ho (.fieldLink RX12 255 "NearEnoughModel" "guards" "I") (List.mem_of_getElem? (i := 4) rfl)) (fun _ h9 => h9) rfl (tyX12_ok 53 (Nat.le_of_ble_eq_true rfl)) rfl rfl (Nat.le_of_ble_eq_true rfl) dX12_program_150 (fun H locs hP hD hS => ?_)
            have hP : va_P (dC, dI) vwCl (mW h ad cl (sI (sI (sI (sI τ 29 (τ.1 30)) 39 0) 40 0) 53 0)) H := hP
            have hD : va_D A (mW h ad cl (sI (sI (sI (sI τ 29 (τ.1 30)) 39 0) 40 0) 53 0)) := hD
            refine lv_aload_n hx hb dX12_program_153 rfl (lv_at hl 0 rfl) ?_
            refine lv_iconst (v := 0) hx hb dX12_program_154 rg_0 ?_
            refine va_put (D := (dC, dI)) (ci := 12) (v := .int 0) (ty := tyX12 58) (C := RX12) (T := TX12) (N := 59) hx hb hts hin12 tyX12 tyX12_ok nmX12 hown hK hP hD hS 0 rfl rfl 58 (Nat.le_of_ble_eq_true rfl) (ho (.fieldLink RX12 258 "NearEnoughModel" "purse" "I") (List.mem_of_getElem? (i := 5) rfl)) (fun _ h9 => h9) rfl (tyX12_ok 58 (Nat.le_of_ble_eq_true rfl)) rfl rfl (Nat.le_of_ble_eq_true rfl) dX12_program_155 (fun H locs hP hD hS => ?_)
            have hP : va_P (dC, dI) vwCl (mW h ad cl (sI (sI (sI (sI (sI τ 29 (τ.1 30)) 39 0) 40 0) 53 0) 58 0)) H := hP
            have hD : va_D A (mW h ad cl (sI (sI (sI (sI (sI τ 29 (τ.1 30)) 39 0) 40 0) 53 0) 58 0)) := hD
            refine lv_aload_n hx hb dX12_program_158 rfl (lv_at hl 0 rfl) ?_
            refine va_get (D := (dC, dI)) (ci := 12) (v := .ref (ad 12)) (C := RX12) (T := TX12) (N := 59) hx hb hts hin12 hown hK hP 0 rfl rfl 12 (Nat.le_of_ble_eq_true rfl) (ho (.fieldLink RX12 24 "NearEnoughModel" "stepMany" "[I") (List.mem_of_getElem? (i := 6) rfl)) (fun _ h9 => h9) rfl dX12_program_159 ?_
            refine lv_aload_n hx hb dX12_program_162 rfl (lv_at hl 0 rfl) ?_
            refine va_get (D := (dC, dI)) (ci := 12) (v := .int (τ.1 30)) (C := RX12) (T := TX12) (N := 59) hx hb hts hin12 hown hK hP 0 rfl rfl 29 (Nat.le_of_ble_eq_true rfl) (ho (.fieldLink RX12 240 "NearEnoughModel" "bank" "I") (List.mem_of_getElem? (i := 1) rfl)) (fun _ h9 => h9) rfl dX12_program_163 ?_
            have o6 : 0 ≤ (τ.1 30).toInt := by omega
            have o7 : (τ.1 30).toInt < ((2 : Nat) : Int) := by omega
            refine va_iald hx hb hK hP 4 3 rfl rfl (ti_inx o6 o7) dX12_program_166 ?_
            refine lv_topi (fun z15 ez15 => ?_)
            have gz15 : z15.toInt = ((τ.2.1 12) (Int32.toNatClampNeg (τ.1 30))).toInt := congrArg Int32.toInt (ez15.trans (congrFun (tI.trans (tI.trans (tI.trans (tI.trans tI)))) (Int32.toNatClampNeg (τ.1 30))))
            have bz15 : 0 ≤ z15.toInt ∧ z15.toInt ≤ 12 := by rw [ez15]; exact (hIτ.2 12) _ (cl_lt (n := 2) o6 o7)
            rw [hQ]
            have o8 : (τ.1 4).toInt = 0 := by omega
            have o9 : (0 : Int) ≤ (τ.1 30).toInt := by omega
            have o10 : (τ.1 30).toInt ≤ 1 := by omega
            exact W.iret (v := z15) hx hb hr (fun t ht hW => ⟨⟨z15, (sI (sI (sI (sI (sI τ 29 (τ.1 30)) 39 0) 40 0) 53 0) 58 0), rfl, ⟨(Inv.sI (k := 58) (v := 0) (Inv.sI (k := 53) (v := 0) (Inv.sI (k := 40) (v := 0) (Inv.sI (k := 39) (v := 0) (Inv.sI (k := 29) (v := (τ.1 30)) hIτ (show (0 : Int) ≤ (τ.1 30).toInt ∧ (τ.1 30).toInt ≤ 1 from ⟨o9, o10⟩)) rg_457) rg_458) rg_459) rg_460), (eqx.sI (eqx.sI (eqx.sI (eqx.sI (eqx.sI (eqx.mono hxτ rg_451) rg_452) rg_453) rg_454) rg_455) rg_456), (fun _ => Or.inr ⟨(show RelP τ (τ.1 30).toNatClampNeg from hw0 o8), rfl, rfl, rfl⟩)⟩, wEn_of hP (hK.sub [] rfl) hD ht hW⟩, hS.F ht⟩) hS.2.2 dX12_program_167
          · have tc14 := (show z12.toInt = 0 from ti_eq rfl rg_11 c14)
            refine lv_iconst (v := (-1)) hx hb dX12_program_128 rg_53 ?_
            rw [hQ]
            exact W.iret (v := (-1)) hx hb hr (fun t ht hW => ⟨⟨(-1), τ, rfl, ⟨hIτ, (eqx.mono hxτ rg_451), (fun hr9 => Or.inl ⟨hxτ, hbk, hold⟩)⟩, wEn_of hP (hK.sub [] rfl) hD ht hW⟩, hS.F ht⟩) hS.2.2 dX12_program_129
        · have tc10 := (show (τ.1 8).toInt ≠ 0 from ti_ne rfl rg_11 c10)
          refine lv_aload_n hx hb dX12_program_114 rfl (lv_at hl 0 rfl) ?_
          refine zy_v (va_runV (As := []) (rest := []) ⟨hx, hb, hml, hown, hts⟩ (n_readLine l dC dI h ad cl H.size τ  hIτ hesτ) (cwV 0 hts gd_n_program_246_n_readLine rfl rfl rfl dd_n_readLine ⟨Nat.le_of_ble_eq_true rfl, Nat.le_of_ble_eq_true rfl⟩) (preV hP hK hD hE (ci := 12) (q0 := 0) rfl rfl) rfl rfl hl.1 rfl (lv_room (Nat.le_of_ble_eq_true rfl)) dX12_program_115 ⟨Nat.le_of_ble_eq_true rfl, Nat.le_of_ble_eq_true rfl⟩) hD hS hA (fun τ16 H locs hq hP hD hS => ?_)
          obtain ⟨hI18, hx19, f20, f21, f22, mo23, lx24⟩ := hq
          have Xτ16 : eqx [4, 5, 3, 1, 2, 30, 6, 7, 8, 9, 10, 25, 14, 15, 16, 11, 17, 18, 19, 20, 21, 27, 28, 26, 12, 22, 23, 24, 13] τ16 σ := eqx.tr hx19 hxτ rg_461
          have W25 : When τ16 (RelP τ (τ.1 30).toNatClampNeg) := When.mo hw0 mo23
          refine W.widen (k := 0) (n := 0) (Nat.le_of_ble_eq_true rfl) (Nat.le_of_ble_eq_true rfl) ?_
          refine lv_goto (tgt := 100) hx hb dX12_program_118 rfl ?_
          have N26 : τ16.1 30 = τ.1 30 := (hx19 30 rg_444).1
          have N27 : τ16.1 29 = σ.1 29 := ((hx19 29 rg_462).1).trans hbk
          have N28 : When τ16 (RelP τ16 (τ16.1 30).toNatClampNeg) := fun h9 => by rw [N26]; exact f21 h9 (hw0 (mo23 h9))
          have N29 : SameB τ16 σ (σ.1 29).toNatClampNeg := (f22 _ (bk2 hI) (bkne hI hz)).tr hold
          have N30 : (τ16.1 30).toInt = 1 - (σ.1 29).toInt := by rw [N26]; exact hz
          have o11 : (τ.1 4).toInt = 0 := by omega
          have o12 : (τ.1 8).toInt ≠ 0 := by omega
          exact ih100 τ16  _ _ _ (ms_lt o11 o12 f20 lx24 hn100) hI18 Xτ16 N27 N30 (Lx.es lx24) N28 N29 hP hD hS (lv_sub hl [0] rfl)
  have pt_20 : ∀ (n20 : Nat) (τ : MS) (kv : Int32) (H : Heap) (locs : List Loc) (ls : Array Slot), ((τ.1 3).toInt - kv.toInt).toNat < n20 → (Inv τ) → (eqx [4, 5, 3, 1, 2, 30, 6, 7, 8, 9, 10, 25, 14, 15, 16, 11, 17, 18, 19, 20, 21, 27, 28, 26, 12, 22, 23, 24, 13] τ σ) → (τ.1 29 = σ.1 29) → (∀ p9, 11 ≤ p9 → p9 ≤ 22 → τ.2.1 p9 = σ.2.1 p9) → (0 ≤ kv.toInt) → va_P (dC, dI) vwCl (mW h ad cl τ) H → va_D A (mW h ad cl τ) → va_S A s.heap H locs → lv_has ls 2 [(0, .ref h), (1, .int kv)] → W p l e (headSpec vs_n_program rm_n_program).room s m #[Value.ref h] below meth c H locs 0 0 Q (F0 m 20 ls []) := by
    intro n20
    induction n20 with
    | zero => intro τ kv H locs ls hn20 hIτ hxτ hbk hT hk0 hP hD hS hl; exact absurd hn20 (Nat.not_lt_zero _)
    | succ n20 ih20 =>
      intro τ kv H locs ls hn20 hIτ hxτ hbk hT hk0 hP hD hS hl
      refine lv_iload_n hx hb dX12_program_20 rfl (lv_at hl 1 rfl) ?_
      refine lv_aload_n hx hb dX12_program_21 rfl (lv_at hl 0 rfl) ?_
      refine va_get (D := (dC, dI)) (ci := 12) (v := .int (τ.1 3)) (C := RX12) (T := TX12) (N := 59) hx hb hts hin12 hown hK hP 0 rfl rfl 3 (Nat.le_of_ble_eq_true rfl) (ho (.fieldLink RX12 137 "NearEnoughModel" "size" "I") (List.mem_of_getElem? (i := 8) rfl)) (fun _ h9 => h9) rfl dX12_program_22 ?_
      have bτ_3 : 0 ≤ (τ.1 3).toInt ∧ (τ.1 3).toInt ≤ 1000 := hIτ.1 3
      refine lv_icmp_ge (tgt := 46) hx hb dX12_program_25 rfl (fun c34 => ?_) (fun c34 => ?_)
      · have tc34 := (show (τ.1 3).toInt ≤ kv.toInt from ti_le rfl rfl c34)
        refine lv_aload_n hx hb dX12_program_46 rfl (lv_at hl 0 rfl) ?_
        refine lv_iconst (v := 0) hx hb dX12_program_47 rg_0 ?_
        refine va_put (D := (dC, dI)) (ci := 12) (v := .int 0) (ty := tyX12 2) (C := RX12) (T := TX12) (N := 59) hx hb hts hin12 tyX12 tyX12_ok nmX12 hown hK hP hD hS 0 rfl rfl 2 (Nat.le_of_ble_eq_true rfl) (ho (.fieldLink RX12 237 "NearEnoughModel" "taped" "I") (List.mem_of_getElem? (i := 9) rfl)) (fun _ h9 => h9) rfl (tyX12_ok 2 (Nat.le_of_ble_eq_true rfl)) rfl rfl (Nat.le_of_ble_eq_true rfl) dX12_program_48 (fun H locs hP hD hS => ?_)
        have hP : va_P (dC, dI) vwCl (mW h ad cl (sI τ 2 0)) H := hP
        have hD : va_D A (mW h ad cl (sI τ 2 0)) := hD
        refine lv_aload_n hx hb dX12_program_51 rfl (lv_at hl 0 rfl) ?_
        refine lv_iconst (v := 0) hx hb dX12_program_52 rg_0 ?_
        refine va_put (D := (dC, dI)) (ci := 12) (v := .int 0) (ty := tyX12 7) (C := RX12) (T := TX12) (N := 59) hx hb hts hin12 tyX12 tyX12_ok nmX12 hown hK hP hD hS 0 rfl rfl 7 (Nat.le_of_ble_eq_true rfl) (ho (.fieldLink RX12 189 "NearEnoughModel" "end" "I") (List.mem_of_getElem? (i := 10) rfl)) (fun _ h9 => h9) rfl (tyX12_ok 7 (Nat.le_of_ble_eq_true rfl)) rfl rfl (Nat.le_of_ble_eq_true rfl) dX12_program_53 (fun H locs hP hD hS => ?_)
        have hP : va_P (dC, dI) vwCl (mW h ad cl (sI (sI τ 2 0) 7 0)) H := hP
        have hD : va_D A (mW h ad cl (sI (sI τ 2 0) 7 0)) := hD
        refine lv_aload_n hx hb dX12_program_56 rfl (lv_at hl 0 rfl) ?_
        refine lv_iconst (v := 1) hx hb dX12_program_57 rg_6 ?_
        refine lv_aload_n hx hb dX12_program_58 rfl (lv_at hl 0 rfl) ?_
        refine va_get (D := (dC, dI)) (ci := 12) (v := .int (τ.1 29)) (C := RX12) (T := TX12) (N := 59) hx hb hts hin12 hown hK hP 0 rfl rfl 29 (Nat.le_of_ble_eq_true rfl) (ho (.fieldLink RX12 240 "NearEnoughModel" "bank" "I") (List.mem_of_getElem? (i := 1) rfl)) (fun _ h9 => h9) rfl dX12_program_59 ?_
        refine zi (v := (σ.1 29)) ((hxτ 29 rg_450).1) ?_
        have bb35 : 0 ≤ (σ.1 29).toInt ∧ (σ.1 29).toInt ≤ 1 := by have h9 := hIτ.1 29; rw [show (τ.1 29) = (σ.1 29) from ((hxτ 29 rg_450).1)] at h9; exact h9
        refine lv_isub hx hb dX12_program_62 ?_
        refine lv_topi (fun z36 ez36 => ?_)
        have o13 : -2147483648 ≤ 1 - (σ.1 29).toInt := by omega
        have o14 : 1 - (σ.1 29).toInt ≤ 2147483647 := by omega
        have tz36 : z36.toInt = 1 - (σ.1 29).toInt := ti_sub ez36 rg_18 rfl o13 o14
        refine va_put (D := (dC, dI)) (ci := 12) (v := .int z36) (ty := tyX12 30) (C := RX12) (T := TX12) (N := 59) hx hb hts hin12 tyX12 tyX12_ok nmX12 hown hK hP hD hS 0 rfl rfl 30 (Nat.le_of_ble_eq_true rfl) (ho (.fieldLink RX12 243 "NearEnoughModel" "rb" "I") (List.mem_of_getElem? (i := 0) rfl)) (fun _ h9 => h9) rfl (tyX12_ok 30 (Nat.le_of_ble_eq_true rfl)) rfl rfl (Nat.le_of_ble_eq_true rfl) dX12_program_63 (fun H locs hP hD hS => ?_)
        have hP : va_P (dC, dI) vwCl (mW h ad cl (sI (sI (sI τ 2 0) 7 0) 30 z36)) H := hP
        have hD : va_D A (mW h ad cl (sI (sI (sI τ 2 0) 7 0) 30 z36)) := hD
        refine lv_aload_n hx hb dX12_program_66 rfl (lv_at hl 0 rfl) ?_
        refine va_get (D := (dC, dI)) (ci := 12) (v := .ref (ad 11)) (C := RX12) (T := TX12) (N := 59) hx hb hts hin12 hown hK hP 0 rfl rfl 11 (Nat.le_of_ble_eq_true rfl) (ho (.fieldLink RX12 20 "NearEnoughModel" "rowMany" "[I") (List.mem_of_getElem? (i := 11) rfl)) (fun _ h9 => h9) rfl dX12_program_67 ?_
        refine lv_aload_n hx hb dX12_program_70 rfl (lv_at hl 0 rfl) ?_
        refine va_get (D := (dC, dI)) (ci := 12) (v := .int z36) (C := RX12) (T := TX12) (N := 59) hx hb hts hin12 hown hK hP 0 rfl rfl 30 (Nat.le_of_ble_eq_true rfl) (ho (.fieldLink RX12 243 "NearEnoughModel" "rb" "I") (List.mem_of_getElem? (i := 0) rfl)) (fun _ h9 => h9) rfl dX12_program_71 ?_
        refine lv_iconst (v := 0) hx hb dX12_program_74 rg_0 ?_
        have o15 : 0 ≤ z36.toInt := by omega
        have o16 : z36.toInt < ((2 : Nat) : Int) := by omega
        refine va_iast hx hb hK hP hD hS 3 2 rfl rfl (ti_inx o15 o16) dX12_program_75 (fun H locs hP hD hS => ?_)
        rw [wS11] at hP hD
        obtain ⟨τ37, eτ37⟩ : ∃ x9 : MS, x9 = sA (sI (sI (sI τ 2 0) 7 0) 30 z36) 11 (upd ((sI (sI (sI τ 2 0) 7 0) 30 z36).2.1 11) (Int32.toNatClampNeg z36) 0) := ⟨_, rfl⟩
        have hP : va_P (dC, dI) vwCl (mW h ad cl τ37) H := by rw [eτ37]; exact hP
        have hD : va_D A (mW h ad cl τ37) := by rw [eτ37]; exact hD
        have o17 : (0 : Int) ≤ z36.toInt := by omega
        have o18 : z36.toInt ≤ 1 := by omega
        have hIτ37 : Inv τ37 := by rw [eτ37]; exact (Inv_sA1 (Inv.sI (k := 30) (v := z36) (Inv.sI (k := 7) (v := 0) (Inv.sI (k := 2) (v := 0) hIτ rg_463) rg_463) (show (0 : Int) ≤ z36.toInt ∧ z36.toInt ≤ 1 from ⟨o17, o18⟩)) (rgu ((Inv.sI (k := 30) (v := z36) (Inv.sI (k := 7) (v := 0) (Inv.sI (k := 2) (v := 0) hIτ rg_463) rg_463) (show (0 : Int) ≤ z36.toInt ∧ z36.toInt ≤ 1 from ⟨o17, o18⟩)).2 11) rg_464))
        have Xτ37 : eqx [4, 5, 3, 1, 2, 30, 6, 7, 8, 9, 10, 25, 14, 15, 16, 11, 17, 18, 19, 20, 21, 27, 28, 26, 12, 22, 23, 24, 13] τ37 σ := (eqx.eq eτ37 (eqx.sA (eqx.sI (eqx.sI (eqx.sI hxτ rg_465) rg_466) rg_467) rg_468))
        refine lv_aload_n hx hb dX12_program_76 rfl (lv_at hl 0 rfl) ?_
        refine va_get (D := (dC, dI)) (ci := 12) (v := .ref (ad 12)) (C := RX12) (T := TX12) (N := 59) hx hb hts hin12 hown hK hP 0 rfl rfl 12 (Nat.le_of_ble_eq_true rfl) (ho (.fieldLink RX12 24 "NearEnoughModel" "stepMany" "[I") (List.mem_of_getElem? (i := 6) rfl)) (fun _ h9 => h9) rfl dX12_program_77 ?_
        refine lv_aload_n hx hb dX12_program_80 rfl (lv_at hl 0 rfl) ?_
        refine va_get (D := (dC, dI)) (ci := 12) (v := .int (τ37.1 30)) (C := RX12) (T := TX12) (N := 59) hx hb hts hin12 hown hK hP 0 rfl rfl 30 (Nat.le_of_ble_eq_true rfl) (ho (.fieldLink RX12 243 "NearEnoughModel" "rb" "I") (List.mem_of_getElem? (i := 0) rfl)) (fun _ h9 => h9) rfl dX12_program_81 ?_
        refine zi (v := z36) (show τ37.1 30 = z36 from (congrArg (fun x9 : MS => x9.1 30) eτ37).trans rfl) ?_
        have bb38 : 0 ≤ z36.toInt ∧ z36.toInt ≤ 1 := by have h9 := hIτ37.1 30; rw [show (τ37.1 30) = z36 from (show τ37.1 30 = z36 from (congrArg (fun x9 : MS => x9.1 30) eτ37).trans rfl)] at h9; exact h9
        refine lv_iconst (v := 0) hx hb dX12_program_84 rg_0 ?_
        refine va_iast hx hb hK hP hD hS 4 3 rfl rfl (ti_inx o15 o16) dX12_program_85 (fun H locs hP hD hS => ?_)
        rw [wS12] at hP hD
        obtain ⟨τ39, eτ39⟩ : ∃ x9 : MS, x9 = sA τ37 12 (upd (τ37.2.1 12) (Int32.toNatClampNeg z36) 0) := ⟨_, rfl⟩
        have hP : va_P (dC, dI) vwCl (mW h ad cl τ39) H := by rw [eτ39]; exact hP
        have hD : va_D A (mW h ad cl τ39) := by rw [eτ39]; exact hD
        have hIτ39 : Inv τ39 := by rw [eτ39]; exact (Inv_sA1 hIτ37 (rgu (hIτ37.2 12) rg_458))
        have Xτ39 : eqx [4, 5, 3, 1, 2, 30, 6, 7, 8, 9, 10, 25, 14, 15, 16, 11, 17, 18, 19, 20, 21, 27, 28, 26, 12, 22, 23, 24, 13] τ39 σ := (eqx.eq eτ39 (eqx.sA Xτ37 rg_469))
        refine lv_aload_n hx hb dX12_program_86 rfl (lv_at hl 0 rfl) ?_
        refine va_get (D := (dC, dI)) (ci := 12) (v := .ref (ad 13)) (C := RX12) (T := TX12) (N := 59) hx hb hts hin12 hown hK hP 0 rfl rfl 13 (Nat.le_of_ble_eq_true rfl) (ho (.fieldLink RX12 27 "NearEnoughModel" "endMany" "[I") (List.mem_of_getElem? (i := 12) rfl)) (fun _ h9 => h9) rfl dX12_program_87 ?_
        refine lv_aload_n hx hb dX12_program_90 rfl (lv_at hl 0 rfl) ?_
        refine va_get (D := (dC, dI)) (ci := 12) (v := .int (τ39.1 30)) (C := RX12) (T := TX12) (N := 59) hx hb hts hin12 hown hK hP 0 rfl rfl 30 (Nat.le_of_ble_eq_true rfl) (ho (.fieldLink RX12 243 "NearEnoughModel" "rb" "I") (List.mem_of_getElem? (i := 0) rfl)) (fun _ h9 => h9) rfl dX12_program_91 ?_
        refine zi (v := z36) (show τ39.1 30 = z36 from (congrArg (fun x9 : MS => x9.1 30) eτ39).trans (show τ37.1 30 = z36 from (congrArg (fun x9 : MS => x9.1 30) eτ37).trans rfl)) ?_
        have bb40 : 0 ≤ z36.toInt ∧ z36.toInt ≤ 1 := by have h9 := hIτ39.1 30; rw [show (τ39.1 30) = z36 from (show τ39.1 30 = z36 from (congrArg (fun x9 : MS => x9.1 30) eτ39).trans (show τ37.1 30 = z36 from (congrArg (fun x9 : MS => x9.1 30) eτ37).trans rfl))] at h9; exact h9
        refine lv_iconst (v := 0) hx hb dX12_program_94 rg_0 ?_
        refine va_iast hx hb hK hP hD hS 5 4 rfl rfl (ti_inx o15 o16) dX12_program_95 (fun H locs hP hD hS => ?_)
        rw [wS13] at hP hD
        obtain ⟨τ41, eτ41⟩ : ∃ x9 : MS, x9 = sA τ39 13 (upd (τ39.2.1 13) (Int32.toNatClampNeg z36) 0) := ⟨_, rfl⟩
        have hP : va_P (dC, dI) vwCl (mW h ad cl τ41) H := by rw [eτ41]; exact hP
        have hD : va_D A (mW h ad cl τ41) := by rw [eτ41]; exact hD
        have hIτ41 : Inv τ41 := by rw [eτ41]; exact (Inv_sA1 hIτ39 (rgu (hIτ39.2 13) rg_459))
        have Xτ41 : eqx [4, 5, 3, 1, 2, 30, 6, 7, 8, 9, 10, 25, 14, 15, 16, 11, 17, 18, 19, 20, 21, 27, 28, 26, 12, 22, 23, 24, 13] τ41 σ := (eqx.eq eτ41 (eqx.sA Xτ39 rg_470))
        refine lv_aload_n hx hb dX12_program_96 rfl (lv_at hl 0 rfl) ?_
        have qq42 : (τ41.1 7).toInt = (0 : Int32).toInt := congrArg Int32.toInt ((show τ41.1 7 = 0 from (congrArg (fun x9 : MS => x9.1 7) eτ41).trans (show τ39.1 7 = 0 from (congrArg (fun x9 : MS => x9.1 7) eτ39).trans (show τ37.1 7 = 0 from (congrArg (fun x9 : MS => x9.1 7) eτ37).trans rfl))))
        have qq43 : (τ41.1 3).toInt = ((τ.1 3) : Int32).toInt := congrArg Int32.toInt ((show τ41.1 3 = (τ.1 3) from (congrArg (fun x9 : MS => x9.1 3) eτ41).trans (show τ39.1 3 = (τ.1 3) from (congrArg (fun x9 : MS => x9.1 3) eτ39).trans (show τ37.1 3 = (τ.1 3) from (congrArg (fun x9 : MS => x9.1 3) eτ37).trans rfl))))
        have kk44 : (0 : Int32).toInt = 0 := rg_11
        have o19 : (τ41.1 7).toInt ≤ (τ41.1 3).toInt := by omega
        refine zy_v (va_runV (As := []) (rest := []) ⟨hx, hb, hml, hown, hts⟩ (n_next l dC dI h ad cl H.size τ41  hIτ41 (show (τ41.1 7).toInt ≤ (τ41.1 3).toInt from o19)) (cwV 0 hts gd_n_program_228_n_next rfl rfl rfl dd_n_next ⟨Nat.le_of_ble_eq_true rfl, Nat.le_of_ble_eq_true rfl⟩) (preV hP hK hD hE (ci := 12) (q0 := 0) rfl rfl) rfl rfl hl.1 rfl (lv_room (Nat.le_of_ble_eq_true rfl)) dX12_program_97 ⟨Nat.le_of_ble_eq_true rfl, Nat.le_of_ble_eq_true rfl⟩) hD hS hA (fun τ45 H locs hq hP hD hS => ?_)
        obtain ⟨hI47, hx48, f49, lx50⟩ := hq
        have Xτ45 : eqx [4, 5, 3, 1, 2, 30, 6, 7, 8, 9, 10, 25, 14, 15, 16, 11, 17, 18, 19, 20, 21, 27, 28, 26, 12, 22, 23, 24, 13] τ45 σ := eqx.tr hx48 Xτ41 rg_471
        refine W.widen (k := 0) (n := 0) (Nat.le_of_ble_eq_true rfl) (Nat.le_of_ble_eq_true rfl) ?_
        have N51 : τ45.1 30 = z36 := (hx48 30 rg_445).1.trans (show τ41.1 30 = z36 from (show τ41.1 30 = z36 from (congrArg (fun x9 : MS => x9.1 30) eτ41).trans (show τ39.1 30 = z36 from (congrArg (fun x9 : MS => x9.1 30) eτ39).trans (show τ37.1 30 = z36 from (congrArg (fun x9 : MS => x9.1 30) eτ37).trans rfl))))
        have N52 : τ45.1 29 = σ.1 29 := ((hx48 29 rg_472).1).trans (show τ41.1 29 = σ.1 29 from (show τ41.1 29 = (σ.1 29) from (congrArg (fun x9 : MS => x9.1 29) eτ41).trans (show τ39.1 29 = (σ.1 29) from (congrArg (fun x9 : MS => x9.1 29) eτ39).trans (show τ37.1 29 = (σ.1 29) from (congrArg (fun x9 : MS => x9.1 29) eτ37).trans ((hxτ 29 rg_450).1)))))
        have o20 : (σ.1 29).toInt = 1 - z36.toInt := by omega
        have N56 := rel_new (τ := τ45) hI ⟨o15, o18⟩ o20 (show (τ45).2.1 11 = (upd (σ.2.1 11) (Int32.toNatClampNeg z36) 0) from (((hx48 11 rg_414).2.1).trans ((congrArg (fun x9 : MS => x9.2.1 11) eτ41).trans ((tA rg_364).trans ((congrArg (fun x9 : MS => x9.2.1 11) eτ39).trans ((tA rg_180).trans ((congrArg (fun x9 : MS => x9.2.1 11) eτ37).trans (tAe.trans (congrArg (fun f9 => (upd f9 (Int32.toNatClampNeg z36) 0)) (tI.trans (tI.trans (tI.trans (hT 11 rg_177 rg_178))))))))))))) (show (τ45).2.1 12 = (upd (σ.2.1 12) (Int32.toNatClampNeg z36) 0) from (((hx48 12 rg_415).2.1).trans ((congrArg (fun x9 : MS => x9.2.1 12) eτ41).trans ((tA rg_366).trans ((congrArg (fun x9 : MS => x9.2.1 12) eτ39).trans (tAe.trans (congrArg (fun f9 => (upd f9 (Int32.toNatClampNeg z36) 0)) ((congrArg (fun x9 : MS => x9.2.1 12) eτ37).trans ((tA rg_114).trans (tI.trans (tI.trans (tI.trans (hT 12 rg_173 rg_174))))))))))))) (show (τ45).2.1 13 = (upd (σ.2.1 13) (Int32.toNatClampNeg z36) 0) from (((hx48 13 rg_416).2.1).trans ((congrArg (fun x9 : MS => x9.2.1 13) eτ41).trans (tAe.trans (congrArg (fun f9 => (upd f9 (Int32.toNatClampNeg z36) 0)) ((congrArg (fun x9 : MS => x9.2.1 13) eτ39).trans ((tA rg_184).trans ((congrArg (fun x9 : MS => x9.2.1 13) eτ37).trans ((tA rg_120).trans (tI.trans (tI.trans (tI.trans (hT 13 rg_181 rg_182))))))))))))) (show (τ45).2.1 14 = (σ.2.1 14) from (((hx48 14 rg_417).2.1).trans ((congrArg (fun x9 : MS => x9.2.1 14) eτ41).trans ((tA rg_368).trans ((congrArg (fun x9 : MS => x9.2.1 14) eτ39).trans ((tA rg_188).trans ((congrArg (fun x9 : MS => x9.2.1 14) eτ37).trans ((tA rg_125).trans (tI.trans (tI.trans (tI.trans (hT 14 rg_185 rg_186)))))))))))) (show (τ45).2.1 15 = (σ.2.1 15) from (((hx48 15 rg_418).2.1).trans ((congrArg (fun x9 : MS => x9.2.1 15) eτ41).trans ((tA rg_370).trans ((congrArg (fun x9 : MS => x9.2.1 15) eτ39).trans ((tA rg_192).trans ((congrArg (fun x9 : MS => x9.2.1 15) eτ37).trans ((tA rg_127).trans (tI.trans (tI.trans (tI.trans (hT 15 rg_189 rg_190)))))))))))) (show (τ45).2.1 16 = (σ.2.1 16) from (((hx48 16 rg_419).2.1).trans ((congrArg (fun x9 : MS => x9.2.1 16) eτ41).trans ((tA rg_372).trans ((congrArg (fun x9 : MS => x9.2.1 16) eτ39).trans ((tA rg_196).trans ((congrArg (fun x9 : MS => x9.2.1 16) eτ37).trans ((tA rg_132).trans (tI.trans (tI.trans (tI.trans (hT 16 rg_193 rg_194)))))))))))) (show (τ45).2.1 17 = (σ.2.1 17) from (((hx48 17 rg_420).2.1).trans ((congrArg (fun x9 : MS => x9.2.1 17) eτ41).trans ((tA rg_374).trans ((congrArg (fun x9 : MS => x9.2.1 17) eτ39).trans ((tA rg_197).trans ((congrArg (fun x9 : MS => x9.2.1 17) eτ37).trans ((tA rg_138).trans (tI.trans (tI.trans (tI.trans (hT 17 rg_347 rg_348)))))))))))) (show (τ45).2.1 18 = (σ.2.1 18) from (((hx48 18 rg_421).2.1).trans ((congrArg (fun x9 : MS => x9.2.1 18) eτ41).trans ((tA rg_376).trans ((congrArg (fun x9 : MS => x9.2.1 18) eτ39).trans ((tA rg_198).trans ((congrArg (fun x9 : MS => x9.2.1 18) eτ37).trans ((tA rg_144).trans (tI.trans (tI.trans (tI.trans (hT 18 rg_323 rg_324)))))))))))) (show (τ45).2.1 19 = (σ.2.1 19) from (((hx48 19 rg_422).2.1).trans ((congrArg (fun x9 : MS => x9.2.1 19) eτ41).trans ((tA rg_378).trans ((congrArg (fun x9 : MS => x9.2.1 19) eτ39).trans ((tA rg_199).trans ((congrArg (fun x9 : MS => x9.2.1 19) eτ37).trans ((tA rg_150).trans (tI.trans (tI.trans (tI.trans (hT 19 rg_298 rg_299)))))))))))) (show (τ45).2.1 20 = (σ.2.1 20) from (((hx48 20 rg_423).2.1).trans ((congrArg (fun x9 : MS => x9.2.1 20) eτ41).trans ((tA rg_380).trans ((congrArg (fun x9 : MS => x9.2.1 20) eτ39).trans ((tA rg_200).trans ((congrArg (fun x9 : MS => x9.2.1 20) eτ37).trans ((tA rg_156).trans (tI.trans (tI.trans (tI.trans (hT 20 rg_269 rg_270)))))))))))) (show (τ45).2.1 21 = (σ.2.1 21) from (((hx48 21 rg_424).2.1).trans ((congrArg (fun x9 : MS => x9.2.1 21) eτ41).trans ((tA rg_382).trans ((congrArg (fun x9 : MS => x9.2.1 21) eτ39).trans ((tA rg_201).trans ((congrArg (fun x9 : MS => x9.2.1 21) eτ37).trans ((tA rg_162).trans (tI.trans (tI.trans (tI.trans (hT 21 rg_234 rg_235)))))))))))) (show (τ45).2.1 22 = (σ.2.1 22) from (((hx48 22 rg_425).2.1).trans ((congrArg (fun x9 : MS => x9.2.1 22) eτ41).trans ((tA rg_383).trans ((congrArg (fun x9 : MS => x9.2.1 22) eτ39).trans ((tA rg_204).trans ((congrArg (fun x9 : MS => x9.2.1 22) eτ37).trans ((tA rg_168).trans (tI.trans (tI.trans (tI.trans (hT 22 rg_178 rg_202))))))))))))
        have N53 : When τ45 (RelP τ45 (τ45.1 30).toNatClampNeg) := fun _ => by rw [N51]; exact N56.1
        have N55 : (τ45.1 30).toInt = 1 - (σ.1 29).toInt := by rw [N51]; omega
        exact pt_100 _ τ45  _ _ _ (Nat.lt_succ_self _) hI47 Xτ45 N52 N55 (Lx.es lx50) N53 N56.2 hP hD hS (lv_sub hl [0] rfl)
      · have tc34 := (show kv.toInt < (τ.1 3).toInt from ti_nle rfl rfl c34)
        refine lv_aload_n hx hb dX12_program_28 rfl (lv_at hl 0 rfl) ?_
        refine va_get (D := (dC, dI)) (ci := 12) (v := .ref (ad 1)) (C := RX12) (T := TX12) (N := 59) hx hb hts hin12 hown hK hP 0 rfl rfl 1 (Nat.le_of_ble_eq_true rfl) (ho (.fieldLink RX12 13 "NearEnoughModel" "text" "[B") (List.mem_of_getElem? (i := 13) rfl)) (fun _ h9 => h9) rfl dX12_program_29 ?_
        refine lv_iload_n hx hb dX12_program_32 rfl (lv_at hl 1 rfl) ?_
        refine lv_aload_n hx hb dX12_program_33 rfl (lv_at hl 0 rfl) ?_
        refine va_get (D := (dC, dI)) (ci := 12) (v := .ref (ad 0)) (C := RX12) (T := TX12) (N := 59) hx hb hts hin12 hown hK hP 0 rfl rfl 0 (Nat.le_of_ble_eq_true rfl) (ho (.fieldLink RX12 7 "NearEnoughModel" "tape" "[B") (List.mem_of_getElem? (i := 14) rfl)) (fun _ h9 => h9) rfl dX12_program_34 ?_
        refine lv_iload_n hx hb dX12_program_37 rfl (lv_at hl 1 rfl) ?_
        have o21 : 0 ≤ kv.toInt := by omega
        have o22 : kv.toInt < ((1020 : Nat) : Int) := by omega
        refine va_bald hx hb hK hP 1 0 rfl rfl (ti_inx o21 o22) dX12_program_38 ?_
        refine lv_topi (fun z59 ez59 => ?_)
        have gz59 : z59.toInt = ((τ.2.1 0) (Int32.toNatClampNeg kv)).toInt := congrArg Int32.toInt (ez59.trans (congrFun rfl (Int32.toNatClampNeg kv)))
        have o23 : kv.toInt < ((1000 : Nat) : Int) := by omega
        refine va_bast hx hb hK hP hD hS 2 1 rfl rfl (ti_inx o21 o23) dX12_program_39 (fun H locs hP hD hS => ?_)
        rw [wS1] at hP hD
        obtain ⟨τ60, eτ60⟩ : ∃ x9 : MS, x9 = sA τ 1 (upd (τ.2.1 1) (Int32.toNatClampNeg kv) (vp_nar .byte z59)) := ⟨_, rfl⟩
        have hP : va_P (dC, dI) vwCl (mW h ad cl τ60) H := by rw [eτ60]; exact hP
        have hD : va_D A (mW h ad cl τ60) := by rw [eτ60]; exact hD
        have hIτ60 : Inv τ60 := by rw [eτ60]; exact (Inv_sA1 hIτ (fun j _ => Inv.any _))
        have Xτ60 : eqx [4, 5, 3, 1, 2, 30, 6, 7, 8, 9, 10, 25, 14, 15, 16, 11, 17, 18, 19, 20, 21, 27, 28, 26, 12, 22, 23, 24, 13] τ60 σ := (eqx.eq eτ60 (eqx.sA hxτ rg_473))
        obtain ⟨z61, ez61⟩ : ∃ y : Int32, y = kv + 1 := ⟨_, rfl⟩
        have o24 : -2147483648 ≤ kv.toInt + 1 := by omega
        have o25 : kv.toInt + 1 ≤ 2147483647 := by omega
        have tz61 := ti_add ez61 rfl rg_18 o24 o25
        refine lv_iinc (v := z61) (lv' := [(1, .int z61), (0, .ref h)]) hx hb dX12_program_40 hl (k := 1) rfl (iincp ez61 rg_6) (Nat.le_of_ble_eq_true rfl) rfl (fun ls hl => ?_)
        refine lv_goto (tgt := 20) hx hb dX12_program_43 rfl ?_
        have N62 : ∀ p9, 11 ≤ p9 → p9 ≤ 22 → (τ60).2.1 p9 = σ.2.1 p9 := fun p9 h1 h2 => by rw [eτ60]; exact (tA (by omega)).trans (hT p9 h1 h2)
        have qq63 : (τ60.1 3).toInt = ((τ.1 3) : Int32).toInt := congrArg Int32.toInt ((show τ60.1 3 = (τ.1 3) from (congrArg (fun x9 : MS => x9.1 3) eτ60).trans rfl))
        have o26 : ((τ60.1 3).toInt - z61.toInt).toNat < n20 := by omega
        have o27 : 0 ≤ z61.toInt := by omega
        exact ih20 τ60 z61 _ _ _ (show ((τ60.1 3).toInt - z61.toInt).toNat < n20 from o26) hIτ60 Xτ60 ((congrArg (fun x9 : MS => x9.1 29) eτ60).trans hbk) N62 (show 0 ≤ z61.toInt from o27) hP hD hS (lv_sub hl [1, 0] rfl)
  refine zH (A := A) (ws := mW h ad cl σ) (fun H hP hS => ?_) hP
  refine lv_aload_n hx hb dX12_program_0 rfl (lv_at hl 0 rfl) ?_
  refine lv_iconst (v := 0) hx hb dX12_program_1 rg_0 ?_
  refine va_put (D := (dC, dI)) (ci := 12) (v := .int 0) (ty := tyX12 4) (C := RX12) (T := TX12) (N := 59) hx hb hts hin12 tyX12 tyX12_ok nmX12 hown hK hP hD hS 0 rfl rfl 4 (Nat.le_of_ble_eq_true rfl) (ho (.fieldLink RX12 140 "NearEnoughModel" "faultKind" "I") (List.mem_of_getElem? (i := 15) rfl)) (fun _ h9 => h9) rfl (tyX12_ok 4 (Nat.le_of_ble_eq_true rfl)) rfl rfl (Nat.le_of_ble_eq_true rfl) dX12_program_2 (fun H locs hP hD hS => ?_)
  have hP : va_P (dC, dI) vwCl (mW h ad cl (sI σ 4 0)) H := hP
  have hD : va_D A (mW h ad cl (sI σ 4 0)) := hD
  refine lv_aload_n hx hb dX12_program_5 rfl (lv_at hl 0 rfl) ?_
  refine lv_iconst (v := (-1)) hx hb dX12_program_6 rg_53 ?_
  refine va_put (D := (dC, dI)) (ci := 12) (v := .int (-1)) (ty := tyX12 5) (C := RX12) (T := TX12) (N := 59) hx hb hts hin12 tyX12 tyX12_ok nmX12 hown hK hP hD hS 0 rfl rfl 5 (Nat.le_of_ble_eq_true rfl) (ho (.fieldLink RX12 16 "NearEnoughModel" "faultPlace" "I") (List.mem_of_getElem? (i := 16) rfl)) (fun _ h9 => h9) rfl (tyX12_ok 5 (Nat.le_of_ble_eq_true rfl)) rfl rfl (Nat.le_of_ble_eq_true rfl) dX12_program_7 (fun H locs hP hD hS => ?_)
  have hP : va_P (dC, dI) vwCl (mW h ad cl (sI (sI σ 4 0) 5 (-1))) H := hP
  have hD : va_D A (mW h ad cl (sI (sI σ 4 0) 5 (-1))) := hD
  refine lv_aload_n hx hb dX12_program_10 rfl (lv_at hl 0 rfl) ?_
  refine lv_aload_n hx hb dX12_program_11 rfl (lv_at hl 0 rfl) ?_
  refine va_get (D := (dC, dI)) (ci := 12) (v := .int (σ.1 2)) (C := RX12) (T := TX12) (N := 59) hx hb hts hin12 hown hK hP 0 rfl rfl 2 (Nat.le_of_ble_eq_true rfl) (ho (.fieldLink RX12 237 "NearEnoughModel" "taped" "I") (List.mem_of_getElem? (i := 9) rfl)) (fun _ h9 => h9) rfl dX12_program_12 ?_
  have bσ_2 : 0 ≤ (σ.1 2).toInt ∧ (σ.1 2).toInt ≤ 1000 := hI.1 2
  refine va_put (D := (dC, dI)) (ci := 12) (v := .int (σ.1 2)) (ty := tyX12 3) (C := RX12) (T := TX12) (N := 59) hx hb hts hin12 tyX12 tyX12_ok nmX12 hown hK hP hD hS 0 rfl rfl 3 (Nat.le_of_ble_eq_true rfl) (ho (.fieldLink RX12 137 "NearEnoughModel" "size" "I") (List.mem_of_getElem? (i := 8) rfl)) (fun _ h9 => h9) rfl (tyX12_ok 3 (Nat.le_of_ble_eq_true rfl)) rfl rfl (Nat.le_of_ble_eq_true rfl) dX12_program_15 (fun H locs hP hD hS => ?_)
  have hP : va_P (dC, dI) vwCl (mW h ad cl (sI (sI (sI σ 4 0) 5 (-1)) 3 (σ.1 2))) H := hP
  have hD : va_D A (mW h ad cl (sI (sI (sI σ 4 0) 5 (-1)) 3 (σ.1 2))) := hD
  refine lv_iconst (v := 0) hx hb dX12_program_18 rg_0 ?_
  refine lv_istore_n (lv' := [(1, .int 0), (0, .ref h)]) hx hb dX12_program_19 rfl hl (Nat.le_of_ble_eq_true rfl) rfl (fun ls hl => ?_)
  have N64 : ∀ p9, 11 ≤ p9 → p9 ≤ 22 → ((sI (sI (sI σ 4 0) 5 (-1)) 3 (σ.1 2))).2.1 p9 = σ.2.1 p9 := fun _ _ _ => rfl
  have qq65 : (((sI (sI (sI σ 4 0) 5 (-1)) 3 (σ.1 2))).1 3).toInt = ((σ.1 2) : Int32).toInt := rfl
  have o28 : (0 : Int) ≤ (σ.1 2).toInt := by omega
  have o29 : (σ.1 2).toInt ≤ 1000 := by omega
  exact pt_20 _ (sI (sI (sI σ 4 0) 5 (-1)) 3 (σ.1 2)) 0 _ _ _ (Nat.lt_succ_self _) (Inv.sI (k := 3) (v := (σ.1 2)) (Inv.sI (k := 5) (v := (-1)) (Inv.sI (k := 4) (v := 0) hI rg_474) (Inv.any (-1))) (show (0 : Int) ≤ (σ.1 2).toInt ∧ (σ.1 2).toInt ≤ 1000 from ⟨o28, o29⟩)) (eqx.sI (eqx.sI (eqx.sI eqx.rf rg_475) rg_476) rg_477) rfl N64 rg_56 hP hD hS (lv_sub hl [1, 0] rfl)

theorem dX12_ofRow_138 : decode cX12_ofRow 138 = .ok (.iload 16, 2) := by decide +kernel
theorem dX12_ofRow_140 : decode cX12_ofRow 140 = .ok (.iload 8, 2) := by decide +kernel
theorem dX12_ofRow_142 : decode cX12_ofRow 142 = .ok (.if_icmp .ge 57, 3) := by decide +kernel
theorem dX12_ofRow_199 : decode cX12_ofRow 199 = .ok (.aload_n 0, 1) := by decide +kernel
theorem dX12_ofRow_200 : decode cX12_ofRow 200 = .ok (.getfield 39, 3) := by decide +kernel
theorem dX12_ofRow_203 : decode cX12_ofRow 203 = .ok (.iload 5, 2) := by decide +kernel
theorem dX12_ofRow_205 : decode cX12_ofRow 205 = .ok (.iaload, 1) := by decide +kernel
theorem dX12_ofRow_206 : decode cX12_ofRow 206 = .ok (.iconst 1, 1) := by decide +kernel
theorem dX12_ofRow_207 : decode cX12_ofRow 207 = .ok (.if_icmp .ne 8, 3) := by decide +kernel
theorem dX12_ofRow_215 : decode cX12_ofRow 215 = .ok (.iload 10, 2) := by decide +kernel
theorem dX12_ofRow_217 : decode cX12_ofRow 217 = .ok (.iconst 1, 1) := by decide +kernel
theorem dX12_ofRow_218 : decode cX12_ofRow 218 = .ok (.if_icmp .le 16, 3) := by decide +kernel
theorem dX12_ofRow_234 : decode cX12_ofRow 234 = .ok (.lload 11, 2) := by decide +kernel
theorem dX12_ofRow_236 : decode cX12_ofRow 236 = .ok (.lreturn, 1) := by decide +kernel
theorem dX12_ofRow_221 : decode cX12_ofRow 221 = .ok (.lload 11, 2) := by decide +kernel
theorem dX12_ofRow_223 : decode cX12_ofRow 223 = .ok (.iload 8, 2) := by decide +kernel
theorem dX12_ofRow_225 : decode cX12_ofRow 225 = .ok (.i2l, 1) := by decide +kernel
theorem dX12_ofRow_226 : decode cX12_ofRow 226 = .ok (.lmul, 1) := by decide +kernel
theorem dX12_ofRow_227 : decode cX12_ofRow 227 = .ok (.iload 15, 2) := by decide +kernel
theorem dX12_ofRow_229 : decode cX12_ofRow 229 = .ok (.i2l, 1) := by decide +kernel
theorem dX12_ofRow_230 : decode cX12_ofRow 230 = .ok (.ldiv, 1) := by decide +kernel
theorem dX12_ofRow_231 : decode cX12_ofRow 231 = .ok (.goto 5, 3) := by decide +kernel
theorem dX12_ofRow_210 : decode cX12_ofRow 210 = .ok (.lload 13, 2) := by decide +kernel
theorem dX12_ofRow_212 : decode cX12_ofRow 212 = .ok (.goto 24, 3) := by decide +kernel
theorem dX12_ofRow_145 : decode cX12_ofRow 145 = .ok (.aload_n 0, 1) := by decide +kernel
theorem dX12_ofRow_146 : decode cX12_ofRow 146 = .ok (.aload_n 2, 1) := by decide +kernel
theorem dX12_ofRow_147 : decode cX12_ofRow 147 = .ok (.iload 6, 2) := by decide +kernel
theorem dX12_ofRow_149 : decode cX12_ofRow 149 = .ok (.aload_n 0, 1) := by decide +kernel
theorem dX12_ofRow_150 : decode cX12_ofRow 150 = .ok (.getfield 42, 3) := by decide +kernel
theorem dX12_ofRow_153 : decode cX12_ofRow 153 = .ok (.iload 5, 2) := by decide +kernel
theorem dX12_ofRow_155 : decode cX12_ofRow 155 = .ok (.iaload, 1) := by decide +kernel
theorem dX12_ofRow_156 : decode cX12_ofRow 156 = .ok (.iload 16, 2) := by decide +kernel
theorem dX12_ofRow_158 : decode cX12_ofRow 158 = .ok (.invokevirtual 353, 3) := by decide +kernel
theorem dX12_ofRow_161 : decode cX12_ofRow 161 = .ok (.iload 9, 2) := by decide +kernel
theorem dX12_ofRow_163 : decode cX12_ofRow 163 = .ok (.invokestatic 357, 3) := by decide +kernel
theorem dX12_ofRow_166 : decode cX12_ofRow 166 = .ok (.istore 17, 2) := by decide +kernel
theorem dX12_ofRow_168 : decode cX12_ofRow 168 = .ok (.lload 11, 2) := by decide +kernel
theorem dX12_ofRow_170 : decode cX12_ofRow 170 = .ok (.iload 17, 2) := by decide +kernel
theorem dX12_ofRow_172 : decode cX12_ofRow 172 = .ok (.i2l, 1) := by decide +kernel
theorem dX12_ofRow_173 : decode cX12_ofRow 173 = .ok (.ladd, 1) := by decide +kernel
theorem dX12_ofRow_174 : decode cX12_ofRow 174 = .ok (.lstore 11, 2) := by decide +kernel
theorem dX12_ofRow_176 : decode cX12_ofRow 176 = .ok (.lload 13, 2) := by decide +kernel
theorem dX12_ofRow_178 : decode cX12_ofRow 178 = .ok (.iload 17, 2) := by decide +kernel
theorem dX12_ofRow_180 : decode cX12_ofRow 180 = .ok (.i2l, 1) := by decide +kernel
theorem dX12_ofRow_181 : decode cX12_ofRow 181 = .ok (.invokestatic 318, 3) := by decide +kernel
theorem dX12_ofRow_184 : decode cX12_ofRow 184 = .ok (.lstore 13, 2) := by decide +kernel
theorem dX12_ofRow_186 : decode cX12_ofRow 186 = .ok (.iinc 15 1, 3) := by decide +kernel
theorem dX12_ofRow_189 : decode cX12_ofRow 189 = .ok (.iload 16, 2) := by decide +kernel
theorem dX12_ofRow_191 : decode cX12_ofRow 191 = .ok (.iload 10, 2) := by decide +kernel
theorem dX12_ofRow_193 : decode cX12_ofRow 193 = .ok (.iadd, 1) := by decide +kernel
theorem dX12_ofRow_194 : decode cX12_ofRow 194 = .ok (.istore 16, 2) := by decide +kernel
theorem dX12_ofRow_196 : decode cX12_ofRow 196 = .ok (.goto (-58), 3) := by decide +kernel
theorem dX12_ofRow_124 : decode cX12_ofRow 124 = .ok (.lconst 0, 1) := by decide +kernel
theorem dX12_ofRow_125 : decode cX12_ofRow 125 = .ok (.lstore 11, 2) := by decide +kernel
theorem dX12_ofRow_127 : decode cX12_ofRow 127 = .ok (.ldc2_w 351, 3) := by decide +kernel
theorem dX12_ofRow_130 : decode cX12_ofRow 130 = .ok (.lstore 13, 2) := by decide +kernel
theorem dX12_ofRow_132 : decode cX12_ofRow 132 = .ok (.iconst 0, 1) := by decide +kernel
theorem dX12_ofRow_133 : decode cX12_ofRow 133 = .ok (.istore 15, 2) := by decide +kernel
theorem dX12_ofRow_135 : decode cX12_ofRow 135 = .ok (.iconst 0, 1) := by decide +kernel
theorem dX12_ofRow_136 : decode cX12_ofRow 136 = .ok (.istore 16, 2) := by decide +kernel
theorem dX12_ofRow_96 : decode cX12_ofRow 96 = .ok (.iload 4, 2) := by decide +kernel
theorem dX12_ofRow_98 : decode cX12_ofRow 98 = .ok (.ifCond .lt 23, 3) := by decide +kernel
theorem dX12_ofRow_121 : decode cX12_ofRow 121 = .ok (.iconst 1, 1) := by decide +kernel
theorem dX12_ofRow_122 : decode cX12_ofRow 122 = .ok (.istore 10, 2) := by decide +kernel
theorem dX12_ofRow_101 : decode cX12_ofRow 101 = .ok (.aload_n 0, 1) := by decide +kernel
theorem dX12_ofRow_102 : decode cX12_ofRow 102 = .ok (.getfield 85, 3) := by decide +kernel
theorem dX12_ofRow_105 : decode cX12_ofRow 105 = .ok (.iload 4, 2) := by decide +kernel
theorem dX12_ofRow_107 : decode cX12_ofRow 107 = .ok (.iaload, 1) := by decide +kernel
theorem dX12_ofRow_108 : decode cX12_ofRow 108 = .ok (.ifCond .ne 13, 3) := by decide +kernel
theorem dX12_ofRow_111 : decode cX12_ofRow 111 = .ok (.aload_n 0, 1) := by decide +kernel
theorem dX12_ofRow_112 : decode cX12_ofRow 112 = .ok (.getfield 88, 3) := by decide +kernel
theorem dX12_ofRow_115 : decode cX12_ofRow 115 = .ok (.iload 4, 2) := by decide +kernel
theorem dX12_ofRow_117 : decode cX12_ofRow 117 = .ok (.iaload, 1) := by decide +kernel
theorem dX12_ofRow_118 : decode cX12_ofRow 118 = .ok (.goto 4, 3) := by decide +kernel
theorem dX12_ofRow_67 : decode cX12_ofRow 67 = .ok (.iload 4, 2) := by decide +kernel
theorem dX12_ofRow_69 : decode cX12_ofRow 69 = .ok (.ifCond .lt 24, 3) := by decide +kernel
theorem dX12_ofRow_93 : decode cX12_ofRow 93 = .ok (.iconst 1, 1) := by decide +kernel
theorem dX12_ofRow_94 : decode cX12_ofRow 94 = .ok (.istore 9, 2) := by decide +kernel
theorem dX12_ofRow_72 : decode cX12_ofRow 72 = .ok (.aload_n 0, 1) := by decide +kernel
theorem dX12_ofRow_73 : decode cX12_ofRow 73 = .ok (.getfield 85, 3) := by decide +kernel
theorem dX12_ofRow_76 : decode cX12_ofRow 76 = .ok (.iload 4, 2) := by decide +kernel
theorem dX12_ofRow_78 : decode cX12_ofRow 78 = .ok (.iaload, 1) := by decide +kernel
theorem dX12_ofRow_79 : decode cX12_ofRow 79 = .ok (.iconst 3, 1) := by decide +kernel
theorem dX12_ofRow_80 : decode cX12_ofRow 80 = .ok (.if_icmp .ne 13, 3) := by decide +kernel
theorem dX12_ofRow_83 : decode cX12_ofRow 83 = .ok (.aload_n 0, 1) := by decide +kernel
theorem dX12_ofRow_84 : decode cX12_ofRow 84 = .ok (.getfield 88, 3) := by decide +kernel
theorem dX12_ofRow_87 : decode cX12_ofRow 87 = .ok (.iload 4, 2) := by decide +kernel
theorem dX12_ofRow_89 : decode cX12_ofRow 89 = .ok (.iaload, 1) := by decide +kernel
theorem dX12_ofRow_90 : decode cX12_ofRow 90 = .ok (.goto 4, 3) := by decide +kernel
theorem dX12_ofRow_0 : decode cX12_ofRow 0 = .ok (.aload_n 0, 1) := by decide +kernel
theorem dX12_ofRow_1 : decode cX12_ofRow 1 = .ok (.iload_n 1, 1) := by decide +kernel
theorem dX12_ofRow_2 : decode cX12_ofRow 2 = .ok (.invokevirtual 331, 3) := by decide +kernel
theorem dX12_ofRow_5 : decode cX12_ofRow 5 = .ok (.istore 5, 2) := by decide +kernel
theorem dX12_ofRow_7 : decode cX12_ofRow 7 = .ok (.aload_n 0, 1) := by decide +kernel
theorem dX12_ofRow_8 : decode cX12_ofRow 8 = .ok (.aload_n 2, 1) := by decide +kernel
theorem dX12_ofRow_9 : decode cX12_ofRow 9 = .ok (.iload_n 3, 1) := by decide +kernel
theorem dX12_ofRow_10 : decode cX12_ofRow 10 = .ok (.iload 4, 2) := by decide +kernel
theorem dX12_ofRow_12 : decode cX12_ofRow 12 = .ok (.invokevirtual 344, 3) := by decide +kernel
theorem dX12_ofRow_15 : decode cX12_ofRow 15 = .ok (.istore 6, 2) := by decide +kernel
theorem dX12_ofRow_17 : decode cX12_ofRow 17 = .ok (.aload_n 0, 1) := by decide +kernel
theorem dX12_ofRow_18 : decode cX12_ofRow 18 = .ok (.getfield 30, 3) := by decide +kernel
theorem dX12_ofRow_21 : decode cX12_ofRow 21 = .ok (.iconst 2, 1) := by decide +kernel
theorem dX12_ofRow_22 : decode cX12_ofRow 22 = .ok (.aload_n 0, 1) := by decide +kernel
theorem dX12_ofRow_23 : decode cX12_ofRow 23 = .ok (.getfield 240, 3) := by decide +kernel
theorem dX12_ofRow_26 : decode cX12_ofRow 26 = .ok (.imul, 1) := by decide +kernel
theorem dX12_ofRow_27 : decode cX12_ofRow 27 = .ok (.aload_n 0, 1) := by decide +kernel
theorem dX12_ofRow_28 : decode cX12_ofRow 28 = .ok (.getfield 42, 3) := by decide +kernel
theorem dX12_ofRow_31 : decode cX12_ofRow 31 = .ok (.iload 5, 2) := by decide +kernel
theorem dX12_ofRow_33 : decode cX12_ofRow 33 = .ok (.iaload, 1) := by decide +kernel
theorem dX12_ofRow_34 : decode cX12_ofRow 34 = .ok (.iadd, 1) := by decide +kernel
theorem dX12_ofRow_35 : decode cX12_ofRow 35 = .ok (.iaload, 1) := by decide +kernel
theorem dX12_ofRow_36 : decode cX12_ofRow 36 = .ok (.istore 7, 2) := by decide +kernel
theorem dX12_ofRow_38 : decode cX12_ofRow 38 = .ok (.aload_n 0, 1) := by decide +kernel
theorem dX12_ofRow_39 : decode cX12_ofRow 39 = .ok (.iload 4, 2) := by decide +kernel
theorem dX12_ofRow_41 : decode cX12_ofRow 41 = .ok (.iconst 5, 1) := by decide +kernel
theorem dX12_ofRow_42 : decode cX12_ofRow 42 = .ok (.invokevirtual 340, 3) := by decide +kernel
theorem dX12_ofRow_45 : decode cX12_ofRow 45 = .ok (.ifCond .eq 18, 3) := by decide +kernel
theorem dX12_ofRow_63 : decode cX12_ofRow 63 = .ok (.iload 7, 2) := by decide +kernel
theorem dX12_ofRow_65 : decode cX12_ofRow 65 = .ok (.istore 8, 2) := by decide +kernel
theorem dX12_ofRow_48 : decode cX12_ofRow 48 = .ok (.iload 7, 2) := by decide +kernel
theorem dX12_ofRow_50 : decode cX12_ofRow 50 = .ok (.aload_n 0, 1) := by decide +kernel
theorem dX12_ofRow_51 : decode cX12_ofRow 51 = .ok (.getfield 88, 3) := by decide +kernel
theorem dX12_ofRow_54 : decode cX12_ofRow 54 = .ok (.iload 4, 2) := by decide +kernel
theorem dX12_ofRow_56 : decode cX12_ofRow 56 = .ok (.iaload, 1) := by decide +kernel
theorem dX12_ofRow_57 : decode cX12_ofRow 57 = .ok (.invokestatic 348, 3) := by decide +kernel
theorem dX12_ofRow_60 : decode cX12_ofRow 60 = .ok (.goto 5, 3) := by decide +kernel
theorem rg_478 : ((0 : Nat) : Int) ≤ (0 : Int32).toInt := by decide
theorem rg_479 : (0 : Int32).toInt = ((0 : Nat) : Int) := by decide
theorem rg_480 : (0 : Nat) = 0 → (0 : Int32).toInt = 0 := by decide
theorem rg_481 : (0 : Nat) ≤ 6 := by decide
theorem rg_482 : 1 ≤ (1 : Int32).toInt ∧ (1 : Int32).toInt ≤ 99 := by decide
def ow_n_ofRow_n : List Cond := [.fieldLink RX12 39 "NearEnoughModel" "sKind" "[I", .fieldLink RX12 42 "NearEnoughModel" "sA" "[I", .constantLong RX12 351 (-1000000), .fieldLink RX12 85 "NearEnoughModel" "cKind" "[I", .fieldLink RX12 88 "NearEnoughModel" "cN" "[I", .fieldLink RX12 30 "NearEnoughModel" "rHas" "[I", .fieldLink RX12 240 "NearEnoughModel" "bank" "I"]
def vs_n_ofRow_n : List Cond := .code yX12_ofRow cX12_ofRow 18 (some .long) :: (ow_n_ofRow_n ++ (([.methodLink RX12 353 yX12_numberAt, .instanceMethod yX12_numberAt, .selects RX12 yX12_numberAt yX12_numberAt, .initialized RX12] : List Cond) ++ (vs_n_numberAt_n ++ (([.methodLink RX12 357 yX12_coarse, .static yX12_coarse, .initialized yX12_coarse.cls] : List Cond) ++ (vs_n_coarse ++ (([.methodLink RX12 318 yX12_greater, .static yX12_greater, .initialized yX12_greater.cls] : List Cond) ++ (vs_n_greaterV ++ (([.methodLink RX12 331 yX12_at0, .instanceMethod yX12_at0, .selects RX12 yX12_at0 yX12_at0, .initialized RX12] : List Cond) ++ (vs_n_at0 ++ (([.methodLink RX12 344 yX12_baseOf, .instanceMethod yX12_baseOf, .selects RX12 yX12_baseOf yX12_baseOf, .initialized RX12] : List Cond) ++ (vs_n_baseOf_n ++ (([.methodLink RX12 340 yX12_isOn, .instanceMethod yX12_isOn, .selects RX12 yX12_isOn yX12_isOn, .initialized RX12] : List Cond) ++ (vs_n_isOn ++ (([.methodLink RX12 348 yX12_least2, .static yX12_least2, .initialized yX12_least2.cls] : List Cond) ++ (vs_n_least2 ++ (wsX120))))))))))))))))
theorem vg_n_ofRow_n : vs_n_ofRow_n.all goodWord = true := by decide +kernel
theorem dd_n_ofRow_n : yX12_ofRow.cls = RX12 ∧ yX12_ofRow.cls ≠ "java/lang/invoke/MethodHandle" ∧ yX12_ofRow.cls ≠ "java/lang/invoke/VarHandle" ∧ (parseMethodDescriptor yX12_ofRow.desc).map (fun d => d.parameters.length) = some 4 := by decide +kernel
def rm_n_ofRow_n : Room := { frames := 2, cells := 0, slots := 0, locals := 46 }
theorem gd_n_ofRow_n_353_n_numberAt_n : GoodIn vs_n_ofRow_n (wsV RX12 353 RX12 yX12_numberAt vs_n_numberAt_n) := goodIn_app (goodIn_sub (fun w h => (List.mem_cons_of_mem _ (List.mem_append_right _ (List.mem_append_left _ h)))) (by decide +kernel)) (goodIn_sub (fun w h => (List.mem_cons_of_mem _ (List.mem_append_right _ (List.mem_append_right _ (List.mem_append_left _ h))))) vg_n_numberAt_n)
theorem gd_n_ofRow_n_357_n_coarse : GoodIn vs_n_ofRow_n (va_wsS RX12 357 yX12_coarse vs_n_coarse) := goodIn_app (goodIn_sub (fun w h => (List.mem_cons_of_mem _ (List.mem_append_right _ (List.mem_append_right _ (List.mem_append_right _ (List.mem_append_left _ h)))))) (by decide +kernel)) (goodIn_sub (fun w h => (List.mem_cons_of_mem _ (List.mem_append_right _ (List.mem_append_right _ (List.mem_append_right _ (List.mem_append_right _ (List.mem_append_left _ h))))))) vg_n_coarse)
theorem gd_n_ofRow_n_318_n_greaterV : GoodIn vs_n_ofRow_n (va_wsS RX12 318 yX12_greater vs_n_greaterV) := goodIn_app (goodIn_sub (fun w h => (List.mem_cons_of_mem _ (List.mem_append_right _ (List.mem_append_right _ (List.mem_append_right _ (List.mem_append_right _ (List.mem_append_right _ (List.mem_append_left _ h)))))))) (by decide +kernel)) (goodIn_sub (fun w h => (List.mem_cons_of_mem _ (List.mem_append_right _ (List.mem_append_right _ (List.mem_append_right _ (List.mem_append_right _ (List.mem_append_right _ (List.mem_append_right _ (List.mem_append_left _ h))))))))) vg_n_greaterV)
theorem gd_n_ofRow_n_331_n_at0 : GoodIn vs_n_ofRow_n (wsV RX12 331 RX12 yX12_at0 vs_n_at0) := goodIn_app (goodIn_sub (fun w h => (List.mem_cons_of_mem _ (List.mem_append_right _ (List.mem_append_right _ (List.mem_append_right _ (List.mem_append_right _ (List.mem_append_right _ (List.mem_append_right _ (List.mem_append_right _ (List.mem_append_left _ h)))))))))) (by decide +kernel)) (goodIn_sub (fun w h => (List.mem_cons_of_mem _ (List.mem_append_right _ (List.mem_append_right _ (List.mem_append_right _ (List.mem_append_right _ (List.mem_append_right _ (List.mem_append_right _ (List.mem_append_right _ (List.mem_append_right _ (List.mem_append_left _ h))))))))))) vg_n_at0)
theorem gd_n_ofRow_n_344_n_baseOf_n : GoodIn vs_n_ofRow_n (wsV RX12 344 RX12 yX12_baseOf vs_n_baseOf_n) := goodIn_app (goodIn_sub (fun w h => (List.mem_cons_of_mem _ (List.mem_append_right _ (List.mem_append_right _ (List.mem_append_right _ (List.mem_append_right _ (List.mem_append_right _ (List.mem_append_right _ (List.mem_append_right _ (List.mem_append_right _ (List.mem_append_right _ (List.mem_append_left _ h)))))))))))) (by decide +kernel)) (goodIn_sub (fun w h => (List.mem_cons_of_mem _ (List.mem_append_right _ (List.mem_append_right _ (List.mem_append_right _ (List.mem_append_right _ (List.mem_append_right _ (List.mem_append_right _ (List.mem_append_right _ (List.mem_append_right _ (List.mem_append_right _ (List.mem_append_right _ (List.mem_append_left _ h))))))))))))) vg_n_baseOf_n)
theorem gd_n_ofRow_n_340_n_isOn : GoodIn vs_n_ofRow_n (wsV RX12 340 RX12 yX12_isOn vs_n_isOn) := goodIn_app (goodIn_sub (fun w h => (List.mem_cons_of_mem _ (List.mem_append_right _ (List.mem_append_right _ (List.mem_append_right _ (List.mem_append_right _ (List.mem_append_right _ (List.mem_append_right _ (List.mem_append_right _ (List.mem_append_right _ (List.mem_append_right _ (List.mem_append_right _ (List.mem_append_right _ (List.mem_append_left _ h)))))))))))))) (by decide +kernel)) (goodIn_sub (fun w h => (List.mem_cons_of_mem _ (List.mem_append_right _ (List.mem_append_right _ (List.mem_append_right _ (List.mem_append_right _ (List.mem_append_right _ (List.mem_append_right _ (List.mem_append_right _ (List.mem_append_right _ (List.mem_append_right _ (List.mem_append_right _ (List.mem_append_right _ (List.mem_append_right _ (List.mem_append_left _ h))))))))))))))) vg_n_isOn)
theorem gd_n_ofRow_n_348_n_least2 : GoodIn vs_n_ofRow_n (va_wsS RX12 348 yX12_least2 vs_n_least2) := goodIn_app (goodIn_sub (fun w h => (List.mem_cons_of_mem _ (List.mem_append_right _ (List.mem_append_right _ (List.mem_append_right _ (List.mem_append_right _ (List.mem_append_right _ (List.mem_append_right _ (List.mem_append_right _ (List.mem_append_right _ (List.mem_append_right _ (List.mem_append_right _ (List.mem_append_right _ (List.mem_append_right _ (List.mem_append_right _ (List.mem_append_left _ h)))))))))))))))) (by decide +kernel)) (goodIn_sub (fun w h => (List.mem_cons_of_mem _ (List.mem_append_right _ (List.mem_append_right _ (List.mem_append_right _ (List.mem_append_right _ (List.mem_append_right _ (List.mem_append_right _ (List.mem_append_right _ (List.mem_append_right _ (List.mem_append_right _ (List.mem_append_right _ (List.mem_append_right _ (List.mem_append_right _ (List.mem_append_right _ (List.mem_append_right _ (List.mem_append_left _ h))))))))))))))))) vg_n_least2)
set_option maxHeartbeats 4000000 in
set_option maxRecDepth 100000 in
theorem n_ofRow_n (l : Launch) (dC : Nat → ClassId) (dI : Nat → Nat → Nat) (h : Nat) (ad : Nat → Nat) (cl : Nat → ClassId) (sz : Nat) (σ : MS) (st9 : Int32) (base : Int32) (ch9 : Int32) (hI : Inv σ) (hs : 0 ≤ st9.toInt ∧ st9.toInt ≤ 11) (hba : 0 ≤ base.toInt ∧ base.toInt ≤ 468) (hbm : base.toInt = 0 ∨ 12 ≤ base.toInt) (hch : ChOk σ ch9) (hrw : RwOk σ st9) : Met l yX12_ofRow vs_n_ofRow_n rm_n_ofRow_n (va_Pc [.ref h, .int st9, .ref (ad 31), .int base, .int ch9] (wSt dC dI (mW h ad cl σ) (mT cl) sz)) (va_Ql (fun (r : Int64) (τ : MS) => σ = τ ∧ r = ofF (σ.1 29).toNatClampNeg (cor σ) true (σ.2.1 31) st9.toNatClampNeg base ch9) (fun (τ : MS) => wEn dC dI (va_A (mW h ad cl σ) sz) (mW h ad cl τ) []) (va_A (mW h ad cl σ) sz)) 0 0 (va_A (mW h ad cl σ) sz) := by
  refine Met.ofW (cc := cX12_ofRow) (maxL := 18) (ret := (some .long)) (by decide) rfl ?_
  intro p e s m args below meth c s₁ B hml hv
  obtain ⟨rfl, hsz, hP, hK, hD0, hE⟩ := hv
  have hx := B.exec
  have hb := B.bytes
  have hr := B.returns
  have hts := atoms_spec (ws := vs_n_ofRow_n) B.pre
  have hown : s.vm.findClass RX12 = some m.cls := findClass_of_methodNamed B.named
  have hlocks := B.notSynchronized
  subst hsz
  have hD := hD0.self (sz := s.heap.size)
  generalize hAe : va_A (mW h ad cl σ) s.heap.size = A at hD ⊢
  have hA : ∀ q : Nat, s.heap.size ≤ q → A q := fun q h => by rw [← hAe]; exact Or.inr h
  have hl := lv_entry ([.ref h, .int st9, .ref (ad 31), .int base, .int ch9]) (n := 18) (Nat.le_of_ble_eq_true rfl)
  rw [lg_entry_eq]
  generalize (lg_sl ([.ref h, .int st9, .ref (ad 31), .int base, .int ch9]) ++ List.replicate (18 - (lg_sl ([.ref h, .int st9, .ref (ad 31), .int base, .int ch9])).length) Slot.unset).toArray = ls at hl ⊢
  have hl : lv_has ls 18 [(0, .ref h), (1, .int st9), (2, .ref (ad 31)), (3, .int base), (4, .int ch9)] := hl
  have ho := fun w (h : w ∈ ow_n_ofRow_n) => hts w (List.mem_cons_of_mem _ (List.mem_append_left _ h))
  have hin12 : ∀ w ∈ u_ws RX12 TX12 59, w ∈ vs_n_ofRow_n := fun w h => (List.mem_cons_of_mem _ (List.mem_append_right _ (List.mem_append_right _ (List.mem_append_right _ (List.mem_append_right _ (List.mem_append_right _ (List.mem_append_right _ (List.mem_append_right _ (List.mem_append_right _ (List.mem_append_right _ (List.mem_append_right _ (List.mem_append_right _ (List.mem_append_right _ (List.mem_append_right _ (List.mem_append_right _ (List.mem_append_right _ h))))))))))))))))
  refine zQ (fun Q hQ => ?_)
  have hch0 : ChOk σ ch9 := hch
  unfold ChOk at hch
  have pt_138 : ∀ (n138 : Nat) (x : Int32) (bs : Int32) (al : Int32) (ha : Int32) (bv : Int32) (fa : Int32) (sm : Int64) (mo : Int64) (tk : Int32) (kv : Int32) (cn : Nat) (H : Heap) (locs : List Loc) (ls : Array Slot), (6 - kv.toInt).toNat < n138 → (x.toNatClampNeg = 12 * (σ.1 29).toNatClampNeg + st9.toNatClampNeg) → (bs = bsF (cor σ) true base ch9) → (0 ≤ bs.toInt ∧ bs.toInt ≤ 468) → (al = ofA (σ.1 29).toNatClampNeg (cor σ) st9.toNatClampNeg) → (1 ≤ al.toInt ∧ al.toInt ≤ 6) → (x.toInt = 12 * (σ.1 29).toInt + st9.toInt) → (0 ≤ (σ.2.1 18 (Int32.toNatClampNeg x)).toInt ∧ (σ.2.1 18 (Int32.toNatClampNeg x)).toInt ≤ 1) → (ha = hasF (cor σ) al ch9) → (1 ≤ ha.toInt ∧ ha.toInt ≤ 6) → (bv = byF (cor σ) ch9) → (1 ≤ bv.toInt ∧ bv.toInt ≤ 99) → (fa = farF (cor σ) ch9) → (1 ≤ fa.toInt ∧ fa.toInt ≤ 99) → ((kv, sm, mo, tk) = itN (stp (rowF (σ.2.1 31) bs (σ.2.1 18 (12 * (σ.1 29).toNatClampNeg + st9.toNatClampNeg)) bv) ha fa) cn (0, 0, -1000000, 0)) → ((cn : Int) ≤ kv.toInt) → (tk.toInt = (cn : Int)) → (cn = 0 → kv.toInt = 0) → (cn ≤ 6) → va_P (dC, dI) vwCl (mW h ad cl σ) H → va_D A (mW h ad cl σ) → va_S A s.heap H locs → lv_has ls 18 [(0, .ref h), (1, .int st9), (2, .ref (ad 31)), (3, .int base), (4, .int ch9), (5, .int x), (6, .int bs), (7, .int al), (8, .int ha), (9, .int bv), (10, .int fa), (11, .long sm), (13, .long mo), (15, .int tk), (16, .int kv)] → W p l e (headSpec vs_n_ofRow_n rm_n_ofRow_n).room s m #[Value.ref h, Value.int st9, Value.ref (ad 31), Value.int base, Value.int ch9] below meth c H locs 0 0 Q (F0 m 138 ls []) := by
    intro n138
    induction n138 with
    | zero => intro x bs al ha bv fa sm mo tk kv cn H locs ls hn138 hX hbs hbb hal hab hx5 hra hhs hhb hby hbv hfa hfv hit hck htk hc0 hcn hP hD hS hl; exact absurd hn138 (Nat.not_lt_zero _)
    | succ n138 ih138 =>
      intro x bs al ha bv fa sm mo tk kv cn H locs ls hn138 hX hbs hbb hal hab hx5 hra hhs hhb hby hbv hfa hfv hit hck htk hc0 hcn hP hD hS hl
      have bσ_29 : 0 ≤ (σ.1 29).toInt ∧ (σ.1 29).toInt ≤ 1 := hI.1 29
      refine lv_iload hx hb dX12_ofRow_138 (lv_at hl 14 rfl) ?_
      refine lv_iload hx hb dX12_ofRow_140 (lv_at hl 8 rfl) ?_
      refine lv_icmp_ge (tgt := 199) hx hb dX12_ofRow_142 rfl (fun c1_ => ?_) (fun c1_ => ?_)
      · have tc1_ := (show ha.toInt ≤ kv.toInt from ti_le rfl rfl c1_)
        refine lv_aload_n hx hb dX12_ofRow_199 rfl (lv_at hl 0 rfl) ?_
        refine va_get (D := (dC, dI)) (ci := 12) (v := .ref (ad 17)) (C := RX12) (T := TX12) (N := 59) hx hb hts hin12 hown hK hP 0 rfl rfl 17 (Nat.le_of_ble_eq_true rfl) (ho (.fieldLink RX12 39 "NearEnoughModel" "sKind" "[I") (List.mem_of_getElem? (i := 0) rfl)) (fun _ h9 => h9) rfl dX12_ofRow_200 ?_
        refine lv_iload hx hb dX12_ofRow_203 (lv_at hl 5 rfl) ?_
        have o1 : 0 ≤ x.toInt := by omega
        have o2 : x.toInt < ((24 : Nat) : Int) := by omega
        refine va_iald hx hb hK hP 9 8 rfl rfl (ti_inx o1 o2) dX12_ofRow_205 ?_
        refine lv_topi (fun z2_ ez2_ => ?_)
        have gz2_ : z2_.toInt = ((σ.2.1 17) (Int32.toNatClampNeg x)).toInt := congrArg Int32.toInt (ez2_.trans (congrFun rfl (Int32.toNatClampNeg x)))
        have bz2_ : 0 ≤ z2_.toInt ∧ z2_.toInt ≤ 7 := by rw [ez2_]; exact (hI.2 17) _ (cl_lt (n := 24) o1 o2)
        refine lv_iconst (v := 1) hx hb dX12_ofRow_206 rg_6 ?_
        refine lv_icmp_ne (tgt := 215) hx hb dX12_ofRow_207 rfl (fun c3_ => ?_) (fun c3_ => ?_)
        · have tc3_ := (show z2_.toInt ≠ 1 from ti_ne rfl rg_18 c3_)
          refine lv_iload hx hb dX12_ofRow_215 (lv_at hl 10 rfl) ?_
          refine lv_iconst (v := 1) hx hb dX12_ofRow_217 rg_6 ?_
          refine lv_icmp_le (tgt := 234) hx hb dX12_ofRow_218 rfl (fun c4_ => ?_) (fun c4_ => ?_)
          · have tc4_ := (show fa.toInt ≤ 1 from ti_le rfl rg_18 c4_)
            refine lv_lload hx hb dX12_ofRow_234 (lv_at hl 11 rfl) ?_
            rw [hQ]
            have o3 : cn ≤ 6 := by omega
            have o4 : ¬ kv.toInt < ha.toInt := by omega
            have N5_ : ofT (σ.1 29).toNatClampNeg (cor σ) true (σ.2.1 31) st9.toNatClampNeg base ch9 = (kv, sm, mo, tk) := by subst hbs hal hhs hby hfa; exact it_fin hit o3 (stp_n o4)
            have o5 : ¬ (σ.2.1 17 (Int32.toNatClampNeg x)).toInt = 1 := by omega
            have o6 : ¬ 1 < fa.toInt := by omega
            exact W.lret (v := sm) hx hb hr (fun t ht hW => ⟨⟨sm, σ, rfl, ⟨rfl, (of_s (by rw [← hX]; exact o5) (by rw [← hfa]; exact o6) N5_)⟩, wEn_of hP (hK.sub [] rfl) hD ht hW⟩, hS.F ht⟩) hS.2.2 dX12_ofRow_236
          · have tc4_ := (show 1 < fa.toInt from ti_nle rfl rg_18 c4_)
            refine lv_lload hx hb dX12_ofRow_221 (lv_at hl 11 rfl) ?_
            refine lv_iload hx hb dX12_ofRow_223 (lv_at hl 8 rfl) ?_
            refine lv_i2l hx hb dX12_ofRow_225 rfl ?_
            refine lv_topl (fun y6_ ey6_ => ?_)
            refine lv_lmul hx hb dX12_ofRow_226 ?_
            refine lv_topl (fun y7_ ey7_ => ?_)
            refine lv_iload hx hb dX12_ofRow_227 (lv_at hl 13 rfl) ?_
            refine lv_i2l hx hb dX12_ofRow_229 rfl ?_
            refine lv_topl (fun y8_ ey8_ => ?_)
            have o7 : tk.toInt ≠ 0 := by omega
            refine lv_ldiv hx hb dX12_ofRow_230 (i2l_ne ey8_ o7) ?_
            refine lv_topl (fun y9_ ey9_ => ?_)
            refine lv_goto (tgt := 236) hx hb dX12_ofRow_231 rfl ?_
            rw [hQ]
            have o8 : cn ≤ 6 := by omega
            have o9 : ¬ kv.toInt < ha.toInt := by omega
            have N10_ : ofT (σ.1 29).toNatClampNeg (cor σ) true (σ.2.1 31) st9.toNatClampNeg base ch9 = (kv, sm, mo, tk) := by subst hbs hal hhs hby hfa; exact it_fin hit o8 (stp_n o9)
            have o10 : ¬ (σ.2.1 17 (Int32.toNatClampNeg x)).toInt = 1 := by omega
            have o11 : 1 < fa.toInt := by omega
            exact W.lret (v := y9_) hx hb hr (fun t ht hW => ⟨⟨y9_, σ, rfl, ⟨rfl, (by rw [← of_f (by rw [← hX]; exact o10) (by rw [← hfa]; exact o11) N10_]; rw [← hal, ← hhs]; simp only [ez2_, ey6_, ey7_, ey8_, ey9_])⟩, wEn_of hP (hK.sub [] rfl) hD ht hW⟩, hS.F ht⟩) hS.2.2 dX12_ofRow_236
        · have tc3_ := (show z2_.toInt = 1 from ti_eq rfl rg_18 c3_)
          refine lv_lload hx hb dX12_ofRow_210 (lv_at hl 12 rfl) ?_
          refine lv_goto (tgt := 236) hx hb dX12_ofRow_212 rfl ?_
          rw [hQ]
          have o12 : cn ≤ 6 := by omega
          have o13 : ¬ kv.toInt < ha.toInt := by omega
          have N11_ : ofT (σ.1 29).toNatClampNeg (cor σ) true (σ.2.1 31) st9.toNatClampNeg base ch9 = (kv, sm, mo, tk) := by subst hbs hal hhs hby hfa; exact it_fin hit o12 (stp_n o13)
          have o14 : (σ.2.1 17 (Int32.toNatClampNeg x)).toInt = 1 := by omega
          exact W.lret (v := mo) hx hb hr (fun t ht hW => ⟨⟨mo, σ, rfl, ⟨rfl, (of_m (by rw [← hX]; exact o14) N11_)⟩, wEn_of hP (hK.sub [] rfl) hD ht hW⟩, hS.F ht⟩) hS.2.2 dX12_ofRow_236
      · have tc1_ := (show kv.toInt < ha.toInt from ti_nle rfl rfl c1_)
        refine lv_aload_n hx hb dX12_ofRow_145 rfl (lv_at hl 0 rfl) ?_
        refine lv_aload_n hx hb dX12_ofRow_146 rfl (lv_at hl 2 rfl) ?_
        refine lv_iload hx hb dX12_ofRow_147 (lv_at hl 6 rfl) ?_
        refine lv_aload_n hx hb dX12_ofRow_149 rfl (lv_at hl 0 rfl) ?_
        refine va_get (D := (dC, dI)) (ci := 12) (v := .ref (ad 18)) (C := RX12) (T := TX12) (N := 59) hx hb hts hin12 hown hK hP 0 rfl rfl 18 (Nat.le_of_ble_eq_true rfl) (ho (.fieldLink RX12 42 "NearEnoughModel" "sA" "[I") (List.mem_of_getElem? (i := 1) rfl)) (fun _ h9 => h9) rfl dX12_ofRow_150 ?_
        refine lv_iload hx hb dX12_ofRow_153 (lv_at hl 5 rfl) ?_
        have o15 : 0 ≤ x.toInt := by omega
        have o16 : x.toInt < ((24 : Nat) : Int) := by omega
        refine va_iald hx hb hK hP 10 9 rfl rfl (ti_inx o15 o16) dX12_ofRow_155 ?_
        refine lv_topi (fun z12_ ez12_ => ?_)
        have gz12_ : z12_.toInt = ((σ.2.1 18) (Int32.toNatClampNeg x)).toInt := congrArg Int32.toInt (ez12_.trans (congrFun rfl (Int32.toNatClampNeg x)))
        have bz12_ : (-1) ≤ z12_.toInt ∧ z12_.toInt ≤ 11 := by rw [ez12_]; exact (hI.2 18) _ (cl_lt (n := 24) o15 o16)
        refine lv_iload hx hb dX12_ofRow_156 (lv_at hl 14 rfl) ?_
        have o17 : 0 ≤ bs.toInt := by omega
        have o18 : bs.toInt ≤ 468 := by omega
        have o19 : 0 ≤ z12_.toInt := by omega
        have o20 : z12_.toInt ≤ 1 := by omega
        have o21 : 0 ≤ kv.toInt := by omega
        have o22 : kv.toInt ≤ 5 := by omega
        refine zy_i (va_runV (As := [.ref (ad 31), .int bs, .int z12_, .int kv]) (rest := []) ⟨hx, hb, hml, hown, hts⟩ (n_numberAt_n l dC dI h ad cl H.size σ bs z12_ kv hI ⟨o17, o18⟩ ⟨o19, o20⟩ ⟨o21, o22⟩) (cwV 4 hts gd_n_ofRow_n_353_n_numberAt_n rfl rfl rfl dd_n_numberAt_n ⟨Nat.le_of_ble_eq_true rfl, Nat.le_of_ble_eq_true rfl⟩) (preV hP hK hD hE (ci := 12) (q0 := 0) rfl rfl) rfl rfl hl.1 rfl (lv_room (Nat.le_of_ble_eq_true rfl)) dX12_ofRow_158 ⟨Nat.le_of_ble_eq_true rfl, Nat.le_of_ble_eq_true rfl⟩) hD hS hA (fun z14_ τ13_ H locs hq hP hD hS => ?_)
        obtain ⟨rfl, f15_⟩ := hq
        refine W.widen (k := 0) (n := 0) (Nat.le_of_ble_eq_true rfl) (Nat.le_of_ble_eq_true rfl) ?_
        refine lv_iload hx hb dX12_ofRow_161 (lv_at hl 9 rfl) ?_
        have o23 : bv.toInt ≠ 0 := by omega
        refine zs_i (va_runS (As := [.int z14_, .int bv]) (rest := []) ⟨hx, hb, hml, hown, hts⟩ (n_coarse l dC dI z14_ bv o23 H.size) (va_cwS 2 hts gd_n_ofRow_n_357_n_coarse rfl rfl rfl dd_n_coarse ⟨Nat.le_of_ble_eq_true rfl, Nat.le_of_ble_eq_true rfl⟩) (preS (A := A) empP (hK.sub (tys' := []) [] rfl) empD hE) rfl rfl hl.1 rfl (lv_room (Nat.le_of_ble_eq_true rfl)) dX12_ofRow_163 ⟨Nat.le_of_ble_eq_true rfl, Nat.le_of_ble_eq_true rfl⟩) hP hD hS hA (fun z16_ H locs hq hP hD hS => ?_)
        have f17_ := hq
        refine W.widen (k := 0) (n := 0) (Nat.le_of_ble_eq_true rfl) (Nat.le_of_ble_eq_true rfl) ?_
        refine lv_istore (lv' := [(17, .int z16_), (0, .ref h), (1, .int st9), (2, .ref (ad 31)), (3, .int base), (4, .int ch9), (5, .int x), (6, .int bs), (7, .int al), (8, .int ha), (9, .int bv), (10, .int fa), (11, .long sm), (13, .long mo), (15, .int tk), (16, .int kv)]) hx hb dX12_ofRow_166 hl (Nat.le_of_ble_eq_true rfl) rfl (fun ls hl => ?_)
        refine lv_lload hx hb dX12_ofRow_168 (lv_at hl 12 rfl) ?_
        refine lv_iload hx hb dX12_ofRow_170 (lv_at hl 0 rfl) ?_
        refine lv_i2l hx hb dX12_ofRow_172 rfl ?_
        refine lv_topl (fun y18_ ey18_ => ?_)
        refine lv_ladd hx hb dX12_ofRow_173 ?_
        refine lv_topl (fun y19_ ey19_ => ?_)
        refine lv_lstore (lv' := [(11, .long y19_), (17, .int z16_), (0, .ref h), (1, .int st9), (2, .ref (ad 31)), (3, .int base), (4, .int ch9), (5, .int x), (6, .int bs), (7, .int al), (8, .int ha), (9, .int bv), (10, .int fa), (13, .long mo), (15, .int tk), (16, .int kv)]) hx hb dX12_ofRow_174 hl (Nat.le_of_ble_eq_true rfl) rfl (fun ls hl => ?_)
        refine lv_lload hx hb dX12_ofRow_176 (lv_at hl 13 rfl) ?_
        refine lv_iload hx hb dX12_ofRow_178 (lv_at hl 1 rfl) ?_
        refine lv_i2l hx hb dX12_ofRow_180 rfl ?_
        refine lv_topl (fun y20_ ey20_ => ?_)
        refine zs_l (va_runS (As := [.long mo, .long y20_]) (rest := []) ⟨hx, hb, hml, hown, hts⟩ (n_greaterV l dC dI mo y20_  H.size) (va_cwS 2 hts gd_n_ofRow_n_318_n_greaterV rfl rfl rfl dd_n_greaterV ⟨Nat.le_of_ble_eq_true rfl, Nat.le_of_ble_eq_true rfl⟩) (preS (A := A) empP (hK.sub (tys' := []) [] rfl) empD hE) rfl rfl hl.1 rfl (lv_room (Nat.le_of_ble_eq_true rfl)) dX12_ofRow_181 ⟨Nat.le_of_ble_eq_true rfl, Nat.le_of_ble_eq_true rfl⟩) hP hD hS hA (fun y21_ H locs hq hP hD hS => ?_)
        have f22_ := hq
        refine W.widen (k := 0) (n := 0) (Nat.le_of_ble_eq_true rfl) (Nat.le_of_ble_eq_true rfl) ?_
        refine lv_lstore (lv' := [(13, .long y21_), (11, .long y19_), (17, .int z16_), (0, .ref h), (1, .int st9), (2, .ref (ad 31)), (3, .int base), (4, .int ch9), (5, .int x), (6, .int bs), (7, .int al), (8, .int ha), (9, .int bv), (10, .int fa), (15, .int tk), (16, .int kv)]) hx hb dX12_ofRow_184 hl (Nat.le_of_ble_eq_true rfl) rfl (fun ls hl => ?_)
        obtain ⟨z23_, ez23_⟩ : ∃ y : Int32, y = tk + 1 := ⟨_, rfl⟩
        have o24 : -2147483648 ≤ tk.toInt + 1 := by omega
        have o25 : tk.toInt + 1 ≤ 2147483647 := by omega
        have tz23_ := ti_add ez23_ rfl rg_18 o24 o25
        refine lv_iinc (v := z23_) (lv' := [(15, .int z23_), (13, .long y21_), (11, .long y19_), (17, .int z16_), (0, .ref h), (1, .int st9), (2, .ref (ad 31)), (3, .int base), (4, .int ch9), (5, .int x), (6, .int bs), (7, .int al), (8, .int ha), (9, .int bv), (10, .int fa), (16, .int kv)]) hx hb dX12_ofRow_186 hl (k := 14) rfl (iincp ez23_ rg_6) (Nat.le_of_ble_eq_true rfl) rfl (fun ls hl => ?_)
        refine lv_iload hx hb dX12_ofRow_189 (lv_at hl 15 rfl) ?_
        refine lv_iload hx hb dX12_ofRow_191 (lv_at hl 14 rfl) ?_
        refine lv_iadd hx hb dX12_ofRow_193 ?_
        refine lv_topi (fun z24_ ez24_ => ?_)
        have o26 : -2147483648 ≤ kv.toInt + fa.toInt := by omega
        have o27 : kv.toInt + fa.toInt ≤ 2147483647 := by omega
        have tz24_ : z24_.toInt = kv.toInt + fa.toInt := ti_add ez24_ rfl rfl o26 o27
        refine lv_istore (lv' := [(16, .int z24_), (15, .int z23_), (13, .long y21_), (11, .long y19_), (17, .int z16_), (0, .ref h), (1, .int st9), (2, .ref (ad 31)), (3, .int base), (4, .int ch9), (5, .int x), (6, .int bs), (7, .int al), (8, .int ha), (9, .int bv), (10, .int fa)]) hx hb dX12_ofRow_194 hl (Nat.le_of_ble_eq_true rfl) rfl (fun ls hl => ?_)
        refine lv_goto (tgt := 138) hx hb dX12_ofRow_196 rfl ?_
        have o28 : kv.toInt < ha.toInt := by omega
        have N25_ : (z24_, y19_, y21_, z23_) = itN (stp (rowF (σ.2.1 31) bs (σ.2.1 18 (12 * (σ.1 29).toNatClampNeg + st9.toNatClampNeg)) bv) ha fa) (cn + 1) (0, 0, -1000000, 0) := by rw [itN_s, ← hit, stp_y o28]; simp only [rowF, ez12_, f15_, f17_, ey18_, ey19_, ey20_, f22_, ez23_, ez24_, hX]
        have o29 : ((cn + 1 : Nat) : Int) ≤ z24_.toInt := by omega
        have o30 : z23_.toInt = ((cn + 1 : Nat) : Int) := by omega
        have o31 : cn + 1 ≤ 6 := by omega
        have o32 : (6 - z24_.toInt).toNat < n138 := by omega
        exact ih138  x bs al ha bv fa y19_ y21_ z23_ z24_ (cn + 1) _ _ _ (show (6 - z24_.toInt).toNat < n138 from o32) hX hbs hbb hal hab hx5 hra hhs hhb hby hbv hfa hfv N25_ o29 o30 (fun h9 => absurd h9 (Nat.succ_ne_zero _)) o31 hP hD hS (lv_sub hl [5, 6, 7, 8, 9, 10, 11, 12, 13, 14, 15, 3, 2, 1, 0] rfl)
  have pt_124 : ∀ (x : Int32) (bs : Int32) (al : Int32) (ha : Int32) (bv : Int32) (fa : Int32) (H : Heap) (locs : List Loc) (ls : Array Slot), (x.toNatClampNeg = 12 * (σ.1 29).toNatClampNeg + st9.toNatClampNeg) → (bs = bsF (cor σ) true base ch9) → (0 ≤ bs.toInt ∧ bs.toInt ≤ 468) → (al = ofA (σ.1 29).toNatClampNeg (cor σ) st9.toNatClampNeg) → (1 ≤ al.toInt ∧ al.toInt ≤ 6) → (x.toInt = 12 * (σ.1 29).toInt + st9.toInt) → (0 ≤ (σ.2.1 18 (Int32.toNatClampNeg x)).toInt ∧ (σ.2.1 18 (Int32.toNatClampNeg x)).toInt ≤ 1) → (ha = hasF (cor σ) al ch9) → (1 ≤ ha.toInt ∧ ha.toInt ≤ 6) → (bv = byF (cor σ) ch9) → (1 ≤ bv.toInt ∧ bv.toInt ≤ 99) → (fa = farF (cor σ) ch9) → (1 ≤ fa.toInt ∧ fa.toInt ≤ 99) → va_P (dC, dI) vwCl (mW h ad cl σ) H → va_D A (mW h ad cl σ) → va_S A s.heap H locs → lv_has ls 18 [(0, .ref h), (1, .int st9), (2, .ref (ad 31)), (3, .int base), (4, .int ch9), (5, .int x), (6, .int bs), (7, .int al), (8, .int ha), (9, .int bv), (10, .int fa)] → W p l e (headSpec vs_n_ofRow_n rm_n_ofRow_n).room s m #[Value.ref h, Value.int st9, Value.ref (ad 31), Value.int base, Value.int ch9] below meth c H locs 0 0 Q (F0 m 124 ls []) := by
    intro x bs al ha bv fa H locs ls hX hbs hbb hal hab hx5 hra hhs hhb hby hbv hfa hfv hP hD hS hl
    have bσ_29 : 0 ≤ (σ.1 29).toInt ∧ (σ.1 29).toInt ≤ 1 := hI.1 29
    refine lv_lconst (v := 0) hx hb dX12_ofRow_124 (by decide) ?_
    refine lv_lstore (lv' := [(11, .long 0), (0, .ref h), (1, .int st9), (2, .ref (ad 31)), (3, .int base), (4, .int ch9), (5, .int x), (6, .int bs), (7, .int al), (8, .int ha), (9, .int bv), (10, .int fa)]) hx hb dX12_ofRow_125 hl (Nat.le_of_ble_eq_true rfl) rfl (fun ls hl => ?_)
    refine lv_ldc2 (v := (-1000000)) hx hb hown (ho (.constantLong RX12 351 (-1000000)) (List.mem_of_getElem? (i := 2) rfl)) dX12_ofRow_127 ?_
    refine lv_lstore (lv' := [(13, .long (-1000000)), (11, .long 0), (0, .ref h), (1, .int st9), (2, .ref (ad 31)), (3, .int base), (4, .int ch9), (5, .int x), (6, .int bs), (7, .int al), (8, .int ha), (9, .int bv), (10, .int fa)]) hx hb dX12_ofRow_130 hl (Nat.le_of_ble_eq_true rfl) rfl (fun ls hl => ?_)
    refine lv_iconst (v := 0) hx hb dX12_ofRow_132 rg_0 ?_
    refine lv_istore (lv' := [(15, .int 0), (13, .long (-1000000)), (11, .long 0), (0, .ref h), (1, .int st9), (2, .ref (ad 31)), (3, .int base), (4, .int ch9), (5, .int x), (6, .int bs), (7, .int al), (8, .int ha), (9, .int bv), (10, .int fa)]) hx hb dX12_ofRow_133 hl (Nat.le_of_ble_eq_true rfl) rfl (fun ls hl => ?_)
    refine lv_iconst (v := 0) hx hb dX12_ofRow_135 rg_0 ?_
    refine lv_istore (lv' := [(16, .int 0), (15, .int 0), (13, .long (-1000000)), (11, .long 0), (0, .ref h), (1, .int st9), (2, .ref (ad 31)), (3, .int base), (4, .int ch9), (5, .int x), (6, .int bs), (7, .int al), (8, .int ha), (9, .int bv), (10, .int fa)]) hx hb dX12_ofRow_136 hl (Nat.le_of_ble_eq_true rfl) rfl (fun ls hl => ?_)
    exact pt_138 _  x bs al ha bv fa 0 (-1000000) 0 0 0 _ _ _ (Nat.lt_succ_self _) hX hbs hbb hal hab hx5 hra hhs hhb hby hbv hfa hfv rfl rg_478 rg_479 rg_480 rg_481 hP hD hS (lv_sub hl [4, 5, 6, 7, 8, 9, 10, 11, 12, 13, 14, 3, 2, 1, 0] rfl)
  have pt_96 : ∀ (x : Int32) (bs : Int32) (al : Int32) (ha : Int32) (bv : Int32) (H : Heap) (locs : List Loc) (ls : Array Slot), (x.toNatClampNeg = 12 * (σ.1 29).toNatClampNeg + st9.toNatClampNeg) → (bs = bsF (cor σ) true base ch9) → (0 ≤ bs.toInt ∧ bs.toInt ≤ 468) → (al = ofA (σ.1 29).toNatClampNeg (cor σ) st9.toNatClampNeg) → (1 ≤ al.toInt ∧ al.toInt ≤ 6) → (x.toInt = 12 * (σ.1 29).toInt + st9.toInt) → (0 ≤ (σ.2.1 18 (Int32.toNatClampNeg x)).toInt ∧ (σ.2.1 18 (Int32.toNatClampNeg x)).toInt ≤ 1) → (ha = hasF (cor σ) al ch9) → (1 ≤ ha.toInt ∧ ha.toInt ≤ 6) → (bv = byF (cor σ) ch9) → (1 ≤ bv.toInt ∧ bv.toInt ≤ 99) → va_P (dC, dI) vwCl (mW h ad cl σ) H → va_D A (mW h ad cl σ) → va_S A s.heap H locs → lv_has ls 18 [(0, .ref h), (1, .int st9), (2, .ref (ad 31)), (3, .int base), (4, .int ch9), (5, .int x), (6, .int bs), (7, .int al), (8, .int ha), (9, .int bv)] → W p l e (headSpec vs_n_ofRow_n rm_n_ofRow_n).room s m #[Value.ref h, Value.int st9, Value.ref (ad 31), Value.int base, Value.int ch9] below meth c H locs 0 0 Q (F0 m 96 ls []) := by
    intro x bs al ha bv H locs ls hX hbs hbb hal hab hx5 hra hhs hhb hby hbv hP hD hS hl
    have bσ_29 : 0 ≤ (σ.1 29).toInt ∧ (σ.1 29).toInt ≤ 1 := hI.1 29
    refine lv_iload hx hb dX12_ofRow_96 (lv_at hl 4 rfl) ?_
    refine lv_if_lt (tgt := 121) hx hb dX12_ofRow_98 rfl (fun c26_ => ?_) (fun c26_ => ?_)
    · have tc26_ := (show ch9.toInt < 0 from ti_lt rfl rg_11 c26_)
      refine lv_iconst (v := 1) hx hb dX12_ofRow_121 rg_6 ?_
      refine lv_istore (lv' := [(10, .int 1), (0, .ref h), (1, .int st9), (2, .ref (ad 31)), (3, .int base), (4, .int ch9), (5, .int x), (6, .int bs), (7, .int al), (8, .int ha), (9, .int bv)]) hx hb dX12_ofRow_122 hl (Nat.le_of_ble_eq_true rfl) rfl (fun ls hl => ?_)
      have o33 : ¬ (0 ≤ ch9.toInt ∧ (σ.2.1 34 (Int32.toNatClampNeg ch9)).toInt = 0) := by omega
      exact pt_124  x bs al ha bv 1 _ _ _ hX hbs hbb hal hab hx5 hra hhs hhb hby hbv (far_n (T := cor σ) (show ¬ (0 ≤ ch9.toInt ∧ (σ.2.1 34 (Int32.toNatClampNeg ch9)).toInt = 0) from o33)) rg_482 hP hD hS (lv_sub hl [1, 2, 3, 4, 5, 6, 7, 8, 9, 10, 0] rfl)
    · have tc26_ := (show 0 ≤ ch9.toInt from ti_nlt rfl rg_11 c26_)
      refine lv_aload_n hx hb dX12_ofRow_101 rfl (lv_at hl 0 rfl) ?_
      refine va_get (D := (dC, dI)) (ci := 12) (v := .ref (ad 34)) (C := RX12) (T := TX12) (N := 59) hx hb hts hin12 hown hK hP 0 rfl rfl 34 (Nat.le_of_ble_eq_true rfl) (ho (.fieldLink RX12 85 "NearEnoughModel" "cKind" "[I") (List.mem_of_getElem? (i := 3) rfl)) (fun _ h9 => h9) rfl dX12_ofRow_102 ?_
      refine lv_iload hx hb dX12_ofRow_105 (lv_at hl 4 rfl) ?_
      have o34 : 0 ≤ ch9.toInt := by omega
      have o35 : ch9.toInt < ((12 : Nat) : Int) := by omega
      refine va_iald hx hb hK hP 24 23 rfl rfl (ti_inx o34 o35) dX12_ofRow_107 ?_
      refine lv_topi (fun z27_ ez27_ => ?_)
      have gz27_ : z27_.toInt = ((σ.2.1 34) (Int32.toNatClampNeg ch9)).toInt := congrArg Int32.toInt (ez27_.trans (congrFun rfl (Int32.toNatClampNeg ch9)))
      have bz27_ : 0 ≤ z27_.toInt ∧ z27_.toInt ≤ 6 := by rw [ez27_]; exact (hI.2 34) _ (cl_lt (n := 12) o34 o35)
      refine lv_if_ne (tgt := 121) hx hb dX12_ofRow_108 rfl (fun c28_ => ?_) (fun c28_ => ?_)
      · have tc28_ := (show z27_.toInt ≠ 0 from ti_ne rfl rg_11 c28_)
        refine lv_iconst (v := 1) hx hb dX12_ofRow_121 rg_6 ?_
        refine lv_istore (lv' := [(10, .int 1), (0, .ref h), (1, .int st9), (2, .ref (ad 31)), (3, .int base), (4, .int ch9), (5, .int x), (6, .int bs), (7, .int al), (8, .int ha), (9, .int bv)]) hx hb dX12_ofRow_122 hl (Nat.le_of_ble_eq_true rfl) rfl (fun ls hl => ?_)
        have o36 : ¬ (0 ≤ ch9.toInt ∧ (σ.2.1 34 (Int32.toNatClampNeg ch9)).toInt = 0) := by omega
        exact pt_124  x bs al ha bv 1 _ _ _ hX hbs hbb hal hab hx5 hra hhs hhb hby hbv (far_n (T := cor σ) (show ¬ (0 ≤ ch9.toInt ∧ (σ.2.1 34 (Int32.toNatClampNeg ch9)).toInt = 0) from o36)) rg_482 hP hD hS (lv_sub hl [1, 2, 3, 4, 5, 6, 7, 8, 9, 10, 0] rfl)
      · have tc28_ := (show z27_.toInt = 0 from ti_eq rfl rg_11 c28_)
        refine lv_aload_n hx hb dX12_ofRow_111 rfl (lv_at hl 0 rfl) ?_
        refine va_get (D := (dC, dI)) (ci := 12) (v := .ref (ad 35)) (C := RX12) (T := TX12) (N := 59) hx hb hts hin12 hown hK hP 0 rfl rfl 35 (Nat.le_of_ble_eq_true rfl) (ho (.fieldLink RX12 88 "NearEnoughModel" "cN" "[I") (List.mem_of_getElem? (i := 4) rfl)) (fun _ h9 => h9) rfl dX12_ofRow_112 ?_
        refine lv_iload hx hb dX12_ofRow_115 (lv_at hl 4 rfl) ?_
        refine va_iald hx hb hK hP 25 24 rfl rfl (ti_inx o34 o35) dX12_ofRow_117 ?_
        refine lv_topi (fun z29_ ez29_ => ?_)
        have gz29_ : z29_.toInt = ((σ.2.1 35) (Int32.toNatClampNeg ch9)).toInt := congrArg Int32.toInt (ez29_.trans (congrFun rfl (Int32.toNatClampNeg ch9)))
        have bz29_ : 0 ≤ z29_.toInt ∧ z29_.toInt ≤ 99 := by rw [ez29_]; exact (hI.2 35) _ (cl_lt (n := 12) o34 o35)
        refine lv_goto (tgt := 122) hx hb dX12_ofRow_118 rfl ?_
        refine lv_istore (lv' := [(10, .int z29_), (0, .ref h), (1, .int st9), (2, .ref (ad 31)), (3, .int base), (4, .int ch9), (5, .int x), (6, .int bs), (7, .int al), (8, .int ha), (9, .int bv)]) hx hb dX12_ofRow_122 hl (Nat.le_of_ble_eq_true rfl) rfl (fun ls hl => ?_)
        have o37 : 0 ≤ ch9.toInt ∧ (σ.2.1 34 (Int32.toNatClampNeg ch9)).toInt = 0 := by omega
        have o38 : 1 ≤ z29_.toInt ∧ z29_.toInt ≤ 99 := by omega
        exact pt_124  x bs al ha bv z29_ _ _ _ hX hbs hbb hal hab hx5 hra hhs hhb hby hbv (far_y (T := cor σ) (show 0 ≤ ch9.toInt ∧ (σ.2.1 34 (Int32.toNatClampNeg ch9)).toInt = 0 from o37) ez29_) (show 1 ≤ z29_.toInt ∧ z29_.toInt ≤ 99 from o38) hP hD hS (lv_sub hl [1, 2, 3, 4, 5, 6, 7, 8, 9, 10, 0] rfl)
  have pt_67 : ∀ (x : Int32) (bs : Int32) (al : Int32) (ha : Int32) (H : Heap) (locs : List Loc) (ls : Array Slot), (x.toNatClampNeg = 12 * (σ.1 29).toNatClampNeg + st9.toNatClampNeg) → (bs = bsF (cor σ) true base ch9) → (0 ≤ bs.toInt ∧ bs.toInt ≤ 468) → (al = ofA (σ.1 29).toNatClampNeg (cor σ) st9.toNatClampNeg) → (1 ≤ al.toInt ∧ al.toInt ≤ 6) → (x.toInt = 12 * (σ.1 29).toInt + st9.toInt) → (0 ≤ (σ.2.1 18 (Int32.toNatClampNeg x)).toInt ∧ (σ.2.1 18 (Int32.toNatClampNeg x)).toInt ≤ 1) → (ha = hasF (cor σ) al ch9) → (1 ≤ ha.toInt ∧ ha.toInt ≤ 6) → va_P (dC, dI) vwCl (mW h ad cl σ) H → va_D A (mW h ad cl σ) → va_S A s.heap H locs → lv_has ls 18 [(0, .ref h), (1, .int st9), (2, .ref (ad 31)), (3, .int base), (4, .int ch9), (5, .int x), (6, .int bs), (7, .int al), (8, .int ha)] → W p l e (headSpec vs_n_ofRow_n rm_n_ofRow_n).room s m #[Value.ref h, Value.int st9, Value.ref (ad 31), Value.int base, Value.int ch9] below meth c H locs 0 0 Q (F0 m 67 ls []) := by
    intro x bs al ha H locs ls hX hbs hbb hal hab hx5 hra hhs hhb hP hD hS hl
    have bσ_29 : 0 ≤ (σ.1 29).toInt ∧ (σ.1 29).toInt ≤ 1 := hI.1 29
    refine lv_iload hx hb dX12_ofRow_67 (lv_at hl 4 rfl) ?_
    refine lv_if_lt (tgt := 93) hx hb dX12_ofRow_69 rfl (fun c30_ => ?_) (fun c30_ => ?_)
    · have tc30_ := (show ch9.toInt < 0 from ti_lt rfl rg_11 c30_)
      refine lv_iconst (v := 1) hx hb dX12_ofRow_93 rg_6 ?_
      refine lv_istore (lv' := [(9, .int 1), (0, .ref h), (1, .int st9), (2, .ref (ad 31)), (3, .int base), (4, .int ch9), (5, .int x), (6, .int bs), (7, .int al), (8, .int ha)]) hx hb dX12_ofRow_94 hl (Nat.le_of_ble_eq_true rfl) rfl (fun ls hl => ?_)
      have o39 : ¬ (0 ≤ ch9.toInt ∧ (σ.2.1 34 (Int32.toNatClampNeg ch9)).toInt = 3) := by omega
      exact pt_96  x bs al ha 1 _ _ _ hX hbs hbb hal hab hx5 hra hhs hhb (by_n (T := cor σ) (show ¬ (0 ≤ ch9.toInt ∧ (σ.2.1 34 (Int32.toNatClampNeg ch9)).toInt = 3) from o39)) rg_482 hP hD hS (lv_sub hl [1, 2, 3, 4, 5, 6, 7, 8, 9, 0] rfl)
    · have tc30_ := (show 0 ≤ ch9.toInt from ti_nlt rfl rg_11 c30_)
      refine lv_aload_n hx hb dX12_ofRow_72 rfl (lv_at hl 0 rfl) ?_
      refine va_get (D := (dC, dI)) (ci := 12) (v := .ref (ad 34)) (C := RX12) (T := TX12) (N := 59) hx hb hts hin12 hown hK hP 0 rfl rfl 34 (Nat.le_of_ble_eq_true rfl) (ho (.fieldLink RX12 85 "NearEnoughModel" "cKind" "[I") (List.mem_of_getElem? (i := 3) rfl)) (fun _ h9 => h9) rfl dX12_ofRow_73 ?_
      refine lv_iload hx hb dX12_ofRow_76 (lv_at hl 4 rfl) ?_
      have o40 : 0 ≤ ch9.toInt := by omega
      have o41 : ch9.toInt < ((12 : Nat) : Int) := by omega
      refine va_iald hx hb hK hP 24 23 rfl rfl (ti_inx o40 o41) dX12_ofRow_78 ?_
      refine lv_topi (fun z31_ ez31_ => ?_)
      have gz31_ : z31_.toInt = ((σ.2.1 34) (Int32.toNatClampNeg ch9)).toInt := congrArg Int32.toInt (ez31_.trans (congrFun rfl (Int32.toNatClampNeg ch9)))
      have bz31_ : 0 ≤ z31_.toInt ∧ z31_.toInt ≤ 6 := by rw [ez31_]; exact (hI.2 34) _ (cl_lt (n := 12) o40 o41)
      refine lv_iconst (v := 3) hx hb dX12_ofRow_79 rg_16 ?_
      refine lv_icmp_ne (tgt := 93) hx hb dX12_ofRow_80 rfl (fun c32_ => ?_) (fun c32_ => ?_)
      · have tc32_ := (show z31_.toInt ≠ 3 from ti_ne rfl rg_17 c32_)
        refine lv_iconst (v := 1) hx hb dX12_ofRow_93 rg_6 ?_
        refine lv_istore (lv' := [(9, .int 1), (0, .ref h), (1, .int st9), (2, .ref (ad 31)), (3, .int base), (4, .int ch9), (5, .int x), (6, .int bs), (7, .int al), (8, .int ha)]) hx hb dX12_ofRow_94 hl (Nat.le_of_ble_eq_true rfl) rfl (fun ls hl => ?_)
        have o42 : ¬ (0 ≤ ch9.toInt ∧ (σ.2.1 34 (Int32.toNatClampNeg ch9)).toInt = 3) := by omega
        exact pt_96  x bs al ha 1 _ _ _ hX hbs hbb hal hab hx5 hra hhs hhb (by_n (T := cor σ) (show ¬ (0 ≤ ch9.toInt ∧ (σ.2.1 34 (Int32.toNatClampNeg ch9)).toInt = 3) from o42)) rg_482 hP hD hS (lv_sub hl [1, 2, 3, 4, 5, 6, 7, 8, 9, 0] rfl)
      · have tc32_ := (show z31_.toInt = 3 from ti_eq rfl rg_17 c32_)
        refine lv_aload_n hx hb dX12_ofRow_83 rfl (lv_at hl 0 rfl) ?_
        refine va_get (D := (dC, dI)) (ci := 12) (v := .ref (ad 35)) (C := RX12) (T := TX12) (N := 59) hx hb hts hin12 hown hK hP 0 rfl rfl 35 (Nat.le_of_ble_eq_true rfl) (ho (.fieldLink RX12 88 "NearEnoughModel" "cN" "[I") (List.mem_of_getElem? (i := 4) rfl)) (fun _ h9 => h9) rfl dX12_ofRow_84 ?_
        refine lv_iload hx hb dX12_ofRow_87 (lv_at hl 4 rfl) ?_
        refine va_iald hx hb hK hP 25 24 rfl rfl (ti_inx o40 o41) dX12_ofRow_89 ?_
        refine lv_topi (fun z33_ ez33_ => ?_)
        have gz33_ : z33_.toInt = ((σ.2.1 35) (Int32.toNatClampNeg ch9)).toInt := congrArg Int32.toInt (ez33_.trans (congrFun rfl (Int32.toNatClampNeg ch9)))
        have bz33_ : 0 ≤ z33_.toInt ∧ z33_.toInt ≤ 99 := by rw [ez33_]; exact (hI.2 35) _ (cl_lt (n := 12) o40 o41)
        refine lv_goto (tgt := 94) hx hb dX12_ofRow_90 rfl ?_
        refine lv_istore (lv' := [(9, .int z33_), (0, .ref h), (1, .int st9), (2, .ref (ad 31)), (3, .int base), (4, .int ch9), (5, .int x), (6, .int bs), (7, .int al), (8, .int ha)]) hx hb dX12_ofRow_94 hl (Nat.le_of_ble_eq_true rfl) rfl (fun ls hl => ?_)
        have o43 : 0 ≤ ch9.toInt ∧ (σ.2.1 34 (Int32.toNatClampNeg ch9)).toInt = 3 := by omega
        have o44 : 1 ≤ z33_.toInt ∧ z33_.toInt ≤ 99 := by omega
        exact pt_96  x bs al ha z33_ _ _ _ hX hbs hbb hal hab hx5 hra hhs hhb (by_y (T := cor σ) (show 0 ≤ ch9.toInt ∧ (σ.2.1 34 (Int32.toNatClampNeg ch9)).toInt = 3 from o43) ez33_) (show 1 ≤ z33_.toInt ∧ z33_.toInt ≤ 99 from o44) hP hD hS (lv_sub hl [1, 2, 3, 4, 5, 6, 7, 8, 9, 0] rfl)
  refine zH (A := A) (ws := mW h ad cl σ) (fun H hP hS => ?_) hP
  have bσ_29 : 0 ≤ (σ.1 29).toInt ∧ (σ.1 29).toInt ≤ 1 := hI.1 29
  refine lv_aload_n hx hb dX12_ofRow_0 rfl (lv_at hl 0 rfl) ?_
  refine lv_iload_n hx hb dX12_ofRow_1 rfl (lv_at hl 1 rfl) ?_
  have o45 : 0 ≤ st9.toInt := by omega
  have o46 : st9.toInt ≤ 11 := by omega
  refine zy_i (va_runV (As := [.int st9]) (rest := []) ⟨hx, hb, hml, hown, hts⟩ (n_at0 l dC dI h ad cl H.size σ st9 hI ⟨o45, o46⟩) (cwV 1 hts gd_n_ofRow_n_331_n_at0 rfl rfl rfl dd_n_at0 ⟨Nat.le_of_ble_eq_true rfl, Nat.le_of_ble_eq_true rfl⟩) (preV hP hK hD hE (ci := 12) (q0 := 0) rfl rfl) rfl rfl hl.1 rfl (lv_room (Nat.le_of_ble_eq_true rfl)) dX12_ofRow_2 ⟨Nat.le_of_ble_eq_true rfl, Nat.le_of_ble_eq_true rfl⟩) hD hS hA (fun z35_ τ34_ H locs hq hP hD hS => ?_)
  obtain ⟨rfl, f36_⟩ := hq
  refine W.widen (k := 0) (n := 0) (Nat.le_of_ble_eq_true rfl) (Nat.le_of_ble_eq_true rfl) ?_
  have o47 : z35_.toInt = 12 * (σ.1 29).toInt + st9.toInt := by omega
  have Xz35_ : z35_.toNatClampNeg = 12 * (σ.1 29).toNatClampNeg + st9.toNatClampNeg := at0x (hI.1 29).1 o45 o47
  have hra : 0 ≤ (σ.2.1 18 (Int32.toNatClampNeg z35_)).toInt ∧ (σ.2.1 18 (Int32.toNatClampNeg z35_)).toInt ≤ 1 := by rw [Xz35_]; exact ⟨hrw.1, hrw.2.1⟩
  refine lv_istore (lv' := [(5, .int z35_), (0, .ref h), (1, .int st9), (2, .ref (ad 31)), (3, .int base), (4, .int ch9)]) hx hb dX12_ofRow_5 hl (Nat.le_of_ble_eq_true rfl) rfl (fun ls hl => ?_)
  refine lv_aload_n hx hb dX12_ofRow_7 rfl (lv_at hl 1 rfl) ?_
  refine lv_aload_n hx hb dX12_ofRow_8 rfl (lv_at hl 3 rfl) ?_
  refine lv_iload_n hx hb dX12_ofRow_9 rfl (lv_at hl 4 rfl) ?_
  refine lv_iload hx hb dX12_ofRow_10 (lv_at hl 5 rfl) ?_
  have o48 : 0 ≤ base.toInt := by omega
  have o49 : base.toInt ≤ 468 := by omega
  have o50 : -1 ≤ ch9.toInt := by omega
  have o51 : ch9.toInt ≤ 11 := by omega
  have o52 : base.toInt = 0 ∨ 12 ≤ base.toInt := by omega
  refine zy_i (va_runV (As := [.ref (ad 31), .int base, .int ch9]) (rest := []) ⟨hx, hb, hml, hown, hts⟩ (n_baseOf_n l dC dI h ad cl H.size σ base ch9 hI ⟨o48, o49⟩ (show base.toInt = 0 ∨ 12 ≤ base.toInt from o52) ⟨o50, o51⟩) (cwV 3 hts gd_n_ofRow_n_344_n_baseOf_n rfl rfl rfl dd_n_baseOf_n ⟨Nat.le_of_ble_eq_true rfl, Nat.le_of_ble_eq_true rfl⟩) (preV hP hK hD hE (ci := 12) (q0 := 0) rfl rfl) rfl rfl hl.1 rfl (lv_room (Nat.le_of_ble_eq_true rfl)) dX12_ofRow_12 ⟨Nat.le_of_ble_eq_true rfl, Nat.le_of_ble_eq_true rfl⟩) hD hS hA (fun z38_ τ37_ H locs hq hP hD hS => ?_)
  obtain ⟨rfl, f39_, f40_, f41_⟩ := hq
  refine W.widen (k := 0) (n := 0) (Nat.le_of_ble_eq_true rfl) (Nat.le_of_ble_eq_true rfl) ?_
  refine lv_istore (lv' := [(6, .int z38_), (5, .int z35_), (0, .ref h), (1, .int st9), (2, .ref (ad 31)), (3, .int base), (4, .int ch9)]) hx hb dX12_ofRow_15 hl (Nat.le_of_ble_eq_true rfl) rfl (fun ls hl => ?_)
  refine lv_aload_n hx hb dX12_ofRow_17 rfl (lv_at hl 2 rfl) ?_
  refine va_get (D := (dC, dI)) (ci := 12) (v := .ref (ad 14)) (C := RX12) (T := TX12) (N := 59) hx hb hts hin12 hown hK hP 0 rfl rfl 14 (Nat.le_of_ble_eq_true rfl) (ho (.fieldLink RX12 30 "NearEnoughModel" "rHas" "[I") (List.mem_of_getElem? (i := 5) rfl)) (fun _ h9 => h9) rfl dX12_ofRow_18 ?_
  refine lv_iconst (v := 2) hx hb dX12_ofRow_21 rg_19 ?_
  refine lv_aload_n hx hb dX12_ofRow_22 rfl (lv_at hl 2 rfl) ?_
  refine va_get (D := (dC, dI)) (ci := 12) (v := .int (σ.1 29)) (C := RX12) (T := TX12) (N := 59) hx hb hts hin12 hown hK hP 0 rfl rfl 29 (Nat.le_of_ble_eq_true rfl) (ho (.fieldLink RX12 240 "NearEnoughModel" "bank" "I") (List.mem_of_getElem? (i := 6) rfl)) (fun _ h9 => h9) rfl dX12_ofRow_23 ?_
  have bσ_29 : 0 ≤ (σ.1 29).toInt ∧ (σ.1 29).toInt ≤ 1 := hI.1 29
  refine lv_imul hx hb dX12_ofRow_26 ?_
  refine lv_topi (fun z42_ ez42_ => ?_)
  have o53 : -2147483648 ≤ 2 * (σ.1 29).toInt := by omega
  have o54 : 2 * (σ.1 29).toInt ≤ 2147483647 := by omega
  have tz42_ : z42_.toInt = 2 * (σ.1 29).toInt := ti_mul ez42_ rg_20 rfl o53 o54
  refine lv_aload_n hx hb dX12_ofRow_27 rfl (lv_at hl 2 rfl) ?_
  refine va_get (D := (dC, dI)) (ci := 12) (v := .ref (ad 18)) (C := RX12) (T := TX12) (N := 59) hx hb hts hin12 hown hK hP 0 rfl rfl 18 (Nat.le_of_ble_eq_true rfl) (ho (.fieldLink RX12 42 "NearEnoughModel" "sA" "[I") (List.mem_of_getElem? (i := 1) rfl)) (fun _ h9 => h9) rfl dX12_ofRow_28 ?_
  refine lv_iload hx hb dX12_ofRow_31 (lv_at hl 1 rfl) ?_
  have o55 : 0 ≤ z35_.toInt := by omega
  have o56 : z35_.toInt < ((24 : Nat) : Int) := by omega
  refine va_iald hx hb hK hP 10 9 rfl rfl (ti_inx o55 o56) dX12_ofRow_33 ?_
  refine lv_topi (fun z43_ ez43_ => ?_)
  have gz43_ : z43_.toInt = ((σ.2.1 18) (Int32.toNatClampNeg z35_)).toInt := congrArg Int32.toInt (ez43_.trans (congrFun rfl (Int32.toNatClampNeg z35_)))
  have bz43_ : (-1) ≤ z43_.toInt ∧ z43_.toInt ≤ 11 := by rw [ez43_]; exact (hI.2 18) _ (cl_lt (n := 24) o55 o56)
  refine lv_iadd hx hb dX12_ofRow_34 ?_
  refine lv_topi (fun z44_ ez44_ => ?_)
  have o57 : -2147483648 ≤ z42_.toInt + z43_.toInt := by omega
  have o58 : z42_.toInt + z43_.toInt ≤ 2147483647 := by omega
  have tz44_ : z44_.toInt = z42_.toInt + z43_.toInt := ti_add ez44_ rfl rfl o57 o58
  have o59 : 0 ≤ z44_.toInt := by omega
  have o60 : z44_.toInt < ((4 : Nat) : Int) := by omega
  refine va_iald hx hb hK hP 6 5 rfl rfl (ti_inx o59 o60) dX12_ofRow_35 ?_
  refine lv_topi (fun z45_ ez45_ => ?_)
  have gz45_ : z45_.toInt = ((σ.2.1 14) (Int32.toNatClampNeg z44_)).toInt := congrArg Int32.toInt (ez45_.trans (congrFun rfl (Int32.toNatClampNeg z44_)))
  have bz45_ : 0 ≤ z45_.toInt ∧ z45_.toInt ≤ 6 := by rw [ez45_]; exact (hI.2 14) _ (cl_lt (n := 4) o59 o60)
  refine lv_istore (lv' := [(7, .int z45_), (6, .int z38_), (5, .int z35_), (0, .ref h), (1, .int st9), (2, .ref (ad 31)), (3, .int base), (4, .int ch9)]) hx hb dX12_ofRow_36 hl (Nat.le_of_ble_eq_true rfl) rfl (fun ls hl => ?_)
  refine lv_aload_n hx hb dX12_ofRow_38 rfl (lv_at hl 3 rfl) ?_
  refine lv_iload hx hb dX12_ofRow_39 (lv_at hl 7 rfl) ?_
  refine lv_iconst (v := 5) hx hb dX12_ofRow_41 rg_14 ?_
  have kk46_ : (5 : Int32).toInt = 5 := rg_15
  refine zy_i (va_runV (As := [.int ch9, .int 5]) (rest := []) ⟨hx, hb, hml, hown, hts⟩ (n_isOn l dC dI h ad cl H.size σ ch9 5 hI ⟨o50, o51⟩) (cwV 2 hts gd_n_ofRow_n_340_n_isOn rfl rfl rfl dd_n_isOn ⟨Nat.le_of_ble_eq_true rfl, Nat.le_of_ble_eq_true rfl⟩) (preV hP hK hD hE (ci := 12) (q0 := 0) rfl rfl) rfl rfl hl.1 rfl (lv_room (Nat.le_of_ble_eq_true rfl)) dX12_ofRow_42 ⟨Nat.le_of_ble_eq_true rfl, Nat.le_of_ble_eq_true rfl⟩) hD hS hA (fun z48_ τ47_ H locs hq hP hD hS => ?_)
  obtain ⟨rfl, f49_⟩ := hq
  refine W.widen (k := 0) (n := 0) (Nat.le_of_ble_eq_true rfl) (Nat.le_of_ble_eq_true rfl) ?_
  refine lv_if_eq (tgt := 63) hx hb dX12_ofRow_45 rfl (fun c50_ => ?_) (fun c50_ => ?_)
  · have tc50_ := (show z48_.toInt = 0 from ti_eq rfl rg_11 c50_)
    refine lv_iload hx hb dX12_ofRow_63 (lv_at hl 0 rfl) ?_
    refine lv_istore (lv' := [(8, .int z45_), (7, .int z45_), (6, .int z38_), (5, .int z35_), (0, .ref h), (1, .int st9), (2, .ref (ad 31)), (3, .int base), (4, .int ch9)]) hx hb dX12_ofRow_65 hl (Nat.le_of_ble_eq_true rfl) rfl (fun ls hl => ?_)
    have o61 : 0 ≤ z43_.toInt := by omega
    have o62 : z44_.toInt = 2 * (σ.1 29).toInt + z43_.toInt := by omega
    have QN51_ : z44_.toNatClampNeg = 2 * (σ.1 29).toNatClampNeg + (σ.2.1 18 (12 * (σ.1 29).toNatClampNeg + st9.toNatClampNeg)).toNatClampNeg := by rw [← Xz35_, ← ez43_]; exact row_x (hI.1 29).1 o61 o62
    have N51_ : z45_ = ofA (σ.1 29).toNatClampNeg (cor σ) st9.toNatClampNeg := by rw [ez45_, QN51_]; rfl
    have BN51_ : 1 ≤ z45_.toInt := by rw [N51_]; exact hrw.2.2
    have o63 : 0 ≤ z38_.toInt ∧ z38_.toInt ≤ 468 := by omega
    have o64 : 1 ≤ z45_.toInt ∧ z45_.toInt ≤ 6 := by omega
    have o65 : ¬ (0 ≤ ch9.toInt ∧ (σ.2.1 34 (Int32.toNatClampNeg ch9)).toInt = 5) := by omega
    exact pt_67  z35_ z38_ z45_ z45_ _ _ _ Xz35_ f39_ (show 0 ≤ z38_.toInt ∧ z38_.toInt ≤ 468 from o63) N51_ (show 1 ≤ z45_.toInt ∧ z45_.toInt ≤ 6 from o64) o47 hra (has_n (T := cor σ) (show ¬ (0 ≤ ch9.toInt ∧ (σ.2.1 34 (Int32.toNatClampNeg ch9)).toInt = 5) from o65)) (show 1 ≤ z45_.toInt ∧ z45_.toInt ≤ 6 from o64) hP hD hS (lv_sub hl [4, 5, 6, 7, 8, 3, 2, 1, 0] rfl)
  · have tc50_ := (show z48_.toInt ≠ 0 from ti_ne rfl rg_11 c50_)
    refine lv_iload hx hb dX12_ofRow_48 (lv_at hl 0 rfl) ?_
    refine lv_aload_n hx hb dX12_ofRow_50 rfl (lv_at hl 3 rfl) ?_
    refine va_get (D := (dC, dI)) (ci := 12) (v := .ref (ad 35)) (C := RX12) (T := TX12) (N := 59) hx hb hts hin12 hown hK hP 0 rfl rfl 35 (Nat.le_of_ble_eq_true rfl) (ho (.fieldLink RX12 88 "NearEnoughModel" "cN" "[I") (List.mem_of_getElem? (i := 4) rfl)) (fun _ h9 => h9) rfl dX12_ofRow_51 ?_
    refine lv_iload hx hb dX12_ofRow_54 (lv_at hl 7 rfl) ?_
    have o66 : 0 ≤ ch9.toInt := by omega
    have o67 : ch9.toInt < ((12 : Nat) : Int) := by omega
    refine va_iald hx hb hK hP 25 24 rfl rfl (ti_inx o66 o67) dX12_ofRow_56 ?_
    refine lv_topi (fun z52_ ez52_ => ?_)
    have gz52_ : z52_.toInt = ((σ.2.1 35) (Int32.toNatClampNeg ch9)).toInt := congrArg Int32.toInt (ez52_.trans (congrFun rfl (Int32.toNatClampNeg ch9)))
    have bz52_ : 0 ≤ z52_.toInt ∧ z52_.toInt ≤ 99 := by rw [ez52_]; exact (hI.2 35) _ (cl_lt (n := 12) o66 o67)
    refine zs_i (va_runS (As := [.int z45_, .int z52_]) (rest := []) ⟨hx, hb, hml, hown, hts⟩ (n_least2 l dC dI z45_ z52_  H.size) (va_cwS 2 hts gd_n_ofRow_n_348_n_least2 rfl rfl rfl dd_n_least2 ⟨Nat.le_of_ble_eq_true rfl, Nat.le_of_ble_eq_true rfl⟩) (preS (A := A) empP (hK.sub (tys' := []) [] rfl) empD hE) rfl rfl hl.1 rfl (lv_room (Nat.le_of_ble_eq_true rfl)) dX12_ofRow_57 ⟨Nat.le_of_ble_eq_true rfl, Nat.le_of_ble_eq_true rfl⟩) hP hD hS hA (fun z53_ H locs hq hP hD hS => ?_)
    obtain ⟨f54_, f55_, f56_⟩ := hq
    refine W.widen (k := 0) (n := 0) (Nat.le_of_ble_eq_true rfl) (Nat.le_of_ble_eq_true rfl) ?_
    refine lv_goto (tgt := 65) hx hb dX12_ofRow_60 rfl ?_
    refine lv_istore (lv' := [(8, .int z53_), (7, .int z45_), (6, .int z38_), (5, .int z35_), (0, .ref h), (1, .int st9), (2, .ref (ad 31)), (3, .int base), (4, .int ch9)]) hx hb dX12_ofRow_65 hl (Nat.le_of_ble_eq_true rfl) rfl (fun ls hl => ?_)
    have o68 : 0 ≤ z43_.toInt := by omega
    have o69 : z44_.toInt = 2 * (σ.1 29).toInt + z43_.toInt := by omega
    have QN57_ : z44_.toNatClampNeg = 2 * (σ.1 29).toNatClampNeg + (σ.2.1 18 (12 * (σ.1 29).toNatClampNeg + st9.toNatClampNeg)).toNatClampNeg := by rw [← Xz35_, ← ez43_]; exact row_x (hI.1 29).1 o68 o69
    have N57_ : z45_ = ofA (σ.1 29).toNatClampNeg (cor σ) st9.toNatClampNeg := by rw [ez45_, QN57_]; rfl
    have BN57_ : 1 ≤ z45_.toInt := by rw [N57_]; exact hrw.2.2
    have o70 : z53_.toInt ≤ z45_.toInt := by omega
    have o71 : z53_.toInt ≤ (σ.2.1 35 (Int32.toNatClampNeg ch9)).toInt := by omega
    have o72 : 0 ≤ z38_.toInt ∧ z38_.toInt ≤ 468 := by omega
    have o73 : 1 ≤ z45_.toInt ∧ z45_.toInt ≤ 6 := by omega
    have o74 : 0 ≤ ch9.toInt ∧ (σ.2.1 34 (Int32.toNatClampNeg ch9)).toInt = 5 := by omega
    have o75 : z53_.toInt = z45_.toInt ∨ z53_.toInt = (σ.2.1 35 (Int32.toNatClampNeg ch9)).toInt := by omega
    have o76 : 1 ≤ z53_.toInt ∧ z53_.toInt ≤ 6 := by omega
    exact pt_67  z35_ z38_ z45_ z53_ _ _ _ Xz35_ f39_ (show 0 ≤ z38_.toInt ∧ z38_.toInt ≤ 468 from o72) N57_ (show 1 ≤ z45_.toInt ∧ z45_.toInt ≤ 6 from o73) o47 hra (has_y (T := cor σ) (show 0 ≤ ch9.toInt ∧ (σ.2.1 34 (Int32.toNatClampNeg ch9)).toInt = 5 from o74) (show z53_.toInt = z45_.toInt ∨ z53_.toInt = (σ.2.1 35 (Int32.toNatClampNeg ch9)).toInt from o75) o70 o71) (show 1 ≤ z53_.toInt ∧ z53_.toInt ≤ 6 from o76) hP hD hS (lv_sub hl [4, 5, 6, 7, 8, 3, 2, 1, 0] rfl)
def ow_n_ofRow_c : List Cond := [.fieldLink RX12 39 "NearEnoughModel" "sKind" "[I", .fieldLink RX12 42 "NearEnoughModel" "sA" "[I", .constantLong RX12 351 (-1000000), .fieldLink RX12 85 "NearEnoughModel" "cKind" "[I", .fieldLink RX12 88 "NearEnoughModel" "cN" "[I", .fieldLink RX12 30 "NearEnoughModel" "rHas" "[I", .fieldLink RX12 240 "NearEnoughModel" "bank" "I"]
def vs_n_ofRow_c : List Cond := .code yX12_ofRow cX12_ofRow 18 (some .long) :: (ow_n_ofRow_c ++ (([.methodLink RX12 353 yX12_numberAt, .instanceMethod yX12_numberAt, .selects RX12 yX12_numberAt yX12_numberAt, .initialized RX12] : List Cond) ++ (vs_n_numberAt_c ++ (([.methodLink RX12 357 yX12_coarse, .static yX12_coarse, .initialized yX12_coarse.cls] : List Cond) ++ (vs_n_coarse ++ (([.methodLink RX12 318 yX12_greater, .static yX12_greater, .initialized yX12_greater.cls] : List Cond) ++ (vs_n_greaterV ++ (([.methodLink RX12 331 yX12_at0, .instanceMethod yX12_at0, .selects RX12 yX12_at0 yX12_at0, .initialized RX12] : List Cond) ++ (vs_n_at0 ++ (([.methodLink RX12 344 yX12_baseOf, .instanceMethod yX12_baseOf, .selects RX12 yX12_baseOf yX12_baseOf, .initialized RX12] : List Cond) ++ (vs_n_baseOf_c ++ (([.methodLink RX12 340 yX12_isOn, .instanceMethod yX12_isOn, .selects RX12 yX12_isOn yX12_isOn, .initialized RX12] : List Cond) ++ (vs_n_isOn ++ (([.methodLink RX12 348 yX12_least2, .static yX12_least2, .initialized yX12_least2.cls] : List Cond) ++ (vs_n_least2 ++ (wsX120))))))))))))))))
theorem vg_n_ofRow_c : vs_n_ofRow_c.all goodWord = true := by decide +kernel
theorem dd_n_ofRow_c : yX12_ofRow.cls = RX12 ∧ yX12_ofRow.cls ≠ "java/lang/invoke/MethodHandle" ∧ yX12_ofRow.cls ≠ "java/lang/invoke/VarHandle" ∧ (parseMethodDescriptor yX12_ofRow.desc).map (fun d => d.parameters.length) = some 4 := by decide +kernel
def rm_n_ofRow_c : Room := { frames := 2, cells := 0, slots := 0, locals := 46 }
theorem gd_n_ofRow_c_353_n_numberAt_c : GoodIn vs_n_ofRow_c (wsV RX12 353 RX12 yX12_numberAt vs_n_numberAt_c) := goodIn_app (goodIn_sub (fun w h => (List.mem_cons_of_mem _ (List.mem_append_right _ (List.mem_append_left _ h)))) (by decide +kernel)) (goodIn_sub (fun w h => (List.mem_cons_of_mem _ (List.mem_append_right _ (List.mem_append_right _ (List.mem_append_left _ h))))) vg_n_numberAt_c)
theorem gd_n_ofRow_c_357_n_coarse : GoodIn vs_n_ofRow_c (va_wsS RX12 357 yX12_coarse vs_n_coarse) := goodIn_app (goodIn_sub (fun w h => (List.mem_cons_of_mem _ (List.mem_append_right _ (List.mem_append_right _ (List.mem_append_right _ (List.mem_append_left _ h)))))) (by decide +kernel)) (goodIn_sub (fun w h => (List.mem_cons_of_mem _ (List.mem_append_right _ (List.mem_append_right _ (List.mem_append_right _ (List.mem_append_right _ (List.mem_append_left _ h))))))) vg_n_coarse)
theorem gd_n_ofRow_c_318_n_greaterV : GoodIn vs_n_ofRow_c (va_wsS RX12 318 yX12_greater vs_n_greaterV) := goodIn_app (goodIn_sub (fun w h => (List.mem_cons_of_mem _ (List.mem_append_right _ (List.mem_append_right _ (List.mem_append_right _ (List.mem_append_right _ (List.mem_append_right _ (List.mem_append_left _ h)))))))) (by decide +kernel)) (goodIn_sub (fun w h => (List.mem_cons_of_mem _ (List.mem_append_right _ (List.mem_append_right _ (List.mem_append_right _ (List.mem_append_right _ (List.mem_append_right _ (List.mem_append_right _ (List.mem_append_left _ h))))))))) vg_n_greaterV)
theorem gd_n_ofRow_c_331_n_at0 : GoodIn vs_n_ofRow_c (wsV RX12 331 RX12 yX12_at0 vs_n_at0) := goodIn_app (goodIn_sub (fun w h => (List.mem_cons_of_mem _ (List.mem_append_right _ (List.mem_append_right _ (List.mem_append_right _ (List.mem_append_right _ (List.mem_append_right _ (List.mem_append_right _ (List.mem_append_right _ (List.mem_append_left _ h)))))))))) (by decide +kernel)) (goodIn_sub (fun w h => (List.mem_cons_of_mem _ (List.mem_append_right _ (List.mem_append_right _ (List.mem_append_right _ (List.mem_append_right _ (List.mem_append_right _ (List.mem_append_right _ (List.mem_append_right _ (List.mem_append_right _ (List.mem_append_left _ h))))))))))) vg_n_at0)
theorem gd_n_ofRow_c_344_n_baseOf_c : GoodIn vs_n_ofRow_c (wsV RX12 344 RX12 yX12_baseOf vs_n_baseOf_c) := goodIn_app (goodIn_sub (fun w h => (List.mem_cons_of_mem _ (List.mem_append_right _ (List.mem_append_right _ (List.mem_append_right _ (List.mem_append_right _ (List.mem_append_right _ (List.mem_append_right _ (List.mem_append_right _ (List.mem_append_right _ (List.mem_append_right _ (List.mem_append_left _ h)))))))))))) (by decide +kernel)) (goodIn_sub (fun w h => (List.mem_cons_of_mem _ (List.mem_append_right _ (List.mem_append_right _ (List.mem_append_right _ (List.mem_append_right _ (List.mem_append_right _ (List.mem_append_right _ (List.mem_append_right _ (List.mem_append_right _ (List.mem_append_right _ (List.mem_append_right _ (List.mem_append_left _ h))))))))))))) vg_n_baseOf_c)
theorem gd_n_ofRow_c_340_n_isOn : GoodIn vs_n_ofRow_c (wsV RX12 340 RX12 yX12_isOn vs_n_isOn) := goodIn_app (goodIn_sub (fun w h => (List.mem_cons_of_mem _ (List.mem_append_right _ (List.mem_append_right _ (List.mem_append_right _ (List.mem_append_right _ (List.mem_append_right _ (List.mem_append_right _ (List.mem_append_right _ (List.mem_append_right _ (List.mem_append_right _ (List.mem_append_right _ (List.mem_append_right _ (List.mem_append_left _ h)))))))))))))) (by decide +kernel)) (goodIn_sub (fun w h => (List.mem_cons_of_mem _ (List.mem_append_right _ (List.mem_append_right _ (List.mem_append_right _ (List.mem_append_right _ (List.mem_append_right _ (List.mem_append_right _ (List.mem_append_right _ (List.mem_append_right _ (List.mem_append_right _ (List.mem_append_right _ (List.mem_append_right _ (List.mem_append_right _ (List.mem_append_left _ h))))))))))))))) vg_n_isOn)
theorem gd_n_ofRow_c_348_n_least2 : GoodIn vs_n_ofRow_c (va_wsS RX12 348 yX12_least2 vs_n_least2) := goodIn_app (goodIn_sub (fun w h => (List.mem_cons_of_mem _ (List.mem_append_right _ (List.mem_append_right _ (List.mem_append_right _ (List.mem_append_right _ (List.mem_append_right _ (List.mem_append_right _ (List.mem_append_right _ (List.mem_append_right _ (List.mem_append_right _ (List.mem_append_right _ (List.mem_append_right _ (List.mem_append_right _ (List.mem_append_right _ (List.mem_append_left _ h)))))))))))))))) (by decide +kernel)) (goodIn_sub (fun w h => (List.mem_cons_of_mem _ (List.mem_append_right _ (List.mem_append_right _ (List.mem_append_right _ (List.mem_append_right _ (List.mem_append_right _ (List.mem_append_right _ (List.mem_append_right _ (List.mem_append_right _ (List.mem_append_right _ (List.mem_append_right _ (List.mem_append_right _ (List.mem_append_right _ (List.mem_append_right _ (List.mem_append_right _ (List.mem_append_left _ h))))))))))))))))) vg_n_least2)
set_option maxHeartbeats 4000000 in
set_option maxRecDepth 100000 in
theorem n_ofRow_c (l : Launch) (dC : Nat → ClassId) (dI : Nat → Nat → Nat) (h : Nat) (ad : Nat → Nat) (cl : Nat → ClassId) (sz : Nat) (σ : MS) (st9 : Int32) (base : Int32) (ch9 : Int32) (hI : Inv σ) (hs : 0 ≤ st9.toInt ∧ st9.toInt ≤ 11) (hba : 0 ≤ base.toInt ∧ base.toInt ≤ 0) (hbm : base.toInt = 0 ∨ 12 ≤ base.toInt) (hch : ChOk σ ch9) (hrw : RwOk σ st9) : Met l yX12_ofRow vs_n_ofRow_c rm_n_ofRow_c (va_Pc [.ref h, .int st9, .ref (ad 32), .int base, .int ch9] (wSt dC dI (mW h ad cl σ) (mT cl) sz)) (va_Ql (fun (r : Int64) (τ : MS) => σ = τ ∧ r = ofF (σ.1 29).toNatClampNeg (cor σ) false (σ.2.1 32) st9.toNatClampNeg base ch9) (fun (τ : MS) => wEn dC dI (va_A (mW h ad cl σ) sz) (mW h ad cl τ) []) (va_A (mW h ad cl σ) sz)) 0 0 (va_A (mW h ad cl σ) sz) := by
  refine Met.ofW (cc := cX12_ofRow) (maxL := 18) (ret := (some .long)) (by decide) rfl ?_
  intro p e s m args below meth c s₁ B hml hv
  obtain ⟨rfl, hsz, hP, hK, hD0, hE⟩ := hv
  have hx := B.exec
  have hb := B.bytes
  have hr := B.returns
  have hts := atoms_spec (ws := vs_n_ofRow_c) B.pre
  have hown : s.vm.findClass RX12 = some m.cls := findClass_of_methodNamed B.named
  have hlocks := B.notSynchronized
  subst hsz
  have hD := hD0.self (sz := s.heap.size)
  generalize hAe : va_A (mW h ad cl σ) s.heap.size = A at hD ⊢
  have hA : ∀ q : Nat, s.heap.size ≤ q → A q := fun q h => by rw [← hAe]; exact Or.inr h
  have hl := lv_entry ([.ref h, .int st9, .ref (ad 32), .int base, .int ch9]) (n := 18) (Nat.le_of_ble_eq_true rfl)
  rw [lg_entry_eq]
  generalize (lg_sl ([.ref h, .int st9, .ref (ad 32), .int base, .int ch9]) ++ List.replicate (18 - (lg_sl ([.ref h, .int st9, .ref (ad 32), .int base, .int ch9])).length) Slot.unset).toArray = ls at hl ⊢
  have hl : lv_has ls 18 [(0, .ref h), (1, .int st9), (2, .ref (ad 32)), (3, .int base), (4, .int ch9)] := hl
  have ho := fun w (h : w ∈ ow_n_ofRow_c) => hts w (List.mem_cons_of_mem _ (List.mem_append_left _ h))
  have hin12 : ∀ w ∈ u_ws RX12 TX12 59, w ∈ vs_n_ofRow_c := fun w h => (List.mem_cons_of_mem _ (List.mem_append_right _ (List.mem_append_right _ (List.mem_append_right _ (List.mem_append_right _ (List.mem_append_right _ (List.mem_append_right _ (List.mem_append_right _ (List.mem_append_right _ (List.mem_append_right _ (List.mem_append_right _ (List.mem_append_right _ (List.mem_append_right _ (List.mem_append_right _ (List.mem_append_right _ (List.mem_append_right _ h))))))))))))))))
  refine zQ (fun Q hQ => ?_)
  have hch0 : ChOk σ ch9 := hch
  unfold ChOk at hch
  have pt_138 : ∀ (n138 : Nat) (x : Int32) (bs : Int32) (al : Int32) (ha : Int32) (bv : Int32) (fa : Int32) (sm : Int64) (mo : Int64) (tk : Int32) (kv : Int32) (cn : Nat) (H : Heap) (locs : List Loc) (ls : Array Slot), (6 - kv.toInt).toNat < n138 → (x.toNatClampNeg = 12 * (σ.1 29).toNatClampNeg + st9.toNatClampNeg) → (bs = bsF (cor σ) false base ch9) → (0 ≤ bs.toInt ∧ bs.toInt ≤ 0) → (al = ofA (σ.1 29).toNatClampNeg (cor σ) st9.toNatClampNeg) → (1 ≤ al.toInt ∧ al.toInt ≤ 6) → (x.toInt = 12 * (σ.1 29).toInt + st9.toInt) → (0 ≤ (σ.2.1 18 (Int32.toNatClampNeg x)).toInt ∧ (σ.2.1 18 (Int32.toNatClampNeg x)).toInt ≤ 1) → (ha = hasF (cor σ) al ch9) → (1 ≤ ha.toInt ∧ ha.toInt ≤ 6) → (bv = byF (cor σ) ch9) → (1 ≤ bv.toInt ∧ bv.toInt ≤ 99) → (fa = farF (cor σ) ch9) → (1 ≤ fa.toInt ∧ fa.toInt ≤ 99) → ((kv, sm, mo, tk) = itN (stp (rowF (σ.2.1 32) bs (σ.2.1 18 (12 * (σ.1 29).toNatClampNeg + st9.toNatClampNeg)) bv) ha fa) cn (0, 0, -1000000, 0)) → ((cn : Int) ≤ kv.toInt) → (tk.toInt = (cn : Int)) → (cn = 0 → kv.toInt = 0) → (cn ≤ 6) → va_P (dC, dI) vwCl (mW h ad cl σ) H → va_D A (mW h ad cl σ) → va_S A s.heap H locs → lv_has ls 18 [(0, .ref h), (1, .int st9), (2, .ref (ad 32)), (3, .int base), (4, .int ch9), (5, .int x), (6, .int bs), (7, .int al), (8, .int ha), (9, .int bv), (10, .int fa), (11, .long sm), (13, .long mo), (15, .int tk), (16, .int kv)] → W p l e (headSpec vs_n_ofRow_c rm_n_ofRow_c).room s m #[Value.ref h, Value.int st9, Value.ref (ad 32), Value.int base, Value.int ch9] below meth c H locs 0 0 Q (F0 m 138 ls []) := by
    intro n138
    induction n138 with
    | zero => intro x bs al ha bv fa sm mo tk kv cn H locs ls hn138 hX hbs hbb hal hab hx5 hra hhs hhb hby hbv hfa hfv hit hck htk hc0 hcn hP hD hS hl; exact absurd hn138 (Nat.not_lt_zero _)
    | succ n138 ih138 =>
      intro x bs al ha bv fa sm mo tk kv cn H locs ls hn138 hX hbs hbb hal hab hx5 hra hhs hhb hby hbv hfa hfv hit hck htk hc0 hcn hP hD hS hl
      have bσ_29 : 0 ≤ (σ.1 29).toInt ∧ (σ.1 29).toInt ≤ 1 := hI.1 29
      refine lv_iload hx hb dX12_ofRow_138 (lv_at hl 14 rfl) ?_
      refine lv_iload hx hb dX12_ofRow_140 (lv_at hl 8 rfl) ?_
      refine lv_icmp_ge (tgt := 199) hx hb dX12_ofRow_142 rfl (fun c1_ => ?_) (fun c1_ => ?_)
      · have tc1_ := (show ha.toInt ≤ kv.toInt from ti_le rfl rfl c1_)
        refine lv_aload_n hx hb dX12_ofRow_199 rfl (lv_at hl 0 rfl) ?_
        refine va_get (D := (dC, dI)) (ci := 12) (v := .ref (ad 17)) (C := RX12) (T := TX12) (N := 59) hx hb hts hin12 hown hK hP 0 rfl rfl 17 (Nat.le_of_ble_eq_true rfl) (ho (.fieldLink RX12 39 "NearEnoughModel" "sKind" "[I") (List.mem_of_getElem? (i := 0) rfl)) (fun _ h9 => h9) rfl dX12_ofRow_200 ?_
        refine lv_iload hx hb dX12_ofRow_203 (lv_at hl 5 rfl) ?_
        have o1 : 0 ≤ x.toInt := by omega
        have o2 : x.toInt < ((24 : Nat) : Int) := by omega
        refine va_iald hx hb hK hP 9 8 rfl rfl (ti_inx o1 o2) dX12_ofRow_205 ?_
        refine lv_topi (fun z2_ ez2_ => ?_)
        have gz2_ : z2_.toInt = ((σ.2.1 17) (Int32.toNatClampNeg x)).toInt := congrArg Int32.toInt (ez2_.trans (congrFun rfl (Int32.toNatClampNeg x)))
        have bz2_ : 0 ≤ z2_.toInt ∧ z2_.toInt ≤ 7 := by rw [ez2_]; exact (hI.2 17) _ (cl_lt (n := 24) o1 o2)
        refine lv_iconst (v := 1) hx hb dX12_ofRow_206 rg_6 ?_
        refine lv_icmp_ne (tgt := 215) hx hb dX12_ofRow_207 rfl (fun c3_ => ?_) (fun c3_ => ?_)
        · have tc3_ := (show z2_.toInt ≠ 1 from ti_ne rfl rg_18 c3_)
          refine lv_iload hx hb dX12_ofRow_215 (lv_at hl 10 rfl) ?_
          refine lv_iconst (v := 1) hx hb dX12_ofRow_217 rg_6 ?_
          refine lv_icmp_le (tgt := 234) hx hb dX12_ofRow_218 rfl (fun c4_ => ?_) (fun c4_ => ?_)
          · have tc4_ := (show fa.toInt ≤ 1 from ti_le rfl rg_18 c4_)
            refine lv_lload hx hb dX12_ofRow_234 (lv_at hl 11 rfl) ?_
            rw [hQ]
            have o3 : cn ≤ 6 := by omega
            have o4 : ¬ kv.toInt < ha.toInt := by omega
            have N5_ : ofT (σ.1 29).toNatClampNeg (cor σ) false (σ.2.1 32) st9.toNatClampNeg base ch9 = (kv, sm, mo, tk) := by subst hbs hal hhs hby hfa; exact it_fin hit o3 (stp_n o4)
            have o5 : ¬ (σ.2.1 17 (Int32.toNatClampNeg x)).toInt = 1 := by omega
            have o6 : ¬ 1 < fa.toInt := by omega
            exact W.lret (v := sm) hx hb hr (fun t ht hW => ⟨⟨sm, σ, rfl, ⟨rfl, (of_s (by rw [← hX]; exact o5) (by rw [← hfa]; exact o6) N5_)⟩, wEn_of hP (hK.sub [] rfl) hD ht hW⟩, hS.F ht⟩) hS.2.2 dX12_ofRow_236
          · have tc4_ := (show 1 < fa.toInt from ti_nle rfl rg_18 c4_)
            refine lv_lload hx hb dX12_ofRow_221 (lv_at hl 11 rfl) ?_
            refine lv_iload hx hb dX12_ofRow_223 (lv_at hl 8 rfl) ?_
            refine lv_i2l hx hb dX12_ofRow_225 rfl ?_
            refine lv_topl (fun y6_ ey6_ => ?_)
            refine lv_lmul hx hb dX12_ofRow_226 ?_
            refine lv_topl (fun y7_ ey7_ => ?_)
            refine lv_iload hx hb dX12_ofRow_227 (lv_at hl 13 rfl) ?_
            refine lv_i2l hx hb dX12_ofRow_229 rfl ?_
            refine lv_topl (fun y8_ ey8_ => ?_)
            have o7 : tk.toInt ≠ 0 := by omega
            refine lv_ldiv hx hb dX12_ofRow_230 (i2l_ne ey8_ o7) ?_
            refine lv_topl (fun y9_ ey9_ => ?_)
            refine lv_goto (tgt := 236) hx hb dX12_ofRow_231 rfl ?_
            rw [hQ]
            have o8 : cn ≤ 6 := by omega
            have o9 : ¬ kv.toInt < ha.toInt := by omega
            have N10_ : ofT (σ.1 29).toNatClampNeg (cor σ) false (σ.2.1 32) st9.toNatClampNeg base ch9 = (kv, sm, mo, tk) := by subst hbs hal hhs hby hfa; exact it_fin hit o8 (stp_n o9)
            have o10 : ¬ (σ.2.1 17 (Int32.toNatClampNeg x)).toInt = 1 := by omega
            have o11 : 1 < fa.toInt := by omega
            exact W.lret (v := y9_) hx hb hr (fun t ht hW => ⟨⟨y9_, σ, rfl, ⟨rfl, (by rw [← of_f (by rw [← hX]; exact o10) (by rw [← hfa]; exact o11) N10_]; rw [← hal, ← hhs]; simp only [ez2_, ey6_, ey7_, ey8_, ey9_])⟩, wEn_of hP (hK.sub [] rfl) hD ht hW⟩, hS.F ht⟩) hS.2.2 dX12_ofRow_236
        · have tc3_ := (show z2_.toInt = 1 from ti_eq rfl rg_18 c3_)
          refine lv_lload hx hb dX12_ofRow_210 (lv_at hl 12 rfl) ?_
          refine lv_goto (tgt := 236) hx hb dX12_ofRow_212 rfl ?_
          rw [hQ]
          have o12 : cn ≤ 6 := by omega
          have o13 : ¬ kv.toInt < ha.toInt := by omega
          have N11_ : ofT (σ.1 29).toNatClampNeg (cor σ) false (σ.2.1 32) st9.toNatClampNeg base ch9 = (kv, sm, mo, tk) := by subst hbs hal hhs hby hfa; exact it_fin hit o12 (stp_n o13)
          have o14 : (σ.2.1 17 (Int32.toNatClampNeg x)).toInt = 1 := by omega
          exact W.lret (v := mo) hx hb hr (fun t ht hW => ⟨⟨mo, σ, rfl, ⟨rfl, (of_m (by rw [← hX]; exact o14) N11_)⟩, wEn_of hP (hK.sub [] rfl) hD ht hW⟩, hS.F ht⟩) hS.2.2 dX12_ofRow_236
      · have tc1_ := (show kv.toInt < ha.toInt from ti_nle rfl rfl c1_)
        refine lv_aload_n hx hb dX12_ofRow_145 rfl (lv_at hl 0 rfl) ?_
        refine lv_aload_n hx hb dX12_ofRow_146 rfl (lv_at hl 2 rfl) ?_
        refine lv_iload hx hb dX12_ofRow_147 (lv_at hl 6 rfl) ?_
        refine lv_aload_n hx hb dX12_ofRow_149 rfl (lv_at hl 0 rfl) ?_
        refine va_get (D := (dC, dI)) (ci := 12) (v := .ref (ad 18)) (C := RX12) (T := TX12) (N := 59) hx hb hts hin12 hown hK hP 0 rfl rfl 18 (Nat.le_of_ble_eq_true rfl) (ho (.fieldLink RX12 42 "NearEnoughModel" "sA" "[I") (List.mem_of_getElem? (i := 1) rfl)) (fun _ h9 => h9) rfl dX12_ofRow_150 ?_
        refine lv_iload hx hb dX12_ofRow_153 (lv_at hl 5 rfl) ?_
        have o15 : 0 ≤ x.toInt := by omega
        have o16 : x.toInt < ((24 : Nat) : Int) := by omega
        refine va_iald hx hb hK hP 10 9 rfl rfl (ti_inx o15 o16) dX12_ofRow_155 ?_
        refine lv_topi (fun z12_ ez12_ => ?_)
        have gz12_ : z12_.toInt = ((σ.2.1 18) (Int32.toNatClampNeg x)).toInt := congrArg Int32.toInt (ez12_.trans (congrFun rfl (Int32.toNatClampNeg x)))
        have bz12_ : (-1) ≤ z12_.toInt ∧ z12_.toInt ≤ 11 := by rw [ez12_]; exact (hI.2 18) _ (cl_lt (n := 24) o15 o16)
        refine lv_iload hx hb dX12_ofRow_156 (lv_at hl 14 rfl) ?_
        have o17 : 0 ≤ bs.toInt := by omega
        have o18 : bs.toInt ≤ 0 := by omega
        have o19 : 0 ≤ z12_.toInt := by omega
        have o20 : z12_.toInt ≤ 1 := by omega
        have o21 : 0 ≤ kv.toInt := by omega
        have o22 : kv.toInt ≤ 5 := by omega
        refine zy_i (va_runV (As := [.ref (ad 32), .int bs, .int z12_, .int kv]) (rest := []) ⟨hx, hb, hml, hown, hts⟩ (n_numberAt_c l dC dI h ad cl H.size σ bs z12_ kv hI ⟨o17, o18⟩ ⟨o19, o20⟩ ⟨o21, o22⟩) (cwV 4 hts gd_n_ofRow_c_353_n_numberAt_c rfl rfl rfl dd_n_numberAt_c ⟨Nat.le_of_ble_eq_true rfl, Nat.le_of_ble_eq_true rfl⟩) (preV hP hK hD hE (ci := 12) (q0 := 0) rfl rfl) rfl rfl hl.1 rfl (lv_room (Nat.le_of_ble_eq_true rfl)) dX12_ofRow_158 ⟨Nat.le_of_ble_eq_true rfl, Nat.le_of_ble_eq_true rfl⟩) hD hS hA (fun z14_ τ13_ H locs hq hP hD hS => ?_)
        obtain ⟨rfl, f15_⟩ := hq
        refine W.widen (k := 0) (n := 0) (Nat.le_of_ble_eq_true rfl) (Nat.le_of_ble_eq_true rfl) ?_
        refine lv_iload hx hb dX12_ofRow_161 (lv_at hl 9 rfl) ?_
        have o23 : bv.toInt ≠ 0 := by omega
        refine zs_i (va_runS (As := [.int z14_, .int bv]) (rest := []) ⟨hx, hb, hml, hown, hts⟩ (n_coarse l dC dI z14_ bv o23 H.size) (va_cwS 2 hts gd_n_ofRow_c_357_n_coarse rfl rfl rfl dd_n_coarse ⟨Nat.le_of_ble_eq_true rfl, Nat.le_of_ble_eq_true rfl⟩) (preS (A := A) empP (hK.sub (tys' := []) [] rfl) empD hE) rfl rfl hl.1 rfl (lv_room (Nat.le_of_ble_eq_true rfl)) dX12_ofRow_163 ⟨Nat.le_of_ble_eq_true rfl, Nat.le_of_ble_eq_true rfl⟩) hP hD hS hA (fun z16_ H locs hq hP hD hS => ?_)
        have f17_ := hq
        refine W.widen (k := 0) (n := 0) (Nat.le_of_ble_eq_true rfl) (Nat.le_of_ble_eq_true rfl) ?_
        refine lv_istore (lv' := [(17, .int z16_), (0, .ref h), (1, .int st9), (2, .ref (ad 32)), (3, .int base), (4, .int ch9), (5, .int x), (6, .int bs), (7, .int al), (8, .int ha), (9, .int bv), (10, .int fa), (11, .long sm), (13, .long mo), (15, .int tk), (16, .int kv)]) hx hb dX12_ofRow_166 hl (Nat.le_of_ble_eq_true rfl) rfl (fun ls hl => ?_)
        refine lv_lload hx hb dX12_ofRow_168 (lv_at hl 12 rfl) ?_
        refine lv_iload hx hb dX12_ofRow_170 (lv_at hl 0 rfl) ?_
        refine lv_i2l hx hb dX12_ofRow_172 rfl ?_
        refine lv_topl (fun y18_ ey18_ => ?_)
        refine lv_ladd hx hb dX12_ofRow_173 ?_
        refine lv_topl (fun y19_ ey19_ => ?_)
        refine lv_lstore (lv' := [(11, .long y19_), (17, .int z16_), (0, .ref h), (1, .int st9), (2, .ref (ad 32)), (3, .int base), (4, .int ch9), (5, .int x), (6, .int bs), (7, .int al), (8, .int ha), (9, .int bv), (10, .int fa), (13, .long mo), (15, .int tk), (16, .int kv)]) hx hb dX12_ofRow_174 hl (Nat.le_of_ble_eq_true rfl) rfl (fun ls hl => ?_)
        refine lv_lload hx hb dX12_ofRow_176 (lv_at hl 13 rfl) ?_
        refine lv_iload hx hb dX12_ofRow_178 (lv_at hl 1 rfl) ?_
        refine lv_i2l hx hb dX12_ofRow_180 rfl ?_
        refine lv_topl (fun y20_ ey20_ => ?_)
        refine zs_l (va_runS (As := [.long mo, .long y20_]) (rest := []) ⟨hx, hb, hml, hown, hts⟩ (n_greaterV l dC dI mo y20_  H.size) (va_cwS 2 hts gd_n_ofRow_c_318_n_greaterV rfl rfl rfl dd_n_greaterV ⟨Nat.le_of_ble_eq_true rfl, Nat.le_of_ble_eq_true rfl⟩) (preS (A := A) empP (hK.sub (tys' := []) [] rfl) empD hE) rfl rfl hl.1 rfl (lv_room (Nat.le_of_ble_eq_true rfl)) dX12_ofRow_181 ⟨Nat.le_of_ble_eq_true rfl, Nat.le_of_ble_eq_true rfl⟩) hP hD hS hA (fun y21_ H locs hq hP hD hS => ?_)
        have f22_ := hq
        refine W.widen (k := 0) (n := 0) (Nat.le_of_ble_eq_true rfl) (Nat.le_of_ble_eq_true rfl) ?_
        refine lv_lstore (lv' := [(13, .long y21_), (11, .long y19_), (17, .int z16_), (0, .ref h), (1, .int st9), (2, .ref (ad 32)), (3, .int base), (4, .int ch9), (5, .int x), (6, .int bs), (7, .int al), (8, .int ha), (9, .int bv), (10, .int fa), (15, .int tk), (16, .int kv)]) hx hb dX12_ofRow_184 hl (Nat.le_of_ble_eq_true rfl) rfl (fun ls hl => ?_)
        obtain ⟨z23_, ez23_⟩ : ∃ y : Int32, y = tk + 1 := ⟨_, rfl⟩
        have o24 : -2147483648 ≤ tk.toInt + 1 := by omega
        have o25 : tk.toInt + 1 ≤ 2147483647 := by omega
        have tz23_ := ti_add ez23_ rfl rg_18 o24 o25
        refine lv_iinc (v := z23_) (lv' := [(15, .int z23_), (13, .long y21_), (11, .long y19_), (17, .int z16_), (0, .ref h), (1, .int st9), (2, .ref (ad 32)), (3, .int base), (4, .int ch9), (5, .int x), (6, .int bs), (7, .int al), (8, .int ha), (9, .int bv), (10, .int fa), (16, .int kv)]) hx hb dX12_ofRow_186 hl (k := 14) rfl (iincp ez23_ rg_6) (Nat.le_of_ble_eq_true rfl) rfl (fun ls hl => ?_)
        refine lv_iload hx hb dX12_ofRow_189 (lv_at hl 15 rfl) ?_
        refine lv_iload hx hb dX12_ofRow_191 (lv_at hl 14 rfl) ?_
        refine lv_iadd hx hb dX12_ofRow_193 ?_
        refine lv_topi (fun z24_ ez24_ => ?_)
        have o26 : -2147483648 ≤ kv.toInt + fa.toInt := by omega
        have o27 : kv.toInt + fa.toInt ≤ 2147483647 := by omega
        have tz24_ : z24_.toInt = kv.toInt + fa.toInt := ti_add ez24_ rfl rfl o26 o27
        refine lv_istore (lv' := [(16, .int z24_), (15, .int z23_), (13, .long y21_), (11, .long y19_), (17, .int z16_), (0, .ref h), (1, .int st9), (2, .ref (ad 32)), (3, .int base), (4, .int ch9), (5, .int x), (6, .int bs), (7, .int al), (8, .int ha), (9, .int bv), (10, .int fa)]) hx hb dX12_ofRow_194 hl (Nat.le_of_ble_eq_true rfl) rfl (fun ls hl => ?_)
        refine lv_goto (tgt := 138) hx hb dX12_ofRow_196 rfl ?_
        have o28 : kv.toInt < ha.toInt := by omega
        have N25_ : (z24_, y19_, y21_, z23_) = itN (stp (rowF (σ.2.1 32) bs (σ.2.1 18 (12 * (σ.1 29).toNatClampNeg + st9.toNatClampNeg)) bv) ha fa) (cn + 1) (0, 0, -1000000, 0) := by rw [itN_s, ← hit, stp_y o28]; simp only [rowF, ez12_, f15_, f17_, ey18_, ey19_, ey20_, f22_, ez23_, ez24_, hX]
        have o29 : ((cn + 1 : Nat) : Int) ≤ z24_.toInt := by omega
        have o30 : z23_.toInt = ((cn + 1 : Nat) : Int) := by omega
        have o31 : cn + 1 ≤ 6 := by omega
        have o32 : (6 - z24_.toInt).toNat < n138 := by omega
        exact ih138  x bs al ha bv fa y19_ y21_ z23_ z24_ (cn + 1) _ _ _ (show (6 - z24_.toInt).toNat < n138 from o32) hX hbs hbb hal hab hx5 hra hhs hhb hby hbv hfa hfv N25_ o29 o30 (fun h9 => absurd h9 (Nat.succ_ne_zero _)) o31 hP hD hS (lv_sub hl [5, 6, 7, 8, 9, 10, 11, 12, 13, 14, 15, 3, 2, 1, 0] rfl)
  have pt_124 : ∀ (x : Int32) (bs : Int32) (al : Int32) (ha : Int32) (bv : Int32) (fa : Int32) (H : Heap) (locs : List Loc) (ls : Array Slot), (x.toNatClampNeg = 12 * (σ.1 29).toNatClampNeg + st9.toNatClampNeg) → (bs = bsF (cor σ) false base ch9) → (0 ≤ bs.toInt ∧ bs.toInt ≤ 0) → (al = ofA (σ.1 29).toNatClampNeg (cor σ) st9.toNatClampNeg) → (1 ≤ al.toInt ∧ al.toInt ≤ 6) → (x.toInt = 12 * (σ.1 29).toInt + st9.toInt) → (0 ≤ (σ.2.1 18 (Int32.toNatClampNeg x)).toInt ∧ (σ.2.1 18 (Int32.toNatClampNeg x)).toInt ≤ 1) → (ha = hasF (cor σ) al ch9) → (1 ≤ ha.toInt ∧ ha.toInt ≤ 6) → (bv = byF (cor σ) ch9) → (1 ≤ bv.toInt ∧ bv.toInt ≤ 99) → (fa = farF (cor σ) ch9) → (1 ≤ fa.toInt ∧ fa.toInt ≤ 99) → va_P (dC, dI) vwCl (mW h ad cl σ) H → va_D A (mW h ad cl σ) → va_S A s.heap H locs → lv_has ls 18 [(0, .ref h), (1, .int st9), (2, .ref (ad 32)), (3, .int base), (4, .int ch9), (5, .int x), (6, .int bs), (7, .int al), (8, .int ha), (9, .int bv), (10, .int fa)] → W p l e (headSpec vs_n_ofRow_c rm_n_ofRow_c).room s m #[Value.ref h, Value.int st9, Value.ref (ad 32), Value.int base, Value.int ch9] below meth c H locs 0 0 Q (F0 m 124 ls []) := by
    intro x bs al ha bv fa H locs ls hX hbs hbb hal hab hx5 hra hhs hhb hby hbv hfa hfv hP hD hS hl
    have bσ_29 : 0 ≤ (σ.1 29).toInt ∧ (σ.1 29).toInt ≤ 1 := hI.1 29
    refine lv_lconst (v := 0) hx hb dX12_ofRow_124 (by decide) ?_
    refine lv_lstore (lv' := [(11, .long 0), (0, .ref h), (1, .int st9), (2, .ref (ad 32)), (3, .int base), (4, .int ch9), (5, .int x), (6, .int bs), (7, .int al), (8, .int ha), (9, .int bv), (10, .int fa)]) hx hb dX12_ofRow_125 hl (Nat.le_of_ble_eq_true rfl) rfl (fun ls hl => ?_)
    refine lv_ldc2 (v := (-1000000)) hx hb hown (ho (.constantLong RX12 351 (-1000000)) (List.mem_of_getElem? (i := 2) rfl)) dX12_ofRow_127 ?_
    refine lv_lstore (lv' := [(13, .long (-1000000)), (11, .long 0), (0, .ref h), (1, .int st9), (2, .ref (ad 32)), (3, .int base), (4, .int ch9), (5, .int x), (6, .int bs), (7, .int al), (8, .int ha), (9, .int bv), (10, .int fa)]) hx hb dX12_ofRow_130 hl (Nat.le_of_ble_eq_true rfl) rfl (fun ls hl => ?_)
    refine lv_iconst (v := 0) hx hb dX12_ofRow_132 rg_0 ?_
    refine lv_istore (lv' := [(15, .int 0), (13, .long (-1000000)), (11, .long 0), (0, .ref h), (1, .int st9), (2, .ref (ad 32)), (3, .int base), (4, .int ch9), (5, .int x), (6, .int bs), (7, .int al), (8, .int ha), (9, .int bv), (10, .int fa)]) hx hb dX12_ofRow_133 hl (Nat.le_of_ble_eq_true rfl) rfl (fun ls hl => ?_)
    refine lv_iconst (v := 0) hx hb dX12_ofRow_135 rg_0 ?_
    refine lv_istore (lv' := [(16, .int 0), (15, .int 0), (13, .long (-1000000)), (11, .long 0), (0, .ref h), (1, .int st9), (2, .ref (ad 32)), (3, .int base), (4, .int ch9), (5, .int x), (6, .int bs), (7, .int al), (8, .int ha), (9, .int bv), (10, .int fa)]) hx hb dX12_ofRow_136 hl (Nat.le_of_ble_eq_true rfl) rfl (fun ls hl => ?_)
    exact pt_138 _  x bs al ha bv fa 0 (-1000000) 0 0 0 _ _ _ (Nat.lt_succ_self _) hX hbs hbb hal hab hx5 hra hhs hhb hby hbv hfa hfv rfl rg_478 rg_479 rg_480 rg_481 hP hD hS (lv_sub hl [4, 5, 6, 7, 8, 9, 10, 11, 12, 13, 14, 3, 2, 1, 0] rfl)
  have pt_96 : ∀ (x : Int32) (bs : Int32) (al : Int32) (ha : Int32) (bv : Int32) (H : Heap) (locs : List Loc) (ls : Array Slot), (x.toNatClampNeg = 12 * (σ.1 29).toNatClampNeg + st9.toNatClampNeg) → (bs = bsF (cor σ) false base ch9) → (0 ≤ bs.toInt ∧ bs.toInt ≤ 0) → (al = ofA (σ.1 29).toNatClampNeg (cor σ) st9.toNatClampNeg) → (1 ≤ al.toInt ∧ al.toInt ≤ 6) → (x.toInt = 12 * (σ.1 29).toInt + st9.toInt) → (0 ≤ (σ.2.1 18 (Int32.toNatClampNeg x)).toInt ∧ (σ.2.1 18 (Int32.toNatClampNeg x)).toInt ≤ 1) → (ha = hasF (cor σ) al ch9) → (1 ≤ ha.toInt ∧ ha.toInt ≤ 6) → (bv = byF (cor σ) ch9) → (1 ≤ bv.toInt ∧ bv.toInt ≤ 99) → va_P (dC, dI) vwCl (mW h ad cl σ) H → va_D A (mW h ad cl σ) → va_S A s.heap H locs → lv_has ls 18 [(0, .ref h), (1, .int st9), (2, .ref (ad 32)), (3, .int base), (4, .int ch9), (5, .int x), (6, .int bs), (7, .int al), (8, .int ha), (9, .int bv)] → W p l e (headSpec vs_n_ofRow_c rm_n_ofRow_c).room s m #[Value.ref h, Value.int st9, Value.ref (ad 32), Value.int base, Value.int ch9] below meth c H locs 0 0 Q (F0 m 96 ls []) := by
    intro x bs al ha bv H locs ls hX hbs hbb hal hab hx5 hra hhs hhb hby hbv hP hD hS hl
    have bσ_29 : 0 ≤ (σ.1 29).toInt ∧ (σ.1 29).toInt ≤ 1 := hI.1 29
    refine lv_iload hx hb dX12_ofRow_96 (lv_at hl 4 rfl) ?_
    refine lv_if_lt (tgt := 121) hx hb dX12_ofRow_98 rfl (fun c26_ => ?_) (fun c26_ => ?_)
    · have tc26_ := (show ch9.toInt < 0 from ti_lt rfl rg_11 c26_)
      refine lv_iconst (v := 1) hx hb dX12_ofRow_121 rg_6 ?_
      refine lv_istore (lv' := [(10, .int 1), (0, .ref h), (1, .int st9), (2, .ref (ad 32)), (3, .int base), (4, .int ch9), (5, .int x), (6, .int bs), (7, .int al), (8, .int ha), (9, .int bv)]) hx hb dX12_ofRow_122 hl (Nat.le_of_ble_eq_true rfl) rfl (fun ls hl => ?_)
      have o33 : ¬ (0 ≤ ch9.toInt ∧ (σ.2.1 34 (Int32.toNatClampNeg ch9)).toInt = 0) := by omega
      exact pt_124  x bs al ha bv 1 _ _ _ hX hbs hbb hal hab hx5 hra hhs hhb hby hbv (far_n (T := cor σ) (show ¬ (0 ≤ ch9.toInt ∧ (σ.2.1 34 (Int32.toNatClampNeg ch9)).toInt = 0) from o33)) rg_482 hP hD hS (lv_sub hl [1, 2, 3, 4, 5, 6, 7, 8, 9, 10, 0] rfl)
    · have tc26_ := (show 0 ≤ ch9.toInt from ti_nlt rfl rg_11 c26_)
      refine lv_aload_n hx hb dX12_ofRow_101 rfl (lv_at hl 0 rfl) ?_
      refine va_get (D := (dC, dI)) (ci := 12) (v := .ref (ad 34)) (C := RX12) (T := TX12) (N := 59) hx hb hts hin12 hown hK hP 0 rfl rfl 34 (Nat.le_of_ble_eq_true rfl) (ho (.fieldLink RX12 85 "NearEnoughModel" "cKind" "[I") (List.mem_of_getElem? (i := 3) rfl)) (fun _ h9 => h9) rfl dX12_ofRow_102 ?_
      refine lv_iload hx hb dX12_ofRow_105 (lv_at hl 4 rfl) ?_
      have o34 : 0 ≤ ch9.toInt := by omega
      have o35 : ch9.toInt < ((12 : Nat) : Int) := by omega
      refine va_iald hx hb hK hP 24 23 rfl rfl (ti_inx o34 o35) dX12_ofRow_107 ?_
      refine lv_topi (fun z27_ ez27_ => ?_)
      have gz27_ : z27_.toInt = ((σ.2.1 34) (Int32.toNatClampNeg ch9)).toInt := congrArg Int32.toInt (ez27_.trans (congrFun rfl (Int32.toNatClampNeg ch9)))
      have bz27_ : 0 ≤ z27_.toInt ∧ z27_.toInt ≤ 6 := by rw [ez27_]; exact (hI.2 34) _ (cl_lt (n := 12) o34 o35)
      refine lv_if_ne (tgt := 121) hx hb dX12_ofRow_108 rfl (fun c28_ => ?_) (fun c28_ => ?_)
      · have tc28_ := (show z27_.toInt ≠ 0 from ti_ne rfl rg_11 c28_)
        refine lv_iconst (v := 1) hx hb dX12_ofRow_121 rg_6 ?_
        refine lv_istore (lv' := [(10, .int 1), (0, .ref h), (1, .int st9), (2, .ref (ad 32)), (3, .int base), (4, .int ch9), (5, .int x), (6, .int bs), (7, .int al), (8, .int ha), (9, .int bv)]) hx hb dX12_ofRow_122 hl (Nat.le_of_ble_eq_true rfl) rfl (fun ls hl => ?_)
        have o36 : ¬ (0 ≤ ch9.toInt ∧ (σ.2.1 34 (Int32.toNatClampNeg ch9)).toInt = 0) := by omega
        exact pt_124  x bs al ha bv 1 _ _ _ hX hbs hbb hal hab hx5 hra hhs hhb hby hbv (far_n (T := cor σ) (show ¬ (0 ≤ ch9.toInt ∧ (σ.2.1 34 (Int32.toNatClampNeg ch9)).toInt = 0) from o36)) rg_482 hP hD hS (lv_sub hl [1, 2, 3, 4, 5, 6, 7, 8, 9, 10, 0] rfl)
      · have tc28_ := (show z27_.toInt = 0 from ti_eq rfl rg_11 c28_)
        refine lv_aload_n hx hb dX12_ofRow_111 rfl (lv_at hl 0 rfl) ?_
        refine va_get (D := (dC, dI)) (ci := 12) (v := .ref (ad 35)) (C := RX12) (T := TX12) (N := 59) hx hb hts hin12 hown hK hP 0 rfl rfl 35 (Nat.le_of_ble_eq_true rfl) (ho (.fieldLink RX12 88 "NearEnoughModel" "cN" "[I") (List.mem_of_getElem? (i := 4) rfl)) (fun _ h9 => h9) rfl dX12_ofRow_112 ?_
        refine lv_iload hx hb dX12_ofRow_115 (lv_at hl 4 rfl) ?_
        refine va_iald hx hb hK hP 25 24 rfl rfl (ti_inx o34 o35) dX12_ofRow_117 ?_
        refine lv_topi (fun z29_ ez29_ => ?_)
        have gz29_ : z29_.toInt = ((σ.2.1 35) (Int32.toNatClampNeg ch9)).toInt := congrArg Int32.toInt (ez29_.trans (congrFun rfl (Int32.toNatClampNeg ch9)))
        have bz29_ : 0 ≤ z29_.toInt ∧ z29_.toInt ≤ 99 := by rw [ez29_]; exact (hI.2 35) _ (cl_lt (n := 12) o34 o35)
        refine lv_goto (tgt := 122) hx hb dX12_ofRow_118 rfl ?_
        refine lv_istore (lv' := [(10, .int z29_), (0, .ref h), (1, .int st9), (2, .ref (ad 32)), (3, .int base), (4, .int ch9), (5, .int x), (6, .int bs), (7, .int al), (8, .int ha), (9, .int bv)]) hx hb dX12_ofRow_122 hl (Nat.le_of_ble_eq_true rfl) rfl (fun ls hl => ?_)
        have o37 : 0 ≤ ch9.toInt ∧ (σ.2.1 34 (Int32.toNatClampNeg ch9)).toInt = 0 := by omega
        have o38 : 1 ≤ z29_.toInt ∧ z29_.toInt ≤ 99 := by omega
        exact pt_124  x bs al ha bv z29_ _ _ _ hX hbs hbb hal hab hx5 hra hhs hhb hby hbv (far_y (T := cor σ) (show 0 ≤ ch9.toInt ∧ (σ.2.1 34 (Int32.toNatClampNeg ch9)).toInt = 0 from o37) ez29_) (show 1 ≤ z29_.toInt ∧ z29_.toInt ≤ 99 from o38) hP hD hS (lv_sub hl [1, 2, 3, 4, 5, 6, 7, 8, 9, 10, 0] rfl)
  have pt_67 : ∀ (x : Int32) (bs : Int32) (al : Int32) (ha : Int32) (H : Heap) (locs : List Loc) (ls : Array Slot), (x.toNatClampNeg = 12 * (σ.1 29).toNatClampNeg + st9.toNatClampNeg) → (bs = bsF (cor σ) false base ch9) → (0 ≤ bs.toInt ∧ bs.toInt ≤ 0) → (al = ofA (σ.1 29).toNatClampNeg (cor σ) st9.toNatClampNeg) → (1 ≤ al.toInt ∧ al.toInt ≤ 6) → (x.toInt = 12 * (σ.1 29).toInt + st9.toInt) → (0 ≤ (σ.2.1 18 (Int32.toNatClampNeg x)).toInt ∧ (σ.2.1 18 (Int32.toNatClampNeg x)).toInt ≤ 1) → (ha = hasF (cor σ) al ch9) → (1 ≤ ha.toInt ∧ ha.toInt ≤ 6) → va_P (dC, dI) vwCl (mW h ad cl σ) H → va_D A (mW h ad cl σ) → va_S A s.heap H locs → lv_has ls 18 [(0, .ref h), (1, .int st9), (2, .ref (ad 32)), (3, .int base), (4, .int ch9), (5, .int x), (6, .int bs), (7, .int al), (8, .int ha)] → W p l e (headSpec vs_n_ofRow_c rm_n_ofRow_c).room s m #[Value.ref h, Value.int st9, Value.ref (ad 32), Value.int base, Value.int ch9] below meth c H locs 0 0 Q (F0 m 67 ls []) := by
    intro x bs al ha H locs ls hX hbs hbb hal hab hx5 hra hhs hhb hP hD hS hl
    have bσ_29 : 0 ≤ (σ.1 29).toInt ∧ (σ.1 29).toInt ≤ 1 := hI.1 29
    refine lv_iload hx hb dX12_ofRow_67 (lv_at hl 4 rfl) ?_
    refine lv_if_lt (tgt := 93) hx hb dX12_ofRow_69 rfl (fun c30_ => ?_) (fun c30_ => ?_)
    · have tc30_ := (show ch9.toInt < 0 from ti_lt rfl rg_11 c30_)
      refine lv_iconst (v := 1) hx hb dX12_ofRow_93 rg_6 ?_
      refine lv_istore (lv' := [(9, .int 1), (0, .ref h), (1, .int st9), (2, .ref (ad 32)), (3, .int base), (4, .int ch9), (5, .int x), (6, .int bs), (7, .int al), (8, .int ha)]) hx hb dX12_ofRow_94 hl (Nat.le_of_ble_eq_true rfl) rfl (fun ls hl => ?_)
      have o39 : ¬ (0 ≤ ch9.toInt ∧ (σ.2.1 34 (Int32.toNatClampNeg ch9)).toInt = 3) := by omega
      exact pt_96  x bs al ha 1 _ _ _ hX hbs hbb hal hab hx5 hra hhs hhb (by_n (T := cor σ) (show ¬ (0 ≤ ch9.toInt ∧ (σ.2.1 34 (Int32.toNatClampNeg ch9)).toInt = 3) from o39)) rg_482 hP hD hS (lv_sub hl [1, 2, 3, 4, 5, 6, 7, 8, 9, 0] rfl)
    · have tc30_ := (show 0 ≤ ch9.toInt from ti_nlt rfl rg_11 c30_)
      refine lv_aload_n hx hb dX12_ofRow_72 rfl (lv_at hl 0 rfl) ?_
      refine va_get (D := (dC, dI)) (ci := 12) (v := .ref (ad 34)) (C := RX12) (T := TX12) (N := 59) hx hb hts hin12 hown hK hP 0 rfl rfl 34 (Nat.le_of_ble_eq_true rfl) (ho (.fieldLink RX12 85 "NearEnoughModel" "cKind" "[I") (List.mem_of_getElem? (i := 3) rfl)) (fun _ h9 => h9) rfl dX12_ofRow_73 ?_
      refine lv_iload hx hb dX12_ofRow_76 (lv_at hl 4 rfl) ?_
      have o40 : 0 ≤ ch9.toInt := by omega
      have o41 : ch9.toInt < ((12 : Nat) : Int) := by omega
      refine va_iald hx hb hK hP 24 23 rfl rfl (ti_inx o40 o41) dX12_ofRow_78 ?_
      refine lv_topi (fun z31_ ez31_ => ?_)
      have gz31_ : z31_.toInt = ((σ.2.1 34) (Int32.toNatClampNeg ch9)).toInt := congrArg Int32.toInt (ez31_.trans (congrFun rfl (Int32.toNatClampNeg ch9)))
      have bz31_ : 0 ≤ z31_.toInt ∧ z31_.toInt ≤ 6 := by rw [ez31_]; exact (hI.2 34) _ (cl_lt (n := 12) o40 o41)
      refine lv_iconst (v := 3) hx hb dX12_ofRow_79 rg_16 ?_
      refine lv_icmp_ne (tgt := 93) hx hb dX12_ofRow_80 rfl (fun c32_ => ?_) (fun c32_ => ?_)
      · have tc32_ := (show z31_.toInt ≠ 3 from ti_ne rfl rg_17 c32_)
        refine lv_iconst (v := 1) hx hb dX12_ofRow_93 rg_6 ?_
        refine lv_istore (lv' := [(9, .int 1), (0, .ref h), (1, .int st9), (2, .ref (ad 32)), (3, .int base), (4, .int ch9), (5, .int x), (6, .int bs), (7, .int al), (8, .int ha)]) hx hb dX12_ofRow_94 hl (Nat.le_of_ble_eq_true rfl) rfl (fun ls hl => ?_)
        have o42 : ¬ (0 ≤ ch9.toInt ∧ (σ.2.1 34 (Int32.toNatClampNeg ch9)).toInt = 3) := by omega
        exact pt_96  x bs al ha 1 _ _ _ hX hbs hbb hal hab hx5 hra hhs hhb (by_n (T := cor σ) (show ¬ (0 ≤ ch9.toInt ∧ (σ.2.1 34 (Int32.toNatClampNeg ch9)).toInt = 3) from o42)) rg_482 hP hD hS (lv_sub hl [1, 2, 3, 4, 5, 6, 7, 8, 9, 0] rfl)
      · have tc32_ := (show z31_.toInt = 3 from ti_eq rfl rg_17 c32_)
        refine lv_aload_n hx hb dX12_ofRow_83 rfl (lv_at hl 0 rfl) ?_
        refine va_get (D := (dC, dI)) (ci := 12) (v := .ref (ad 35)) (C := RX12) (T := TX12) (N := 59) hx hb hts hin12 hown hK hP 0 rfl rfl 35 (Nat.le_of_ble_eq_true rfl) (ho (.fieldLink RX12 88 "NearEnoughModel" "cN" "[I") (List.mem_of_getElem? (i := 4) rfl)) (fun _ h9 => h9) rfl dX12_ofRow_84 ?_
        refine lv_iload hx hb dX12_ofRow_87 (lv_at hl 4 rfl) ?_
        refine va_iald hx hb hK hP 25 24 rfl rfl (ti_inx o40 o41) dX12_ofRow_89 ?_
        refine lv_topi (fun z33_ ez33_ => ?_)
        have gz33_ : z33_.toInt = ((σ.2.1 35) (Int32.toNatClampNeg ch9)).toInt := congrArg Int32.toInt (ez33_.trans (congrFun rfl (Int32.toNatClampNeg ch9)))
        have bz33_ : 0 ≤ z33_.toInt ∧ z33_.toInt ≤ 99 := by rw [ez33_]; exact (hI.2 35) _ (cl_lt (n := 12) o40 o41)
        refine lv_goto (tgt := 94) hx hb dX12_ofRow_90 rfl ?_
        refine lv_istore (lv' := [(9, .int z33_), (0, .ref h), (1, .int st9), (2, .ref (ad 32)), (3, .int base), (4, .int ch9), (5, .int x), (6, .int bs), (7, .int al), (8, .int ha)]) hx hb dX12_ofRow_94 hl (Nat.le_of_ble_eq_true rfl) rfl (fun ls hl => ?_)
        have o43 : 0 ≤ ch9.toInt ∧ (σ.2.1 34 (Int32.toNatClampNeg ch9)).toInt = 3 := by omega
        have o44 : 1 ≤ z33_.toInt ∧ z33_.toInt ≤ 99 := by omega
        exact pt_96  x bs al ha z33_ _ _ _ hX hbs hbb hal hab hx5 hra hhs hhb (by_y (T := cor σ) (show 0 ≤ ch9.toInt ∧ (σ.2.1 34 (Int32.toNatClampNeg ch9)).toInt = 3 from o43) ez33_) (show 1 ≤ z33_.toInt ∧ z33_.toInt ≤ 99 from o44) hP hD hS (lv_sub hl [1, 2, 3, 4, 5, 6, 7, 8, 9, 0] rfl)
  refine zH (A := A) (ws := mW h ad cl σ) (fun H hP hS => ?_) hP
  have bσ_29 : 0 ≤ (σ.1 29).toInt ∧ (σ.1 29).toInt ≤ 1 := hI.1 29
  refine lv_aload_n hx hb dX12_ofRow_0 rfl (lv_at hl 0 rfl) ?_
  refine lv_iload_n hx hb dX12_ofRow_1 rfl (lv_at hl 1 rfl) ?_
  have o45 : 0 ≤ st9.toInt := by omega
  have o46 : st9.toInt ≤ 11 := by omega
  refine zy_i (va_runV (As := [.int st9]) (rest := []) ⟨hx, hb, hml, hown, hts⟩ (n_at0 l dC dI h ad cl H.size σ st9 hI ⟨o45, o46⟩) (cwV 1 hts gd_n_ofRow_c_331_n_at0 rfl rfl rfl dd_n_at0 ⟨Nat.le_of_ble_eq_true rfl, Nat.le_of_ble_eq_true rfl⟩) (preV hP hK hD hE (ci := 12) (q0 := 0) rfl rfl) rfl rfl hl.1 rfl (lv_room (Nat.le_of_ble_eq_true rfl)) dX12_ofRow_2 ⟨Nat.le_of_ble_eq_true rfl, Nat.le_of_ble_eq_true rfl⟩) hD hS hA (fun z35_ τ34_ H locs hq hP hD hS => ?_)
  obtain ⟨rfl, f36_⟩ := hq
  refine W.widen (k := 0) (n := 0) (Nat.le_of_ble_eq_true rfl) (Nat.le_of_ble_eq_true rfl) ?_
  have o47 : z35_.toInt = 12 * (σ.1 29).toInt + st9.toInt := by omega
  have Xz35_ : z35_.toNatClampNeg = 12 * (σ.1 29).toNatClampNeg + st9.toNatClampNeg := at0x (hI.1 29).1 o45 o47
  have hra : 0 ≤ (σ.2.1 18 (Int32.toNatClampNeg z35_)).toInt ∧ (σ.2.1 18 (Int32.toNatClampNeg z35_)).toInt ≤ 1 := by rw [Xz35_]; exact ⟨hrw.1, hrw.2.1⟩
  refine lv_istore (lv' := [(5, .int z35_), (0, .ref h), (1, .int st9), (2, .ref (ad 32)), (3, .int base), (4, .int ch9)]) hx hb dX12_ofRow_5 hl (Nat.le_of_ble_eq_true rfl) rfl (fun ls hl => ?_)
  refine lv_aload_n hx hb dX12_ofRow_7 rfl (lv_at hl 1 rfl) ?_
  refine lv_aload_n hx hb dX12_ofRow_8 rfl (lv_at hl 3 rfl) ?_
  refine lv_iload_n hx hb dX12_ofRow_9 rfl (lv_at hl 4 rfl) ?_
  refine lv_iload hx hb dX12_ofRow_10 (lv_at hl 5 rfl) ?_
  have o48 : 0 ≤ base.toInt := by omega
  have o49 : base.toInt ≤ 0 := by omega
  have o50 : -1 ≤ ch9.toInt := by omega
  have o51 : ch9.toInt ≤ 11 := by omega
  have o52 : base.toInt = 0 ∨ 12 ≤ base.toInt := by omega
  refine zy_i (va_runV (As := [.ref (ad 32), .int base, .int ch9]) (rest := []) ⟨hx, hb, hml, hown, hts⟩ (n_baseOf_c l dC dI h ad cl H.size σ base ch9 hI ⟨o48, o49⟩ (show base.toInt = 0 ∨ 12 ≤ base.toInt from o52) ⟨o50, o51⟩) (cwV 3 hts gd_n_ofRow_c_344_n_baseOf_c rfl rfl rfl dd_n_baseOf_c ⟨Nat.le_of_ble_eq_true rfl, Nat.le_of_ble_eq_true rfl⟩) (preV hP hK hD hE (ci := 12) (q0 := 0) rfl rfl) rfl rfl hl.1 rfl (lv_room (Nat.le_of_ble_eq_true rfl)) dX12_ofRow_12 ⟨Nat.le_of_ble_eq_true rfl, Nat.le_of_ble_eq_true rfl⟩) hD hS hA (fun z38_ τ37_ H locs hq hP hD hS => ?_)
  obtain ⟨rfl, f39_, f40_, f41_⟩ := hq
  refine W.widen (k := 0) (n := 0) (Nat.le_of_ble_eq_true rfl) (Nat.le_of_ble_eq_true rfl) ?_
  refine lv_istore (lv' := [(6, .int z38_), (5, .int z35_), (0, .ref h), (1, .int st9), (2, .ref (ad 32)), (3, .int base), (4, .int ch9)]) hx hb dX12_ofRow_15 hl (Nat.le_of_ble_eq_true rfl) rfl (fun ls hl => ?_)
  refine lv_aload_n hx hb dX12_ofRow_17 rfl (lv_at hl 2 rfl) ?_
  refine va_get (D := (dC, dI)) (ci := 12) (v := .ref (ad 14)) (C := RX12) (T := TX12) (N := 59) hx hb hts hin12 hown hK hP 0 rfl rfl 14 (Nat.le_of_ble_eq_true rfl) (ho (.fieldLink RX12 30 "NearEnoughModel" "rHas" "[I") (List.mem_of_getElem? (i := 5) rfl)) (fun _ h9 => h9) rfl dX12_ofRow_18 ?_
  refine lv_iconst (v := 2) hx hb dX12_ofRow_21 rg_19 ?_
  refine lv_aload_n hx hb dX12_ofRow_22 rfl (lv_at hl 2 rfl) ?_
  refine va_get (D := (dC, dI)) (ci := 12) (v := .int (σ.1 29)) (C := RX12) (T := TX12) (N := 59) hx hb hts hin12 hown hK hP 0 rfl rfl 29 (Nat.le_of_ble_eq_true rfl) (ho (.fieldLink RX12 240 "NearEnoughModel" "bank" "I") (List.mem_of_getElem? (i := 6) rfl)) (fun _ h9 => h9) rfl dX12_ofRow_23 ?_
  have bσ_29 : 0 ≤ (σ.1 29).toInt ∧ (σ.1 29).toInt ≤ 1 := hI.1 29
  refine lv_imul hx hb dX12_ofRow_26 ?_
  refine lv_topi (fun z42_ ez42_ => ?_)
  have o53 : -2147483648 ≤ 2 * (σ.1 29).toInt := by omega
  have o54 : 2 * (σ.1 29).toInt ≤ 2147483647 := by omega
  have tz42_ : z42_.toInt = 2 * (σ.1 29).toInt := ti_mul ez42_ rg_20 rfl o53 o54
  refine lv_aload_n hx hb dX12_ofRow_27 rfl (lv_at hl 2 rfl) ?_
  refine va_get (D := (dC, dI)) (ci := 12) (v := .ref (ad 18)) (C := RX12) (T := TX12) (N := 59) hx hb hts hin12 hown hK hP 0 rfl rfl 18 (Nat.le_of_ble_eq_true rfl) (ho (.fieldLink RX12 42 "NearEnoughModel" "sA" "[I") (List.mem_of_getElem? (i := 1) rfl)) (fun _ h9 => h9) rfl dX12_ofRow_28 ?_
  refine lv_iload hx hb dX12_ofRow_31 (lv_at hl 1 rfl) ?_
  have o55 : 0 ≤ z35_.toInt := by omega
  have o56 : z35_.toInt < ((24 : Nat) : Int) := by omega
  refine va_iald hx hb hK hP 10 9 rfl rfl (ti_inx o55 o56) dX12_ofRow_33 ?_
  refine lv_topi (fun z43_ ez43_ => ?_)
  have gz43_ : z43_.toInt = ((σ.2.1 18) (Int32.toNatClampNeg z35_)).toInt := congrArg Int32.toInt (ez43_.trans (congrFun rfl (Int32.toNatClampNeg z35_)))
  have bz43_ : (-1) ≤ z43_.toInt ∧ z43_.toInt ≤ 11 := by rw [ez43_]; exact (hI.2 18) _ (cl_lt (n := 24) o55 o56)
  refine lv_iadd hx hb dX12_ofRow_34 ?_
  refine lv_topi (fun z44_ ez44_ => ?_)
  have o57 : -2147483648 ≤ z42_.toInt + z43_.toInt := by omega
  have o58 : z42_.toInt + z43_.toInt ≤ 2147483647 := by omega
  have tz44_ : z44_.toInt = z42_.toInt + z43_.toInt := ti_add ez44_ rfl rfl o57 o58
  have o59 : 0 ≤ z44_.toInt := by omega
  have o60 : z44_.toInt < ((4 : Nat) : Int) := by omega
  refine va_iald hx hb hK hP 6 5 rfl rfl (ti_inx o59 o60) dX12_ofRow_35 ?_
  refine lv_topi (fun z45_ ez45_ => ?_)
  have gz45_ : z45_.toInt = ((σ.2.1 14) (Int32.toNatClampNeg z44_)).toInt := congrArg Int32.toInt (ez45_.trans (congrFun rfl (Int32.toNatClampNeg z44_)))
  have bz45_ : 0 ≤ z45_.toInt ∧ z45_.toInt ≤ 6 := by rw [ez45_]; exact (hI.2 14) _ (cl_lt (n := 4) o59 o60)
  refine lv_istore (lv' := [(7, .int z45_), (6, .int z38_), (5, .int z35_), (0, .ref h), (1, .int st9), (2, .ref (ad 32)), (3, .int base), (4, .int ch9)]) hx hb dX12_ofRow_36 hl (Nat.le_of_ble_eq_true rfl) rfl (fun ls hl => ?_)
  refine lv_aload_n hx hb dX12_ofRow_38 rfl (lv_at hl 3 rfl) ?_
  refine lv_iload hx hb dX12_ofRow_39 (lv_at hl 7 rfl) ?_
  refine lv_iconst (v := 5) hx hb dX12_ofRow_41 rg_14 ?_
  have kk46_ : (5 : Int32).toInt = 5 := rg_15
  refine zy_i (va_runV (As := [.int ch9, .int 5]) (rest := []) ⟨hx, hb, hml, hown, hts⟩ (n_isOn l dC dI h ad cl H.size σ ch9 5 hI ⟨o50, o51⟩) (cwV 2 hts gd_n_ofRow_c_340_n_isOn rfl rfl rfl dd_n_isOn ⟨Nat.le_of_ble_eq_true rfl, Nat.le_of_ble_eq_true rfl⟩) (preV hP hK hD hE (ci := 12) (q0 := 0) rfl rfl) rfl rfl hl.1 rfl (lv_room (Nat.le_of_ble_eq_true rfl)) dX12_ofRow_42 ⟨Nat.le_of_ble_eq_true rfl, Nat.le_of_ble_eq_true rfl⟩) hD hS hA (fun z48_ τ47_ H locs hq hP hD hS => ?_)
  obtain ⟨rfl, f49_⟩ := hq
  refine W.widen (k := 0) (n := 0) (Nat.le_of_ble_eq_true rfl) (Nat.le_of_ble_eq_true rfl) ?_
  refine lv_if_eq (tgt := 63) hx hb dX12_ofRow_45 rfl (fun c50_ => ?_) (fun c50_ => ?_)
  · have tc50_ := (show z48_.toInt = 0 from ti_eq rfl rg_11 c50_)
    refine lv_iload hx hb dX12_ofRow_63 (lv_at hl 0 rfl) ?_
    refine lv_istore (lv' := [(8, .int z45_), (7, .int z45_), (6, .int z38_), (5, .int z35_), (0, .ref h), (1, .int st9), (2, .ref (ad 32)), (3, .int base), (4, .int ch9)]) hx hb dX12_ofRow_65 hl (Nat.le_of_ble_eq_true rfl) rfl (fun ls hl => ?_)
    have o61 : 0 ≤ z43_.toInt := by omega
    have o62 : z44_.toInt = 2 * (σ.1 29).toInt + z43_.toInt := by omega
    have QN51_ : z44_.toNatClampNeg = 2 * (σ.1 29).toNatClampNeg + (σ.2.1 18 (12 * (σ.1 29).toNatClampNeg + st9.toNatClampNeg)).toNatClampNeg := by rw [← Xz35_, ← ez43_]; exact row_x (hI.1 29).1 o61 o62
    have N51_ : z45_ = ofA (σ.1 29).toNatClampNeg (cor σ) st9.toNatClampNeg := by rw [ez45_, QN51_]; rfl
    have BN51_ : 1 ≤ z45_.toInt := by rw [N51_]; exact hrw.2.2
    have o63 : 0 ≤ z38_.toInt ∧ z38_.toInt ≤ 0 := by omega
    have o64 : 1 ≤ z45_.toInt ∧ z45_.toInt ≤ 6 := by omega
    have o65 : ¬ (0 ≤ ch9.toInt ∧ (σ.2.1 34 (Int32.toNatClampNeg ch9)).toInt = 5) := by omega
    exact pt_67  z35_ z38_ z45_ z45_ _ _ _ Xz35_ f39_ (show 0 ≤ z38_.toInt ∧ z38_.toInt ≤ 0 from o63) N51_ (show 1 ≤ z45_.toInt ∧ z45_.toInt ≤ 6 from o64) o47 hra (has_n (T := cor σ) (show ¬ (0 ≤ ch9.toInt ∧ (σ.2.1 34 (Int32.toNatClampNeg ch9)).toInt = 5) from o65)) (show 1 ≤ z45_.toInt ∧ z45_.toInt ≤ 6 from o64) hP hD hS (lv_sub hl [4, 5, 6, 7, 8, 3, 2, 1, 0] rfl)
  · have tc50_ := (show z48_.toInt ≠ 0 from ti_ne rfl rg_11 c50_)
    refine lv_iload hx hb dX12_ofRow_48 (lv_at hl 0 rfl) ?_
    refine lv_aload_n hx hb dX12_ofRow_50 rfl (lv_at hl 3 rfl) ?_
    refine va_get (D := (dC, dI)) (ci := 12) (v := .ref (ad 35)) (C := RX12) (T := TX12) (N := 59) hx hb hts hin12 hown hK hP 0 rfl rfl 35 (Nat.le_of_ble_eq_true rfl) (ho (.fieldLink RX12 88 "NearEnoughModel" "cN" "[I") (List.mem_of_getElem? (i := 4) rfl)) (fun _ h9 => h9) rfl dX12_ofRow_51 ?_
    refine lv_iload hx hb dX12_ofRow_54 (lv_at hl 7 rfl) ?_
    have o66 : 0 ≤ ch9.toInt := by omega
    have o67 : ch9.toInt < ((12 : Nat) : Int) := by omega
    refine va_iald hx hb hK hP 25 24 rfl rfl (ti_inx o66 o67) dX12_ofRow_56 ?_
    refine lv_topi (fun z52_ ez52_ => ?_)
    have gz52_ : z52_.toInt = ((σ.2.1 35) (Int32.toNatClampNeg ch9)).toInt := congrArg Int32.toInt (ez52_.trans (congrFun rfl (Int32.toNatClampNeg ch9)))
    have bz52_ : 0 ≤ z52_.toInt ∧ z52_.toInt ≤ 99 := by rw [ez52_]; exact (hI.2 35) _ (cl_lt (n := 12) o66 o67)
    refine zs_i (va_runS (As := [.int z45_, .int z52_]) (rest := []) ⟨hx, hb, hml, hown, hts⟩ (n_least2 l dC dI z45_ z52_  H.size) (va_cwS 2 hts gd_n_ofRow_c_348_n_least2 rfl rfl rfl dd_n_least2 ⟨Nat.le_of_ble_eq_true rfl, Nat.le_of_ble_eq_true rfl⟩) (preS (A := A) empP (hK.sub (tys' := []) [] rfl) empD hE) rfl rfl hl.1 rfl (lv_room (Nat.le_of_ble_eq_true rfl)) dX12_ofRow_57 ⟨Nat.le_of_ble_eq_true rfl, Nat.le_of_ble_eq_true rfl⟩) hP hD hS hA (fun z53_ H locs hq hP hD hS => ?_)
    obtain ⟨f54_, f55_, f56_⟩ := hq
    refine W.widen (k := 0) (n := 0) (Nat.le_of_ble_eq_true rfl) (Nat.le_of_ble_eq_true rfl) ?_
    refine lv_goto (tgt := 65) hx hb dX12_ofRow_60 rfl ?_
    refine lv_istore (lv' := [(8, .int z53_), (7, .int z45_), (6, .int z38_), (5, .int z35_), (0, .ref h), (1, .int st9), (2, .ref (ad 32)), (3, .int base), (4, .int ch9)]) hx hb dX12_ofRow_65 hl (Nat.le_of_ble_eq_true rfl) rfl (fun ls hl => ?_)
    have o68 : 0 ≤ z43_.toInt := by omega
    have o69 : z44_.toInt = 2 * (σ.1 29).toInt + z43_.toInt := by omega
    have QN57_ : z44_.toNatClampNeg = 2 * (σ.1 29).toNatClampNeg + (σ.2.1 18 (12 * (σ.1 29).toNatClampNeg + st9.toNatClampNeg)).toNatClampNeg := by rw [← Xz35_, ← ez43_]; exact row_x (hI.1 29).1 o68 o69
    have N57_ : z45_ = ofA (σ.1 29).toNatClampNeg (cor σ) st9.toNatClampNeg := by rw [ez45_, QN57_]; rfl
    have BN57_ : 1 ≤ z45_.toInt := by rw [N57_]; exact hrw.2.2
    have o70 : z53_.toInt ≤ z45_.toInt := by omega
    have o71 : z53_.toInt ≤ (σ.2.1 35 (Int32.toNatClampNeg ch9)).toInt := by omega
    have o72 : 0 ≤ z38_.toInt ∧ z38_.toInt ≤ 0 := by omega
    have o73 : 1 ≤ z45_.toInt ∧ z45_.toInt ≤ 6 := by omega
    have o74 : 0 ≤ ch9.toInt ∧ (σ.2.1 34 (Int32.toNatClampNeg ch9)).toInt = 5 := by omega
    have o75 : z53_.toInt = z45_.toInt ∨ z53_.toInt = (σ.2.1 35 (Int32.toNatClampNeg ch9)).toInt := by omega
    have o76 : 1 ≤ z53_.toInt ∧ z53_.toInt ≤ 6 := by omega
    exact pt_67  z35_ z38_ z45_ z53_ _ _ _ Xz35_ f39_ (show 0 ≤ z38_.toInt ∧ z38_.toInt ≤ 0 from o72) N57_ (show 1 ≤ z45_.toInt ∧ z45_.toInt ≤ 6 from o73) o47 hra (has_y (T := cor σ) (show 0 ≤ ch9.toInt ∧ (σ.2.1 34 (Int32.toNatClampNeg ch9)).toInt = 5 from o74) (show z53_.toInt = z45_.toInt ∨ z53_.toInt = (σ.2.1 35 (Int32.toNatClampNeg ch9)).toInt from o75) o70 o71) (show 1 ≤ z53_.toInt ∧ z53_.toInt ≤ 6 from o76) hP hD hS (lv_sub hl [4, 5, 6, 7, 8, 3, 2, 1, 0] rfl)

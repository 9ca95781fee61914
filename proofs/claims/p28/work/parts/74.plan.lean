theorem dX12_layPlan_136 : decode cX12_layPlan 136 = .ok (.iload 6, 2) := by decide +kernel
theorem dX12_layPlan_138 : decode cX12_layPlan 138 = .ok (.iconst 1, 1) := by decide +kernel
theorem dX12_layPlan_139 : decode cX12_layPlan 139 = .ok (.aload_n 0, 1) := by decide +kernel
theorem dX12_layPlan_140 : decode cX12_layPlan 140 = .ok (.getfield 252, 3) := by decide +kernel
theorem dX12_layPlan_143 : decode cX12_layPlan 143 = .ok (.ishl, 1) := by decide +kernel
theorem dX12_layPlan_144 : decode cX12_layPlan 144 = .ok (.if_icmp .ge 86, 3) := by decide +kernel
theorem dX12_layPlan_230 : decode cX12_layPlan 230 = .ok (.aload_n 0, 1) := by decide +kernel
theorem dX12_layPlan_231 : decode cX12_layPlan 231 = .ok (.getfield 125, 3) := by decide +kernel
theorem dX12_layPlan_234 : decode cX12_layPlan 234 = .ok (.sipush 401, 3) := by decide +kernel
theorem dX12_layPlan_237 : decode cX12_layPlan 237 = .ok (.iload_n 3, 1) := by decide +kernel
theorem dX12_layPlan_238 : decode cX12_layPlan 238 = .ok (.imul, 1) := by decide +kernel
theorem dX12_layPlan_239 : decode cX12_layPlan 239 = .ok (.iload 4, 2) := by decide +kernel
theorem dX12_layPlan_241 : decode cX12_layPlan 241 = .ok (.iadd, 1) := by decide +kernel
theorem dX12_layPlan_242 : decode cX12_layPlan 242 = .ok (.iload 5, 2) := by decide +kernel
theorem dX12_layPlan_244 : decode cX12_layPlan 244 = .ok (.iastore, 1) := by decide +kernel
theorem dX12_layPlan_245 : decode cX12_layPlan 245 = .ok (.iinc 4 1, 3) := by decide +kernel
theorem dX12_layPlan_248 : decode cX12_layPlan 248 = .ok (.goto (-124), 3) := by decide +kernel
theorem dX12_layPlan_147 : decode cX12_layPlan 147 = .ok (.aload_n 0, 1) := by decide +kernel
theorem dX12_layPlan_148 : decode cX12_layPlan 148 = .ok (.getfield 131, 3) := by decide +kernel
theorem dX12_layPlan_151 : decode cX12_layPlan 151 = .ok (.iload 6, 2) := by decide +kernel
theorem dX12_layPlan_153 : decode cX12_layPlan 153 = .ok (.iaload, 1) := by decide +kernel
theorem dX12_layPlan_154 : decode cX12_layPlan 154 = .ok (.iload 4, 2) := by decide +kernel
theorem dX12_layPlan_156 : decode cX12_layPlan 156 = .ok (.if_icmp .le 6, 3) := by decide +kernel
theorem dX12_layPlan_162 : decode cX12_layPlan 162 = .ok (.aload_n 0, 1) := by decide +kernel
theorem dX12_layPlan_163 : decode cX12_layPlan 163 = .ok (.getfield 134, 3) := by decide +kernel
theorem dX12_layPlan_166 : decode cX12_layPlan 166 = .ok (.iload 6, 2) := by decide +kernel
theorem dX12_layPlan_168 : decode cX12_layPlan 168 = .ok (.iaload, 1) := by decide +kernel
theorem dX12_layPlan_169 : decode cX12_layPlan 169 = .ok (.aload_n 0, 1) := by decide +kernel
theorem dX12_layPlan_170 : decode cX12_layPlan 170 = .ok (.getfield 125, 3) := by decide +kernel
theorem dX12_layPlan_173 : decode cX12_layPlan 173 = .ok (.sipush 401, 3) := by decide +kernel
theorem dX12_layPlan_176 : decode cX12_layPlan 176 = .ok (.iload_n 3, 1) := by decide +kernel
theorem dX12_layPlan_177 : decode cX12_layPlan 177 = .ok (.iconst 1, 1) := by decide +kernel
theorem dX12_layPlan_178 : decode cX12_layPlan 178 = .ok (.iadd, 1) := by decide +kernel
theorem dX12_layPlan_179 : decode cX12_layPlan 179 = .ok (.imul, 1) := by decide +kernel
theorem dX12_layPlan_180 : decode cX12_layPlan 180 = .ok (.iload 4, 2) := by decide +kernel
theorem dX12_layPlan_182 : decode cX12_layPlan 182 = .ok (.iadd, 1) := by decide +kernel
theorem dX12_layPlan_183 : decode cX12_layPlan 183 = .ok (.aload_n 0, 1) := by decide +kernel
theorem dX12_layPlan_184 : decode cX12_layPlan 184 = .ok (.getfield 131, 3) := by decide +kernel
theorem dX12_layPlan_187 : decode cX12_layPlan 187 = .ok (.iload 6, 2) := by decide +kernel
theorem dX12_layPlan_189 : decode cX12_layPlan 189 = .ok (.iaload, 1) := by decide +kernel
theorem dX12_layPlan_190 : decode cX12_layPlan 190 = .ok (.isub, 1) := by decide +kernel
theorem dX12_layPlan_191 : decode cX12_layPlan 191 = .ok (.iaload, 1) := by decide +kernel
theorem dX12_layPlan_192 : decode cX12_layPlan 192 = .ok (.iadd, 1) := by decide +kernel
theorem dX12_layPlan_193 : decode cX12_layPlan 193 = .ok (.istore 7, 2) := by decide +kernel
theorem dX12_layPlan_195 : decode cX12_layPlan 195 = .ok (.iload 7, 2) := by decide +kernel
theorem dX12_layPlan_197 : decode cX12_layPlan 197 = .ok (.iload 5, 2) := by decide +kernel
theorem dX12_layPlan_199 : decode cX12_layPlan 199 = .ok (.if_icmp .gt 6, 3) := by decide +kernel
theorem dX12_layPlan_205 : decode cX12_layPlan 205 = .ok (.iload 7, 2) := by decide +kernel
theorem dX12_layPlan_207 : decode cX12_layPlan 207 = .ok (.istore 5, 2) := by decide +kernel
theorem dX12_layPlan_209 : decode cX12_layPlan 209 = .ok (.aload_n 0, 1) := by decide +kernel
theorem dX12_layPlan_210 : decode cX12_layPlan 210 = .ok (.getfield 128, 3) := by decide +kernel
theorem dX12_layPlan_213 : decode cX12_layPlan 213 = .ok (.sipush 401, 3) := by decide +kernel
theorem dX12_layPlan_216 : decode cX12_layPlan 216 = .ok (.iload_n 3, 1) := by decide +kernel
theorem dX12_layPlan_217 : decode cX12_layPlan 217 = .ok (.imul, 1) := by decide +kernel
theorem dX12_layPlan_218 : decode cX12_layPlan 218 = .ok (.iload 4, 2) := by decide +kernel
theorem dX12_layPlan_220 : decode cX12_layPlan 220 = .ok (.iadd, 1) := by decide +kernel
theorem dX12_layPlan_221 : decode cX12_layPlan 221 = .ok (.iload 6, 2) := by decide +kernel
theorem dX12_layPlan_223 : decode cX12_layPlan 223 = .ok (.iastore, 1) := by decide +kernel
theorem dX12_layPlan_224 : decode cX12_layPlan 224 = .ok (.iinc 6 1, 3) := by decide +kernel
theorem dX12_layPlan_227 : decode cX12_layPlan 227 = .ok (.goto (-91), 3) := by decide +kernel
theorem dX12_layPlan_202 : decode cX12_layPlan 202 = .ok (.goto 22, 3) := by decide +kernel
theorem dX12_layPlan_159 : decode cX12_layPlan 159 = .ok (.goto 65, 3) := by decide +kernel
theorem dX12_layPlan_124 : decode cX12_layPlan 124 = .ok (.iload 4, 2) := by decide +kernel
theorem dX12_layPlan_126 : decode cX12_layPlan 126 = .ok (.iload_n 2, 1) := by decide +kernel
theorem dX12_layPlan_127 : decode cX12_layPlan 127 = .ok (.if_icmp .gt 124, 3) := by decide +kernel
theorem dX12_layPlan_251 : decode cX12_layPlan 251 = .ok (.iinc 3 (-1), 3) := by decide +kernel
theorem dX12_layPlan_254 : decode cX12_layPlan 254 = .ok (.goto (-218), 3) := by decide +kernel
theorem dX12_layPlan_130 : decode cX12_layPlan 130 = .ok (.iconst (-1), 1) := by decide +kernel
theorem dX12_layPlan_131 : decode cX12_layPlan 131 = .ok (.istore 5, 2) := by decide +kernel
theorem dX12_layPlan_133 : decode cX12_layPlan 133 = .ok (.iconst 0, 1) := by decide +kernel
theorem dX12_layPlan_134 : decode cX12_layPlan 134 = .ok (.istore 6, 2) := by decide +kernel
theorem dX12_layPlan_43 : decode cX12_layPlan 43 = .ok (.iload 4, 2) := by decide +kernel
theorem dX12_layPlan_45 : decode cX12_layPlan 45 = .ok (.iconst 1, 1) := by decide +kernel
theorem dX12_layPlan_46 : decode cX12_layPlan 46 = .ok (.aload_n 0, 1) := by decide +kernel
theorem dX12_layPlan_47 : decode cX12_layPlan 47 = .ok (.getfield 252, 3) := by decide +kernel
theorem dX12_layPlan_50 : decode cX12_layPlan 50 = .ok (.ishl, 1) := by decide +kernel
theorem dX12_layPlan_51 : decode cX12_layPlan 51 = .ok (.if_icmp .ge 70, 3) := by decide +kernel
theorem dX12_layPlan_121 : decode cX12_layPlan 121 = .ok (.iconst 0, 1) := by decide +kernel
theorem dX12_layPlan_122 : decode cX12_layPlan 122 = .ok (.istore 4, 2) := by decide +kernel
theorem dX12_layPlan_54 : decode cX12_layPlan 54 = .ok (.aload_n 0, 1) := by decide +kernel
theorem dX12_layPlan_55 : decode cX12_layPlan 55 = .ok (.iload 4, 2) := by decide +kernel
theorem dX12_layPlan_57 : decode cX12_layPlan 57 = .ok (.invokevirtual 370, 3) := by decide +kernel
theorem dX12_layPlan_60 : decode cX12_layPlan 60 = .ok (.ifCond .eq 12, 3) := by decide +kernel
theorem dX12_layPlan_72 : decode cX12_layPlan 72 = .ok (.ldc2_w 481, 3) := by decide +kernel
theorem dX12_layPlan_75 : decode cX12_layPlan 75 = .ok (.lstore 5, 2) := by decide +kernel
theorem dX12_layPlan_77 : decode cX12_layPlan 77 = .ok (.aload_n 0, 1) := by decide +kernel
theorem dX12_layPlan_78 : decode cX12_layPlan 78 = .ok (.getfield 134, 3) := by decide +kernel
theorem dX12_layPlan_81 : decode cX12_layPlan 81 = .ok (.iload 4, 2) := by decide +kernel
theorem dX12_layPlan_83 : decode cX12_layPlan 83 = .ok (.aload_n 0, 1) := by decide +kernel
theorem dX12_layPlan_84 : decode cX12_layPlan 84 = .ok (.iload 4, 2) := by decide +kernel
theorem dX12_layPlan_86 : decode cX12_layPlan 86 = .ok (.invokevirtual 447, 3) := by decide +kernel
theorem dX12_layPlan_89 : decode cX12_layPlan 89 = .ok (.iastore, 1) := by decide +kernel
theorem dX12_layPlan_90 : decode cX12_layPlan 90 = .ok (.aload_n 0, 1) := by decide +kernel
theorem dX12_layPlan_91 : decode cX12_layPlan 91 = .ok (.getfield 131, 3) := by decide +kernel
theorem dX12_layPlan_94 : decode cX12_layPlan 94 = .ok (.iload 4, 2) := by decide +kernel
theorem dX12_layPlan_96 : decode cX12_layPlan 96 = .ok (.lload 5, 2) := by decide +kernel
theorem dX12_layPlan_98 : decode cX12_layPlan 98 = .ok (.ldc2_w 483, 3) := by decide +kernel
theorem dX12_layPlan_101 : decode cX12_layPlan 101 = .ok (.lcmp, 1) := by decide +kernel
theorem dX12_layPlan_102 : decode cX12_layPlan 102 = .ok (.ifCond .le 9, 3) := by decide +kernel
theorem dX12_layPlan_111 : decode cX12_layPlan 111 = .ok (.lload 5, 2) := by decide +kernel
theorem dX12_layPlan_113 : decode cX12_layPlan 113 = .ok (.l2i, 1) := by decide +kernel
theorem dX12_layPlan_114 : decode cX12_layPlan 114 = .ok (.iastore, 1) := by decide +kernel
theorem dX12_layPlan_115 : decode cX12_layPlan 115 = .ok (.iinc 4 1, 3) := by decide +kernel
theorem dX12_layPlan_118 : decode cX12_layPlan 118 = .ok (.goto (-75), 3) := by decide +kernel
theorem dX12_layPlan_105 : decode cX12_layPlan 105 = .ok (.sipush 401, 3) := by decide +kernel
theorem dX12_layPlan_108 : decode cX12_layPlan 108 = .ok (.goto 6, 3) := by decide +kernel
theorem dX12_layPlan_63 : decode cX12_layPlan 63 = .ok (.aload_n 0, 1) := by decide +kernel
theorem dX12_layPlan_64 : decode cX12_layPlan 64 = .ok (.iload_n 1, 1) := by decide +kernel
theorem dX12_layPlan_65 : decode cX12_layPlan 65 = .ok (.iload_n 3, 1) := by decide +kernel
theorem dX12_layPlan_66 : decode cX12_layPlan 66 = .ok (.invokevirtual 438, 3) := by decide +kernel
theorem dX12_layPlan_69 : decode cX12_layPlan 69 = .ok (.goto 6, 3) := by decide +kernel
theorem dX12_layPlan_36 : decode cX12_layPlan 36 = .ok (.iload_n 3, 1) := by decide +kernel
theorem dX12_layPlan_37 : decode cX12_layPlan 37 = .ok (.ifCond .lt 220, 3) := by decide +kernel
theorem dX12_layPlan_257 : decode cX12_layPlan 257 = .ok (.return_, 1) := by decide +kernel
theorem dX12_layPlan_40 : decode cX12_layPlan 40 = .ok (.iconst 0, 1) := by decide +kernel
theorem dX12_layPlan_41 : decode cX12_layPlan 41 = .ok (.istore 4, 2) := by decide +kernel
theorem dX12_layPlan_2 : decode cX12_layPlan 2 = .ok (.iload_n 3, 1) := by decide +kernel
theorem dX12_layPlan_3 : decode cX12_layPlan 3 = .ok (.iload_n 2, 1) := by decide +kernel
theorem dX12_layPlan_4 : decode cX12_layPlan 4 = .ok (.if_icmp .gt 25, 3) := by decide +kernel
theorem dX12_layPlan_29 : decode cX12_layPlan 29 = .ok (.aload_n 0, 1) := by decide +kernel
theorem dX12_layPlan_30 : decode cX12_layPlan 30 = .ok (.getfield 249, 3) := by decide +kernel
theorem dX12_layPlan_33 : decode cX12_layPlan 33 = .ok (.iconst 1, 1) := by decide +kernel
theorem dX12_layPlan_34 : decode cX12_layPlan 34 = .ok (.isub, 1) := by decide +kernel
theorem dX12_layPlan_35 : decode cX12_layPlan 35 = .ok (.istore_n 3, 1) := by decide +kernel
theorem dX12_layPlan_7 : decode cX12_layPlan 7 = .ok (.aload_n 0, 1) := by decide +kernel
theorem dX12_layPlan_8 : decode cX12_layPlan 8 = .ok (.getfield 125, 3) := by decide +kernel
theorem dX12_layPlan_11 : decode cX12_layPlan 11 = .ok (.sipush 401, 3) := by decide +kernel
theorem dX12_layPlan_14 : decode cX12_layPlan 14 = .ok (.aload_n 0, 1) := by decide +kernel
theorem dX12_layPlan_15 : decode cX12_layPlan 15 = .ok (.getfield 249, 3) := by decide +kernel
theorem dX12_layPlan_18 : decode cX12_layPlan 18 = .ok (.imul, 1) := by decide +kernel
theorem dX12_layPlan_19 : decode cX12_layPlan 19 = .ok (.iload_n 3, 1) := by decide +kernel
theorem dX12_layPlan_20 : decode cX12_layPlan 20 = .ok (.iadd, 1) := by decide +kernel
theorem dX12_layPlan_21 : decode cX12_layPlan 21 = .ok (.iconst 0, 1) := by decide +kernel
theorem dX12_layPlan_22 : decode cX12_layPlan 22 = .ok (.iastore, 1) := by decide +kernel
theorem dX12_layPlan_23 : decode cX12_layPlan 23 = .ok (.iinc 3 1, 3) := by decide +kernel
theorem dX12_layPlan_26 : decode cX12_layPlan 26 = .ok (.goto (-24), 3) := by decide +kernel
theorem dX12_layPlan_0 : decode cX12_layPlan 0 = .ok (.iconst 0, 1) := by decide +kernel
theorem dX12_layPlan_1 : decode cX12_layPlan 1 = .ok (.istore_n 3, 1) := by decide +kernel
theorem rx_a0035c103e : Int32.ofInt 401 = 401 := by decide
theorem rx_50eca79386 : (401 : Int32).toInt = 401 := by decide
theorem rx_559c38e74e : 54 ∈ [37, 41, 42, 43, 44, 45, 46, 32, 47, 48, 49, 54, 55, 56, 57] := by decide
theorem rx_5cbe5b2d14 : 55 ≠ 54 := by decide
theorem rx_916ded7f6e : 56 ≠ 54 := by decide
theorem rx_17569f6ac6 : 57 ≠ 54 := by decide
theorem rx_b016062a00 : 55 ∈ [37, 41, 42, 43, 44, 45, 46, 32, 47, 48, 49, 54, 55, 56, 57] := by decide
theorem rx_9cc3f67994 : 54 ≠ 55 := by decide
theorem rx_39b3e84813 : 56 ≠ 55 := by decide
theorem rx_e2ef42c814 : 57 ≠ 55 := by decide
theorem rx_2be8130d53 : -1 ≤ (-1 : Int32).toInt ∧ ((0 : Int32).toInt = 0 → (-1 : Int32).toInt = -1) := by decide
theorem rx_c667dea151 : ¬ 1 ≤ (0 : Int32).toInt := by decide
theorem rx_2b878e8575 : 57 ∈ [37, 41, 42, 43, 44, 45, 46, 32, 47, 48, 49, 54, 55, 56, 57] := by decide
theorem rx_4828444b43 : 56 ∈ [37, 41, 42, 43, 44, 45, 46, 32, 47, 48, 49, 54, 55, 56, 57] := by decide
theorem rx_07a55a4d84 : 54 ≠ 56 := by decide
theorem rx_d84d829f81 : 54 ≠ 57 := by decide
theorem rx_c90d7ca091 : 54 ∉ [37, 43, 44, 45, 46] := by decide
theorem rx_1d7750b3fb : 55 ≠ 56 := by decide
theorem rx_2ebcb98d75 : 55 ≠ 57 := by decide
theorem rx_9af7f06f33 : 55 ∉ [37, 43, 44, 45, 46] := by decide
theorem rx_e77ab29e14 : 56 ≠ 57 := by decide
theorem rx_4d72a0ed90 : 56 ∉ [37, 43, 44, 45, 46] := by decide
theorem rx_37f59e8005 : 57 ≠ 56 := by decide
theorem rx_c0c71ea6a2 : 57 ∉ [37, 43, 44, 45, 46] := by decide
theorem rx_4df55eb723 : 40 ∉ [42, 41] := by decide
theorem rx_dc7f379244 : ∀ p ∈ [37, 41, 42, 43, 44, 45, 46, 32, 47, 48, 49, 54, 55, 56, 57], ¬ ((11 ≤ p ∧ p ≤ 24) ∨ (33 ≤ p ∧ p ≤ 36)) := by intro p h; simp at h; omega
theorem rx_855be26bc0 : ∀ p ∈ [37, 41, 42, 43, 44, 45, 46, 32, 47, 48, 49, 54, 55, 56, 57], ¬ (p = 27 ∨ p = 28) := by intro p h; simp at h; omega
theorem rx_741c22981e : 31 ∉ [37, 41, 42, 43, 44, 45, 46, 32, 47, 48, 49, 54, 55, 56, 57] := by decide
theorem rx_6b504fed07 : 54 ∉ [42, 41] := by decide
theorem rx_3fa7054373 : 55 ∉ [42, 41] := by decide
theorem rx_1c28f5c324 : 56 ∉ [42, 41] := by decide
theorem rx_8e440e4b86 : 57 ∉ [42, 41] := by decide
theorem rx_9eb8630438 : (400 : Int64).toInt = 400 := by decide
def ow_n_layPlan : List Cond := [.fieldLink RX12 252 "NearEnoughModel" "changes" "I", .fieldLink RX12 125 "NearEnoughModel" "mostSaved" "[I", .fieldLink RX12 131 "NearEnoughModel" "fars" "[I", .fieldLink RX12 134 "NearEnoughModel" "savedAll" "[I", .fieldLink RX12 128 "NearEnoughModel" "picked" "[I", .constantLong RX12 481 (401), .constantLong RX12 483 (400), .fieldLink RX12 249 "NearEnoughModel" "sheets" "I"]
def vs_n_layPlan : List Cond := .code yX12_layPlan cX12_layPlan 8 none :: (ow_n_layPlan ++ (([.methodLink RX12 370 yX12_isOpen, .instanceMethod yX12_isOpen, .selects RX12 yX12_isOpen yX12_isOpen, .initialized RX12] : List Cond) ++ (vs_n_isOpen ++ (([.methodLink RX12 447 yX12_savedBy, .instanceMethod yX12_savedBy, .selects RX12 yX12_savedBy yX12_savedBy, .initialized RX12] : List Cond) ++ (vs_n_savedByV ++ (([.methodLink RX12 438 yX12_farOn, .instanceMethod yX12_farOn, .selects RX12 yX12_farOn yX12_farOn, .initialized RX12] : List Cond) ++ (vs_n_farOn ++ (wsX120))))))))
theorem vg_n_layPlan : vs_n_layPlan.all goodWord = true := by decide +kernel
theorem dd_n_layPlan : yX12_layPlan.cls = RX12 ∧ yX12_layPlan.cls ≠ "java/lang/invoke/MethodHandle" ∧ yX12_layPlan.cls ≠ "java/lang/invoke/VarHandle" ∧ (parseMethodDescriptor yX12_layPlan.desc).map (fun d => d.parameters.length) = some 2 := by decide +kernel
def rm_n_layPlan : Room := { frames := 7, cells := 0, slots := 0, locals := 180 }
theorem gd_n_layPlan_370_n_isOpen : GoodIn vs_n_layPlan (wsV RX12 370 RX12 yX12_isOpen vs_n_isOpen) := goodIn_app (goodIn_sub (fun w h => (List.mem_cons_of_mem _ (List.mem_append_right _ (List.mem_append_left _ h)))) (by decide +kernel)) (goodIn_sub (fun w h => (List.mem_cons_of_mem _ (List.mem_append_right _ (List.mem_append_right _ (List.mem_append_left _ h))))) vg_n_isOpen)
theorem gd_n_layPlan_447_n_savedByV : GoodIn vs_n_layPlan (wsV RX12 447 RX12 yX12_savedBy vs_n_savedByV) := goodIn_app (goodIn_sub (fun w h => (List.mem_cons_of_mem _ (List.mem_append_right _ (List.mem_append_right _ (List.mem_append_right _ (List.mem_append_left _ h)))))) (by decide +kernel)) (goodIn_sub (fun w h => (List.mem_cons_of_mem _ (List.mem_append_right _ (List.mem_append_right _ (List.mem_append_right _ (List.mem_append_right _ (List.mem_append_left _ h))))))) vg_n_savedByV)
theorem gd_n_layPlan_438_n_farOn : GoodIn vs_n_layPlan (wsV RX12 438 RX12 yX12_farOn vs_n_farOn) := goodIn_app (goodIn_sub (fun w h => (List.mem_cons_of_mem _ (List.mem_append_right _ (List.mem_append_right _ (List.mem_append_right _ (List.mem_append_right _ (List.mem_append_right _ (List.mem_append_left _ h)))))))) (by decide +kernel)) (goodIn_sub (fun w h => (List.mem_cons_of_mem _ (List.mem_append_right _ (List.mem_append_right _ (List.mem_append_right _ (List.mem_append_right _ (List.mem_append_right _ (List.mem_append_right _ (List.mem_append_left _ h))))))))) vg_n_farOn)
set_option maxHeartbeats 4000000 in
set_option maxRecDepth 100000 in
theorem n_layPlan (l : Launch) (dC : Nat → ClassId) (dI : Nat → Nat → Nat) (h : Nat) (ad : Nat → Nat) (cl : Nat → ClassId) (sz : Nat) (σ : MS) (x : Int32) (y : Int32) (hI : Inv σ) (hRI : RI σ) (he : EndOk σ x) (hm : 0 ≤ y.toInt ∧ y.toInt ≤ 400) : Met l yX12_layPlan vs_n_layPlan rm_n_layPlan (va_Pc [.ref h, .int x, .int y] (wSt dC dI (mW h ad cl σ) (mT cl) sz)) (va_Qv (fun (τ : MS) => Inv τ ∧ eqx [37, 41, 42, 43, 44, 45, 46, 32, 47, 48, 49, 54, 55, 56, 57] τ σ ∧ PlanI σ x y.toInt (-1) τ) (fun (τ : MS) => wEn dC dI (va_A (mW h ad cl σ) sz) (mW h ad cl τ) []) (va_A (mW h ad cl σ) sz)) 0 0 (va_A (mW h ad cl σ) sz) := by
  refine Met.ofW (cc := cX12_layPlan) (maxL := 8) (ret := none) (by decide) rfl ?_
  intro p e s m args below meth c s₁ B hml hv
  obtain ⟨rfl, hsz, hP, hK, hD0, hE⟩ := hv
  have hx := B.exec
  have hb := B.bytes
  have hr := B.returns
  have hts := atoms_spec (ws := vs_n_layPlan) B.pre
  have hown : s.vm.findClass RX12 = some m.cls := findClass_of_methodNamed B.named
  have hlocks := B.notSynchronized
  subst hsz
  have hD := hD0.self (sz := s.heap.size)
  generalize hAe : va_A (mW h ad cl σ) s.heap.size = A at hD ⊢
  have hA : ∀ q : Nat, s.heap.size ≤ q → A q := fun q h => by rw [← hAe]; exact Or.inr h
  have hl := lv_entry ([.ref h, .int x, .int y]) (n := 8) (Nat.le_of_ble_eq_true rfl)
  rw [lg_entry_eq]
  generalize (lg_sl ([.ref h, .int x, .int y]) ++ List.replicate (8 - (lg_sl ([.ref h, .int x, .int y])).length) Slot.unset).toArray = ls at hl ⊢
  have hl : lv_has ls 8 [(0, .ref h), (1, .int x), (2, .int y)] := hl
  have ho := fun w (h : w ∈ ow_n_layPlan) => hts w (List.mem_cons_of_mem _ (List.mem_append_left _ h))
  have hin12 : ∀ w ∈ u_ws RX12 TX12 59, w ∈ vs_n_layPlan := fun w h => (List.mem_cons_of_mem _ (List.mem_append_right _ (List.mem_append_right _ (List.mem_append_right _ (List.mem_append_right _ (List.mem_append_right _ (List.mem_append_right _ (List.mem_append_right _ h))))))))
  refine zQ (fun Q hQ => ?_)
  have hR : RelP σ (σ.1 29).toNatClampNeg := hRI.1
  have hC : ChR σ := hRI.2.2.1
  have he0 := he
  unfold EndOk at he0
  have pt_36 : ∀ (n36 : Nat) (τ : MS) (iv : Int32) (H : Heap) (locs : List Loc) (ls : Array Slot), (iv.toInt + 1).toNat < n36 → (Inv τ) → (eqx [37, 41, 42, 43, 44, 45, 46, 32, 47, 48, 49, 54, 55, 56, 57] τ σ) → (-1 ≤ iv.toInt ∧ iv.toInt < (σ.1 39).toInt) → (PlanI σ x y.toInt iv.toInt τ) → va_P (dC, dI) vwCl (mW h ad cl τ) H → va_D A (mW h ad cl τ) → va_S A s.heap H locs → lv_has ls 8 [(0, .ref h), (1, .int x), (2, .int y), (3, .int iv)] → W p l e (headSpec vs_n_layPlan rm_n_layPlan).room s m #[Value.ref h, Value.int x, Value.int y] below meth c H locs 0 0 Q (F0 m 36 ls []) := by
    intro n36
    induction n36 with
    | zero => intro τ iv H locs ls hn36 hIτ hxτ hiv hpl hP hD hS hl; exact absurd hn36 (Nat.not_lt_zero _)
    | succ n36 ih36 =>
      intro τ iv H locs ls hn36 hIτ hxτ hiv hpl hP hD hS hl
      have bτ_39 : 0 ≤ (τ.1 39).toInt ∧ (τ.1 39).toInt ≤ 40 := hIτ.1 39
      have qq1_ : (τ.1 39).toInt = ((σ.1 39) : Int32).toInt := congrArg Int32.toInt (((hxτ 39 rg_582).1))
      have bτ_40 : 0 ≤ (τ.1 40).toInt ∧ (τ.1 40).toInt ≤ 12 := hIτ.1 40
      have qq2_ : (τ.1 40).toInt = ((σ.1 40) : Int32).toInt := congrArg Int32.toInt (((hxτ 40 rg_588).1))
      have pt_124 : ∀ (n124 : Nat) (φ : MS) (bv : Int32) (n9 : Nat) (H : Heap) (locs : List Loc) (ls : Array Slot), (402 - bv.toInt).toNat < n124 → (Inv φ) → (eqx [37, 41, 42, 43, 44, 45, 46, 32, 47, 48, 49, 54, 55, 56, 57] φ σ) → (0 ≤ bv.toInt) → (0 ≤ iv.toInt ∧ iv.toInt ≤ 39 ∧ iv.toInt < (σ.1 39).toInt) → (PlanI σ x y.toInt iv.toInt φ) → (FarsI σ x iv.toNatClampNeg n9 φ) → ((1 <<< (σ.1 40 &&& 31) : Int32).toInt ≤ (n9 : Int)) → (RowI σ x iv.toNatClampNeg bv.toNatClampNeg φ) → va_P (dC, dI) vwCl (mW h ad cl φ) H → va_D A (mW h ad cl φ) → va_S A s.heap H locs → lv_has ls 8 [(0, .ref h), (1, .int x), (2, .int y), (3, .int iv), (4, .int bv)] → W p l e (headSpec vs_n_layPlan rm_n_layPlan).room s m #[Value.ref h, Value.int x, Value.int y] below meth c H locs 0 0 Q (F0 m 124 ls []) := by
        intro n124
        induction n124 with
        | zero => intro φ bv n9 H locs ls hn124 hIφ hxφ hk0φ hivφ hplφ hfaφ hnφ hroφ hP hD hS hl; exact absurd hn124 (Nat.not_lt_zero _)
        | succ n124 ih124 =>
          intro φ bv n9 H locs ls hn124 hIφ hxφ hk0φ hivφ hplφ hfaφ hnφ hroφ hP hD hS hl
          have bφ_39 : 0 ≤ (φ.1 39).toInt ∧ (φ.1 39).toInt ≤ 40 := hIφ.1 39
          have qq3_ : (φ.1 39).toInt = ((σ.1 39) : Int32).toInt := congrArg Int32.toInt (((hxφ 39 rg_582).1))
          have bφ_40 : 0 ≤ (φ.1 40).toInt ∧ (φ.1 40).toInt ≤ 12 := hIφ.1 40
          have qq4_ : (φ.1 40).toInt = ((σ.1 40) : Int32).toInt := congrArg Int32.toInt (((hxφ 40 rg_588).1))
          have pt_136 : ∀ (n136 : Nat) (ψ : MS) (mv : Int32) (cv : Int32) (H : Heap) (locs : List Loc) (ls : Array Slot), (4096 - cv.toInt).toNat < n136 → (Inv ψ) → (eqx [37, 41, 42, 43, 44, 45, 46, 32, 47, 48, 49, 54, 55, 56, 57] ψ σ) → (0 ≤ cv.toInt) → (0 ≤ iv.toInt ∧ iv.toInt ≤ 39 ∧ iv.toInt < (σ.1 39).toInt) → (0 ≤ bv.toInt ∧ bv.toInt ≤ y.toInt) → (PlanI σ x y.toInt iv.toInt ψ) → (FarsI σ x iv.toNatClampNeg n9 ψ) → ((1 <<< (σ.1 40 &&& 31) : Int32).toInt ≤ (n9 : Int)) → (RowI σ x iv.toNatClampNeg bv.toNatClampNeg ψ) → ((-1 ≤ mv.toInt ∧ (cv.toInt = 0 → mv.toInt = -1)) ∧ (1 ≤ cv.toInt → 0 ≤ mv.toInt ∧ PkOk σ x iv.toNatClampNeg bv.toNatClampNeg (ψ.2.1 55 (401 * iv.toNatClampNeg + bv.toNatClampNeg)))) → va_P (dC, dI) vwCl (mW h ad cl ψ) H → va_D A (mW h ad cl ψ) → va_S A s.heap H locs → lv_has ls 8 [(0, .ref h), (1, .int x), (2, .int y), (3, .int iv), (4, .int bv), (5, .int mv), (6, .int cv)] → W p l e (headSpec vs_n_layPlan rm_n_layPlan).room s m #[Value.ref h, Value.int x, Value.int y] below meth c H locs 0 0 Q (F0 m 136 ls []) := by
            intro n136
            induction n136 with
            | zero => intro ψ mv cv H locs ls hn136 hIψ hxψ hk0ψ hivψ hbvψ hplψ hfaψ hnψ hroψ hmvψ hP hD hS hl; exact absurd hn136 (Nat.not_lt_zero _)
            | succ n136 ih136 =>
              intro ψ mv cv H locs ls hn136 hIψ hxψ hk0ψ hivψ hbvψ hplψ hfaψ hnψ hroψ hmvψ hP hD hS hl
              have bψ_39 : 0 ≤ (ψ.1 39).toInt ∧ (ψ.1 39).toInt ≤ 40 := hIψ.1 39
              have qq5_ : (ψ.1 39).toInt = ((σ.1 39) : Int32).toInt := congrArg Int32.toInt (((hxψ 39 rg_582).1))
              have bψ_40 : 0 ≤ (ψ.1 40).toInt ∧ (ψ.1 40).toInt ≤ 12 := hIψ.1 40
              have qq6_ : (ψ.1 40).toInt = ((σ.1 40) : Int32).toInt := congrArg Int32.toInt (((hxψ 40 rg_588).1))
              have hm1_ := hmvψ.1
              refine lv_iload hx hb dX12_layPlan_136 (lv_at hl 6 rfl) ?_
              refine lv_iconst (v := 1) hx hb dX12_layPlan_138 rg_6 ?_
              refine lv_aload_n hx hb dX12_layPlan_139 rfl (lv_at hl 0 rfl) ?_
              refine va_get (D := (dC, dI)) (ci := 12) (v := .int (ψ.1 40)) (C := RX12) (T := TX12) (N := 59) hx hb hts hin12 hown hK hP 0 rfl rfl 40 (Nat.le_of_ble_eq_true rfl) (ho (.fieldLink RX12 252 "NearEnoughModel" "changes" "I") (List.mem_of_getElem? (i := 0) rfl)) (fun _ h9 => h9) rfl dX12_layPlan_140 ?_
              refine zi (v := (σ.1 40)) ((hxψ 40 rg_588).1) ?_
              have bb7_ : 0 ≤ (σ.1 40).toInt ∧ (σ.1 40).toInt ≤ 12 := by have h9 := hIψ.1 40; rw [show (ψ.1 40) = (σ.1 40) from ((hxψ 40 rg_588).1)] at h9; exact h9
              refine lv_ishl hx hb dX12_layPlan_143 ?_
              refine lv_topi (fun z8_ ez8_ => ?_)
              have o1 : 0 ≤ (σ.1 40).toInt := by omega
              have o2 : (σ.1 40).toInt ≤ 12 := by omega
              have bz8_ := shl_bd ez8_ o1 o2
              refine lv_icmp_ge (tgt := 230) hx hb dX12_layPlan_144 rfl (fun c9_ => ?_) (fun c9_ => ?_)
              · have tc9_ := (show z8_.toInt ≤ cv.toInt from ti_le rfl rfl c9_)
                refine lv_aload_n hx hb dX12_layPlan_230 rfl (lv_at hl 0 rfl) ?_
                refine va_get (D := (dC, dI)) (ci := 12) (v := .ref (ad 54)) (C := RX12) (T := TX12) (N := 59) hx hb hts hin12 hown hK hP 0 rfl rfl 54 (Nat.le_of_ble_eq_true rfl) (ho (.fieldLink RX12 125 "NearEnoughModel" "mostSaved" "[I") (List.mem_of_getElem? (i := 1) rfl)) (fun _ h9 => h9) rfl dX12_layPlan_231 ?_
                refine lv_sipush (v := 401) hx hb dX12_layPlan_234 rx_a0035c103e ?_
                refine lv_iload_n hx hb dX12_layPlan_237 rfl (lv_at hl 3 rfl) ?_
                refine lv_imul hx hb dX12_layPlan_238 ?_
                refine lv_topi (fun z10_ ez10_ => ?_)
                have o3 : -2147483648 ≤ 401 * iv.toInt := by omega
                have o4 : 401 * iv.toInt ≤ 2147483647 := by omega
                have tz10_ : z10_.toInt = 401 * iv.toInt := ti_mul ez10_ rx_50eca79386 rfl o3 o4
                refine lv_iload hx hb dX12_layPlan_239 (lv_at hl 4 rfl) ?_
                refine lv_iadd hx hb dX12_layPlan_241 ?_
                refine lv_topi (fun z11_ ez11_ => ?_)
                have o5 : -2147483648 ≤ z10_.toInt + bv.toInt := by omega
                have o6 : z10_.toInt + bv.toInt ≤ 2147483647 := by omega
                have tz11_ : z11_.toInt = z10_.toInt + bv.toInt := ti_add ez11_ rfl rfl o5 o6
                refine lv_iload hx hb dX12_layPlan_242 (lv_at hl 5 rfl) ?_
                have o7 : 0 ≤ z11_.toInt := by omega
                have o8 : z11_.toInt < ((16441 : Nat) : Int) := by omega
                refine va_iast hx hb hK hP hD hS 37 36 rfl rfl (ti_inx o7 o8) dX12_layPlan_244 (fun H locs hP hD hS => ?_)
                rw [wS54] at hP hD
                obtain ⟨τ12_, eτ12_⟩ : ∃ x9 : MS, x9 = sA ψ 54 (upd (ψ.2.1 54) (Int32.toNatClampNeg z11_) mv) := ⟨_, rfl⟩
                have hP : va_P (dC, dI) vwCl (mW h ad cl τ12_) H := by rw [eτ12_]; exact hP
                have hD : va_D A (mW h ad cl τ12_) := by rw [eτ12_]; exact hD
                have hIτ12_ : Inv τ12_ := by rw [eτ12_]; exact (Inv_sA1 hIψ (fun j _ => Inv.any _))
                have Xτ12_ : eqx [37, 41, 42, 43, 44, 45, 46, 32, 47, 48, 49, 54, 55, 56, 57] τ12_ σ := (eqx.eq eτ12_ (eqx.sA hxψ rx_559c38e74e))
                have qq13_ : (τ12_.1 39).toInt = ((σ.1 39) : Int32).toInt := congrArg Int32.toInt ((show τ12_.1 39 = (σ.1 39) from (congrArg (fun x9 : MS => x9.1 39) eτ12_).trans ((hxψ 39 rg_582).1)))
                have qq14_ : (τ12_.1 40).toInt = ((σ.1 40) : Int32).toInt := congrArg Int32.toInt ((show τ12_.1 40 = (σ.1 40) from (congrArg (fun x9 : MS => x9.1 40) eτ12_).trans ((hxψ 40 rg_588).1)))
                obtain ⟨z15_, ez15_⟩ : ∃ y : Int32, y = bv + 1 := ⟨_, rfl⟩
                have o9 : -2147483648 ≤ bv.toInt + 1 := by omega
                have o10 : bv.toInt + 1 ≤ 2147483647 := by omega
                have tz15_ := ti_add ez15_ rfl rg_18 o9 o10
                refine lv_iinc (v := z15_) (lv' := [(4, .int z15_), (0, .ref h), (1, .int x), (2, .int y), (3, .int iv), (5, .int mv), (6, .int cv)]) hx hb dX12_layPlan_245 hl (k := 4) rfl (iincp ez15_ rg_6) (Nat.le_of_ble_eq_true rfl) rfl (fun ls hl => ?_)
                refine lv_goto (tgt := 124) hx hb dX12_layPlan_248 rfl ?_
                have C54 : (τ12_).2.1 54 = (upd (ψ.2.1 54) (Int32.toNatClampNeg z11_) mv) := ((congrArg (fun x9 : MS => x9.2.1 54) eτ12_).trans (tAe.trans (congrArg (fun f9 => (upd f9 (Int32.toNatClampNeg z11_) mv)) rfl)))
                have C55 : (τ12_).2.1 55 = (ψ.2.1 55) := ((congrArg (fun x9 : MS => x9.2.1 55) eτ12_).trans ((tA rx_5cbe5b2d14).trans rfl))
                have C56 : (τ12_).2.1 56 = (ψ.2.1 56) := ((congrArg (fun x9 : MS => x9.2.1 56) eτ12_).trans ((tA rx_916ded7f6e).trans rfl))
                have C57 : (τ12_).2.1 57 = (ψ.2.1 57) := ((congrArg (fun x9 : MS => x9.2.1 57) eτ12_).trans ((tA rx_17569f6ac6).trans rfl))
                have o11 : 0 ≤ iv.toInt := by omega
                have qiv_ := ti_cl (x := iv) rfl o11
                have o12 : 0 ≤ bv.toInt := by omega
                have qbv_ := ti_cl (x := bv) rfl o12
                have qz_ := ti_cl (x := z11_) rfl o7
                have V_ : z11_.toNatClampNeg = 401 * iv.toNatClampNeg + bv.toNatClampNeg := by omega
                rw [V_] at C54
                have o13 : 1 ≤ cv.toInt := by omega
                have mv_ := hmvψ.2 o13
                have o14 : z15_.toInt = bv.toInt + 1 := by omega
                have N16_ : RowI σ x iv.toNatClampNeg z15_.toNatClampNeg (τ12_) := by rw [cl_succ o12 o14]; exact RowI.snoc hroψ C54 C55 mv_.1 mv_.2
                have o15 : 0 ≤ z15_.toInt := by omega
                have o16 : bv.toNatClampNeg ≤ 400 := by omega
                have o17 : y.toInt ≤ 400 := by omega
                have o18 : (402 - z15_.toInt).toNat < n124 := by omega
                exact ih124 τ12_ z15_ n9 _ _ _ (show (402 - z15_.toInt).toNat < n124 from o18) hIτ12_ Xτ12_ o15 hivψ (by have h8 := PlanI.most (i := iv.toNatClampNeg) (by rw [qiv_]; exact hplψ) o16 o17 C54 C55; rw [qiv_] at h8; exact h8) (FarsI.cg hfaψ C56 C57) hnψ N16_ hP hD hS (lv_sub hl [1, 2, 3, 4, 0] rfl)
              · have tc9_ := (show cv.toInt < z8_.toInt from ti_nle rfl rfl c9_)
                refine lv_aload_n hx hb dX12_layPlan_147 rfl (lv_at hl 0 rfl) ?_
                have o19 : 0 ≤ bv.toInt := by omega
                have qbv_ := ti_cl (x := bv) rfl o19
                have o20 : 0 ≤ cv.toInt := by omega
                have qcv_ := ti_cl (x := cv) rfl o20
                have o21 : 0 ≤ iv.toInt := by omega
                have qiv_ := ti_cl (x := iv) rfl o21
                have zz_ : z8_.toInt = (1 <<< (σ.1 40 &&& 31) : Int32).toInt := congrArg Int32.toInt ez8_
                have f0_ : cv.toInt = 0 → (ψ.2.1 56 (Int32.toNatClampNeg cv)).toInt = 0 ∧ ψ.2.1 57 (Int32.toNatClampNeg cv) = 0 := fun h9 => (hfaψ cv.toNatClampNeg (by omega)).2 (by omega)
                have f0a_ : cv.toInt = 0 → (ψ.2.1 56 (Int32.toNatClampNeg cv)).toInt = 0 := fun h9 => (f0_ h9).1
                refine va_get (D := (dC, dI)) (ci := 12) (v := .ref (ad 56)) (C := RX12) (T := TX12) (N := 59) hx hb hts hin12 hown hK hP 0 rfl rfl 56 (Nat.le_of_ble_eq_true rfl) (ho (.fieldLink RX12 131 "NearEnoughModel" "fars" "[I") (List.mem_of_getElem? (i := 2) rfl)) (fun _ h9 => h9) rfl dX12_layPlan_148 ?_
                refine lv_iload hx hb dX12_layPlan_151 (lv_at hl 6 rfl) ?_
                have o22 : cv.toInt < ((4096 : Nat) : Int) := by omega
                refine va_iald hx hb hK hP 39 38 rfl rfl (ti_inx o20 o22) dX12_layPlan_153 ?_
                refine lv_topi (fun z17_ ez17_ => ?_)
                have gz17_ : z17_.toInt = ((ψ.2.1 56) (Int32.toNatClampNeg cv)).toInt := congrArg Int32.toInt (ez17_.trans (congrFun rfl (Int32.toNatClampNeg cv)))
                refine lv_iload hx hb dX12_layPlan_154 (lv_at hl 4 rfl) ?_
                refine lv_icmp_le (tgt := 162) hx hb dX12_layPlan_156 rfl (fun c18_ => ?_) (fun c18_ => ?_)
                · have tc18_ := (show z17_.toInt ≤ bv.toInt from ti_le rfl rfl c18_)
                  have o23 : cv.toNatClampNeg < n9 := by omega
                  have o24 : (ψ.2.1 56 (Int32.toNatClampNeg cv)).toInt ≤ ((bv.toNatClampNeg : Nat) : Int) := by omega
                  have o25 : bv.toNatClampNeg ≤ 400 := by omega
                  have pk_ := PkOk.of (b := bv.toNatClampNeg) (c := cv.toNatClampNeg) hfaψ o23 o24 o25
                  have pk0_ := pk_.2
                  refine lv_aload_n hx hb dX12_layPlan_162 rfl (lv_at hl 0 rfl) ?_
                  refine va_get (D := (dC, dI)) (ci := 12) (v := .ref (ad 57)) (C := RX12) (T := TX12) (N := 59) hx hb hts hin12 hown hK hP 0 rfl rfl 57 (Nat.le_of_ble_eq_true rfl) (ho (.fieldLink RX12 134 "NearEnoughModel" "savedAll" "[I") (List.mem_of_getElem? (i := 3) rfl)) (fun _ h9 => h9) rfl dX12_layPlan_163 ?_
                  refine lv_iload hx hb dX12_layPlan_166 (lv_at hl 6 rfl) ?_
                  refine va_iald hx hb hK hP 40 39 rfl rfl (ti_inx o20 o22) dX12_layPlan_168 ?_
                  refine lv_topi (fun z19_ ez19_ => ?_)
                  have gz19_ : z19_.toInt = ((ψ.2.1 57) (Int32.toNatClampNeg cv)).toInt := congrArg Int32.toInt (ez19_.trans (congrFun rfl (Int32.toNatClampNeg cv)))
                  refine lv_aload_n hx hb dX12_layPlan_169 rfl (lv_at hl 0 rfl) ?_
                  refine va_get (D := (dC, dI)) (ci := 12) (v := .ref (ad 54)) (C := RX12) (T := TX12) (N := 59) hx hb hts hin12 hown hK hP 0 rfl rfl 54 (Nat.le_of_ble_eq_true rfl) (ho (.fieldLink RX12 125 "NearEnoughModel" "mostSaved" "[I") (List.mem_of_getElem? (i := 1) rfl)) (fun _ h9 => h9) rfl dX12_layPlan_170 ?_
                  refine lv_sipush (v := 401) hx hb dX12_layPlan_173 rx_a0035c103e ?_
                  refine lv_iload_n hx hb dX12_layPlan_176 rfl (lv_at hl 3 rfl) ?_
                  refine lv_iconst (v := 1) hx hb dX12_layPlan_177 rg_6 ?_
                  refine lv_iadd hx hb dX12_layPlan_178 ?_
                  refine lv_topi (fun z20_ ez20_ => ?_)
                  have o26 : -2147483648 ≤ iv.toInt + 1 := by omega
                  have o27 : iv.toInt + 1 ≤ 2147483647 := by omega
                  have tz20_ : z20_.toInt = iv.toInt + 1 := ti_add ez20_ rfl rg_18 o26 o27
                  refine lv_imul hx hb dX12_layPlan_179 ?_
                  refine lv_topi (fun z21_ ez21_ => ?_)
                  have o28 : -2147483648 ≤ 401 * z20_.toInt := by omega
                  have o29 : 401 * z20_.toInt ≤ 2147483647 := by omega
                  have tz21_ : z21_.toInt = 401 * z20_.toInt := ti_mul ez21_ rx_50eca79386 rfl o28 o29
                  refine lv_iload hx hb dX12_layPlan_180 (lv_at hl 4 rfl) ?_
                  refine lv_iadd hx hb dX12_layPlan_182 ?_
                  refine lv_topi (fun z22_ ez22_ => ?_)
                  have o30 : -2147483648 ≤ z21_.toInt + bv.toInt := by omega
                  have o31 : z21_.toInt + bv.toInt ≤ 2147483647 := by omega
                  have tz22_ : z22_.toInt = z21_.toInt + bv.toInt := ti_add ez22_ rfl rfl o30 o31
                  refine lv_aload_n hx hb dX12_layPlan_183 rfl (lv_at hl 0 rfl) ?_
                  refine va_get (D := (dC, dI)) (ci := 12) (v := .ref (ad 56)) (C := RX12) (T := TX12) (N := 59) hx hb hts hin12 hown hK hP 0 rfl rfl 56 (Nat.le_of_ble_eq_true rfl) (ho (.fieldLink RX12 131 "NearEnoughModel" "fars" "[I") (List.mem_of_getElem? (i := 2) rfl)) (fun _ h9 => h9) rfl dX12_layPlan_184 ?_
                  refine lv_iload hx hb dX12_layPlan_187 (lv_at hl 6 rfl) ?_
                  refine va_iald hx hb hK hP 39 38 rfl rfl (ti_inx o20 o22) dX12_layPlan_189 ?_
                  refine lv_topi (fun z23_ ez23_ => ?_)
                  have qq24_ : z23_.toInt = z17_.toInt := congrArg Int32.toInt ((ez23_.trans (congrFun rfl (Int32.toNatClampNeg cv))).trans ((ez17_.trans (congrFun rfl (Int32.toNatClampNeg cv)))).symm)
                  have gz23_ : z23_.toInt = ((ψ.2.1 56) (Int32.toNatClampNeg cv)).toInt := congrArg Int32.toInt (ez23_.trans (congrFun rfl (Int32.toNatClampNeg cv)))
                  refine lv_isub hx hb dX12_layPlan_190 ?_
                  refine lv_topi (fun z25_ ez25_ => ?_)
                  have o32 : -2147483648 ≤ z22_.toInt - z23_.toInt := by omega
                  have o33 : z22_.toInt - z23_.toInt ≤ 2147483647 := by omega
                  have tz25_ : z25_.toInt = z22_.toInt - z23_.toInt := ti_sub ez25_ rfl rfl o32 o33
                  have o34 : 0 ≤ z25_.toInt := by omega
                  have o35 : z25_.toInt < ((16441 : Nat) : Int) := by omega
                  refine va_iald hx hb hK hP 37 36 rfl rfl (ti_inx o34 o35) dX12_layPlan_191 ?_
                  refine lv_topi (fun z26_ ez26_ => ?_)
                  have gz26_ : z26_.toInt = ((ψ.2.1 54) (Int32.toNatClampNeg z25_)).toInt := congrArg Int32.toInt (ez26_.trans (congrFun rfl (Int32.toNatClampNeg z25_)))
                  refine lv_iadd hx hb dX12_layPlan_192 ?_
                  refine lv_topi (fun z27_ ez27_ => ?_)
                  refine lv_istore (lv' := [(7, .int z27_), (0, .ref h), (1, .int x), (2, .int y), (3, .int iv), (4, .int bv), (5, .int mv), (6, .int cv)]) hx hb dX12_layPlan_193 hl (Nat.le_of_ble_eq_true rfl) rfl (fun ls hl => ?_)
                  have qm_ := ti_cl (x := z25_) rfl o34
                  have m0_ : 0 ≤ (ψ.2.1 54 (Int32.toNatClampNeg z25_)).toInt ∨ 1 ≤ cv.toInt := by by_cases h9 : cv.toInt = 0; (left; have h8 := hplψ.1 bv.toNatClampNeg (iv.toNatClampNeg + 1) (by omega) (by omega); rw [show 401 * (iv.toNatClampNeg + 1) + bv.toNatClampNeg = Int32.toNatClampNeg z25_ by have h7 := f0a_ h9; omega] at h8; exact h8); (right; omega)
                  have v0_ : cv.toInt = 0 → z27_.toInt = z26_.toInt := fun h9 => congrArg Int32.toInt (by rw [ez27_, ez19_, (f0_ h9).2]; exact Int32.zero_add _)
                  refine lv_iload hx hb dX12_layPlan_195 (lv_at hl 0 rfl) ?_
                  refine lv_iload hx hb dX12_layPlan_197 (lv_at hl 6 rfl) ?_
                  refine lv_icmp_gt (tgt := 205) hx hb dX12_layPlan_199 rfl (fun c28_ => ?_) (fun c28_ => ?_)
                  · have tc28_ := (show mv.toInt < z27_.toInt from ti_lt rfl rfl c28_)
                    refine lv_iload hx hb dX12_layPlan_205 (lv_at hl 0 rfl) ?_
                    refine lv_istore (lv' := [(5, .int z27_), (7, .int z27_), (0, .ref h), (1, .int x), (2, .int y), (3, .int iv), (4, .int bv), (6, .int cv)]) hx hb dX12_layPlan_207 hl (Nat.le_of_ble_eq_true rfl) rfl (fun ls hl => ?_)
                    refine lv_aload_n hx hb dX12_layPlan_209 rfl (lv_at hl 2 rfl) ?_
                    refine va_get (D := (dC, dI)) (ci := 12) (v := .ref (ad 55)) (C := RX12) (T := TX12) (N := 59) hx hb hts hin12 hown hK hP 0 rfl rfl 55 (Nat.le_of_ble_eq_true rfl) (ho (.fieldLink RX12 128 "NearEnoughModel" "picked" "[I") (List.mem_of_getElem? (i := 4) rfl)) (fun _ h9 => h9) rfl dX12_layPlan_210 ?_
                    refine lv_sipush (v := 401) hx hb dX12_layPlan_213 rx_a0035c103e ?_
                    refine lv_iload_n hx hb dX12_layPlan_216 rfl (lv_at hl 5 rfl) ?_
                    refine lv_imul hx hb dX12_layPlan_217 ?_
                    refine lv_topi (fun z29_ ez29_ => ?_)
                    have o36 : -2147483648 ≤ 401 * iv.toInt := by omega
                    have o37 : 401 * iv.toInt ≤ 2147483647 := by omega
                    have tz29_ : z29_.toInt = 401 * iv.toInt := ti_mul ez29_ rx_50eca79386 rfl o36 o37
                    refine lv_iload hx hb dX12_layPlan_218 (lv_at hl 6 rfl) ?_
                    refine lv_iadd hx hb dX12_layPlan_220 ?_
                    refine lv_topi (fun z30_ ez30_ => ?_)
                    have o38 : -2147483648 ≤ z29_.toInt + bv.toInt := by omega
                    have o39 : z29_.toInt + bv.toInt ≤ 2147483647 := by omega
                    have tz30_ : z30_.toInt = z29_.toInt + bv.toInt := ti_add ez30_ rfl rfl o38 o39
                    refine lv_iload hx hb dX12_layPlan_221 (lv_at hl 7 rfl) ?_
                    have o40 : 0 ≤ z30_.toInt := by omega
                    have o41 : z30_.toInt < ((16441 : Nat) : Int) := by omega
                    refine va_iast hx hb hK hP hD hS 38 37 rfl rfl (ti_inx o40 o41) dX12_layPlan_223 (fun H locs hP hD hS => ?_)
                    rw [wS55] at hP hD
                    obtain ⟨τ31_, eτ31_⟩ : ∃ x9 : MS, x9 = sA ψ 55 (upd (ψ.2.1 55) (Int32.toNatClampNeg z30_) cv) := ⟨_, rfl⟩
                    have hP : va_P (dC, dI) vwCl (mW h ad cl τ31_) H := by rw [eτ31_]; exact hP
                    have hD : va_D A (mW h ad cl τ31_) := by rw [eτ31_]; exact hD
                    have hIτ31_ : Inv τ31_ := by rw [eτ31_]; exact (Inv_sA1 hIψ (fun j _ => Inv.any _))
                    have Xτ31_ : eqx [37, 41, 42, 43, 44, 45, 46, 32, 47, 48, 49, 54, 55, 56, 57] τ31_ σ := (eqx.eq eτ31_ (eqx.sA hxψ rx_b016062a00))
                    have qq32_ : (τ31_.1 39).toInt = ((σ.1 39) : Int32).toInt := congrArg Int32.toInt ((show τ31_.1 39 = (σ.1 39) from (congrArg (fun x9 : MS => x9.1 39) eτ31_).trans ((hxψ 39 rg_582).1)))
                    have qq33_ : (τ31_.1 40).toInt = ((σ.1 40) : Int32).toInt := congrArg Int32.toInt ((show τ31_.1 40 = (σ.1 40) from (congrArg (fun x9 : MS => x9.1 40) eτ31_).trans ((hxψ 40 rg_588).1)))
                    obtain ⟨z34_, ez34_⟩ : ∃ y : Int32, y = cv + 1 := ⟨_, rfl⟩
                    have o42 : -2147483648 ≤ cv.toInt + 1 := by omega
                    have o43 : cv.toInt + 1 ≤ 2147483647 := by omega
                    have tz34_ := ti_add ez34_ rfl rg_18 o42 o43
                    refine lv_iinc (v := z34_) (lv' := [(6, .int z34_), (5, .int z27_), (7, .int z27_), (0, .ref h), (1, .int x), (2, .int y), (3, .int iv), (4, .int bv)]) hx hb dX12_layPlan_224 hl (k := 7) rfl (iincp ez34_ rg_6) (Nat.le_of_ble_eq_true rfl) rfl (fun ls hl => ?_)
                    refine lv_goto (tgt := 136) hx hb dX12_layPlan_227 rfl ?_
                    have C54 : (τ31_).2.1 54 = (ψ.2.1 54) := ((congrArg (fun x9 : MS => x9.2.1 54) eτ31_).trans ((tA rx_9cc3f67994).trans rfl))
                    have C55 : (τ31_).2.1 55 = (upd (ψ.2.1 55) (Int32.toNatClampNeg z30_) cv) := ((congrArg (fun x9 : MS => x9.2.1 55) eτ31_).trans (tAe.trans (congrArg (fun f9 => (upd f9 (Int32.toNatClampNeg z30_) cv)) rfl)))
                    have C56 : (τ31_).2.1 56 = (ψ.2.1 56) := ((congrArg (fun x9 : MS => x9.2.1 56) eτ31_).trans ((tA rx_39b3e84813).trans rfl))
                    have C57 : (τ31_).2.1 57 = (ψ.2.1 57) := ((congrArg (fun x9 : MS => x9.2.1 57) eτ31_).trans ((tA rx_e2ef42c814).trans rfl))
                    have qiv_ := ti_cl (x := iv) rfl o21
                    have qbv_ := ti_cl (x := bv) rfl o19
                    have qcv_ := ti_cl (x := cv) rfl o20
                    have qz_ := ti_cl (x := z30_) rfl o40
                    have V_ : z30_.toNatClampNeg = 401 * iv.toNatClampNeg + bv.toNatClampNeg := by omega
                    rw [V_] at C55
                    have o44 : -1 ≤ z27_.toInt := by omega
                    have o45 : ¬ z34_.toInt = 0 := by omega
                    have o46 : 0 ≤ z27_.toInt := by omega
                    have N35_ : (-1 ≤ z27_.toInt ∧ (z34_.toInt = 0 → z27_.toInt = -1)) ∧ (1 ≤ z34_.toInt → 0 ≤ z27_.toInt ∧ PkOk σ x iv.toNatClampNeg bv.toNatClampNeg ((τ31_).2.1 55 (401 * iv.toNatClampNeg + bv.toNatClampNeg))) := ⟨⟨o44, (fun h9 => absurd h9 o45)⟩, fun _ => ⟨o46, by rw [C55, pk_us]; have h8 := pk_.1; rw [nI_cl hk0ψ] at h8; exact h8⟩⟩
                    have o47 : y.toInt ≤ 400 := by omega
                    have o48 : 0 ≤ z34_.toInt := by omega
                    have o49 : (4096 - z34_.toInt).toNat < n136 := by omega
                    exact ih136 τ31_ z27_ z34_ _ _ _ (show (4096 - z34_.toInt).toNat < n136 from o49) hIτ31_ Xτ31_ o48 hivψ hbvψ (by have h8 := PlanI.pick (i := iv.toNatClampNeg) (by rw [qiv_]; exact hplψ) o25 o47 C54 C55; rw [qiv_] at h8; exact h8) (FarsI.cg hfaψ C56 C57) hnψ (RowI.pick hroψ C54 C55) N35_ hP hD hS (lv_sub hl [3, 4, 5, 6, 7, 1, 0] rfl)
                  · have tc28_ := (show z27_.toInt ≤ mv.toInt from ti_nlt rfl rfl c28_)
                    refine lv_goto (tgt := 224) hx hb dX12_layPlan_202 rfl ?_
                    obtain ⟨z36_, ez36_⟩ : ∃ y : Int32, y = cv + 1 := ⟨_, rfl⟩
                    have o50 : -2147483648 ≤ cv.toInt + 1 := by omega
                    have o51 : cv.toInt + 1 ≤ 2147483647 := by omega
                    have tz36_ := ti_add ez36_ rfl rg_18 o50 o51
                    refine lv_iinc (v := z36_) (lv' := [(6, .int z36_), (7, .int z27_), (0, .ref h), (1, .int x), (2, .int y), (3, .int iv), (4, .int bv), (5, .int mv)]) hx hb dX12_layPlan_224 hl (k := 7) rfl (iincp ez36_ rg_6) (Nat.le_of_ble_eq_true rfl) rfl (fun ls hl => ?_)
                    refine lv_goto (tgt := 136) hx hb dX12_layPlan_227 rfl ?_
                    have C54 : (ψ).2.1 54 = (ψ.2.1 54) := rfl
                    have C55 : (ψ).2.1 55 = (ψ.2.1 55) := rfl
                    have C56 : (ψ).2.1 56 = (ψ.2.1 56) := rfl
                    have C57 : (ψ).2.1 57 = (ψ.2.1 57) := rfl
                    have qiv_ := ti_cl (x := iv) rfl o21
                    have qbv_ := ti_cl (x := bv) rfl o19
                    have qcv_ := ti_cl (x := cv) rfl o20
                    have o52 : 1 ≤ cv.toInt := by omega
                    have nz_ : 1 ≤ cv.toInt := o52
                    have o53 : -1 ≤ mv.toInt := by omega
                    have o54 : ¬ z36_.toInt = 0 := by omega
                    have N37_ : (-1 ≤ mv.toInt ∧ (z36_.toInt = 0 → mv.toInt = -1)) ∧ (1 ≤ z36_.toInt → 0 ≤ mv.toInt ∧ PkOk σ x iv.toNatClampNeg bv.toNatClampNeg ((ψ).2.1 55 (401 * iv.toNatClampNeg + bv.toNatClampNeg))) := ⟨⟨o53, (fun h9 => absurd h9 o54)⟩, fun _ => by rw [C55]; exact hmvψ.2 nz_⟩
                    have o55 : 0 ≤ z36_.toInt := by omega
                    have o56 : (4096 - z36_.toInt).toNat < n136 := by omega
                    exact ih136 ψ mv z36_ _ _ _ (show (4096 - z36_.toInt).toNat < n136 from o56) hIψ hxψ o55 hivψ hbvψ (PlanI.cg hplψ C54 C55) (FarsI.cg hfaψ C56 C57) hnψ (RowI.cg hroψ C54 C55) N37_ hP hD hS (lv_sub hl [2, 3, 4, 5, 6, 7, 0] rfl)
                · have tc18_ := (show bv.toInt < z17_.toInt from ti_nle rfl rfl c18_)
                  refine lv_goto (tgt := 224) hx hb dX12_layPlan_159 rfl ?_
                  obtain ⟨z38_, ez38_⟩ : ∃ y : Int32, y = cv + 1 := ⟨_, rfl⟩
                  have o57 : -2147483648 ≤ cv.toInt + 1 := by omega
                  have o58 : cv.toInt + 1 ≤ 2147483647 := by omega
                  have tz38_ := ti_add ez38_ rfl rg_18 o57 o58
                  refine lv_iinc (v := z38_) (lv' := [(6, .int z38_), (0, .ref h), (1, .int x), (2, .int y), (3, .int iv), (4, .int bv), (5, .int mv)]) hx hb dX12_layPlan_224 hl (k := 6) rfl (iincp ez38_ rg_6) (Nat.le_of_ble_eq_true rfl) rfl (fun ls hl => ?_)
                  refine lv_goto (tgt := 136) hx hb dX12_layPlan_227 rfl ?_
                  have C54 : (ψ).2.1 54 = (ψ.2.1 54) := rfl
                  have C55 : (ψ).2.1 55 = (ψ.2.1 55) := rfl
                  have C56 : (ψ).2.1 56 = (ψ.2.1 56) := rfl
                  have C57 : (ψ).2.1 57 = (ψ.2.1 57) := rfl
                  have qiv_ := ti_cl (x := iv) rfl o21
                  have qbv_ := ti_cl (x := bv) rfl o19
                  have qcv_ := ti_cl (x := cv) rfl o20
                  have o59 : 1 ≤ cv.toInt := by omega
                  have nz_ : 1 ≤ cv.toInt := o59
                  have o60 : -1 ≤ mv.toInt := by omega
                  have o61 : ¬ z38_.toInt = 0 := by omega
                  have N39_ : (-1 ≤ mv.toInt ∧ (z38_.toInt = 0 → mv.toInt = -1)) ∧ (1 ≤ z38_.toInt → 0 ≤ mv.toInt ∧ PkOk σ x iv.toNatClampNeg bv.toNatClampNeg ((ψ).2.1 55 (401 * iv.toNatClampNeg + bv.toNatClampNeg))) := ⟨⟨o60, (fun h9 => absurd h9 o61)⟩, fun _ => by rw [C55]; exact hmvψ.2 nz_⟩
                  have o62 : 0 ≤ z38_.toInt := by omega
                  have o63 : (4096 - z38_.toInt).toNat < n136 := by omega
                  exact ih136 ψ mv z38_ _ _ _ (show (4096 - z38_.toInt).toNat < n136 from o63) hIψ hxψ o62 hivψ hbvψ (PlanI.cg hplψ C54 C55) (FarsI.cg hfaψ C56 C57) hnψ (RowI.cg hroψ C54 C55) N39_ hP hD hS (lv_sub hl [1, 2, 3, 4, 5, 6, 0] rfl)
          refine lv_iload hx hb dX12_layPlan_124 (lv_at hl 4 rfl) ?_
          refine lv_iload_n hx hb dX12_layPlan_126 rfl (lv_at hl 2 rfl) ?_
          refine lv_icmp_gt (tgt := 251) hx hb dX12_layPlan_127 rfl (fun c40_ => ?_) (fun c40_ => ?_)
          · have tc40_ := (show y.toInt < bv.toInt from ti_lt rfl rfl c40_)
            obtain ⟨z41_, ez41_⟩ : ∃ y : Int32, y = iv + (-1) := ⟨_, rfl⟩
            have o64 : -2147483648 ≤ iv.toInt + (-1) := by omega
            have o65 : iv.toInt + (-1) ≤ 2147483647 := by omega
            have tz41_ := ti_add ez41_ rfl rg_489 o64 o65
            refine lv_iinc (v := z41_) (lv' := [(3, .int z41_), (0, .ref h), (1, .int x), (2, .int y), (4, .int bv)]) hx hb dX12_layPlan_251 hl (k := 3) rfl (iincp ez41_ rg_53) (Nat.le_of_ble_eq_true rfl) rfl (fun ls hl => ?_)
            refine lv_goto (tgt := 36) hx hb dX12_layPlan_254 rfl ?_
            have o66 : 0 ≤ iv.toInt := by omega
            have qiv_ := ti_cl (x := iv) rfl o66
            have o67 : 0 ≤ bv.toInt := by omega
            have qbv_ := ti_cl (x := bv) rfl o67
            have o68 : y.toInt < bv.toInt := by omega
            have o69 : z41_.toInt = iv.toInt - 1 := by omega
            have N42_ : PlanI σ x y.toInt z41_.toInt φ := by have h8 := PlanI.down (by rw [qiv_]; exact hplφ) hroφ (show y.toInt < ((bv.toNatClampNeg : Nat) : Int) by have h7 := o68; omega); rw [show ((iv.toNatClampNeg : Nat) : Int) - 1 = z41_.toInt from by have h7 := o69; omega] at h8; exact h8
            have o70 : (z41_.toInt + 1).toNat < n36 := by omega
            have o71 : -1 ≤ z41_.toInt ∧ z41_.toInt < (σ.1 39).toInt := by omega
            exact ih36 φ z41_ _ _ _ (show (z41_.toInt + 1).toNat < n36 from o70) hIφ hxφ (show -1 ≤ z41_.toInt ∧ z41_.toInt < (σ.1 39).toInt from o71) N42_ hP hD hS (lv_sub hl [1, 2, 3, 0] rfl)
          · have tc40_ := (show bv.toInt ≤ y.toInt from ti_nlt rfl rfl c40_)
            refine lv_iconst (v := (-1)) hx hb dX12_layPlan_130 rg_53 ?_
            refine lv_istore (lv' := [(5, .int (-1)), (0, .ref h), (1, .int x), (2, .int y), (3, .int iv), (4, .int bv)]) hx hb dX12_layPlan_131 hl (Nat.le_of_ble_eq_true rfl) rfl (fun ls hl => ?_)
            refine lv_iconst (v := 0) hx hb dX12_layPlan_133 rg_0 ?_
            refine lv_istore (lv' := [(6, .int 0), (5, .int (-1)), (0, .ref h), (1, .int x), (2, .int y), (3, .int iv), (4, .int bv)]) hx hb dX12_layPlan_134 hl (Nat.le_of_ble_eq_true rfl) rfl (fun ls hl => ?_)
            have o72 : 0 ≤ bv.toInt ∧ bv.toInt ≤ y.toInt := by omega
            exact pt_136 _ φ (-1) 0 _ _ _ (Nat.lt_succ_self _) hIφ hxφ rg_56 hivφ (show 0 ≤ bv.toInt ∧ bv.toInt ≤ y.toInt from o72) hplφ hfaφ hnφ hroφ ⟨rx_2be8130d53, (fun h9 => absurd h9 rx_c667dea151)⟩ hP hD hS (lv_sub hl [2, 3, 4, 5, 6, 1, 0] rfl)
      have pt_43 : ∀ (n43 : Nat) (υ : MS) (cv : Int32) (H : Heap) (locs : List Loc) (ls : Array Slot), (4096 - cv.toInt).toNat < n43 → (Inv υ) → (eqx [37, 41, 42, 43, 44, 45, 46, 32, 47, 48, 49, 54, 55, 56, 57] υ σ) → (0 ≤ cv.toInt) → (0 ≤ iv.toInt ∧ iv.toInt ≤ 39 ∧ iv.toInt < (σ.1 39).toInt) → (PlanI σ x y.toInt iv.toInt υ) → (FarsI σ x iv.toNatClampNeg cv.toNatClampNeg υ) → va_P (dC, dI) vwCl (mW h ad cl υ) H → va_D A (mW h ad cl υ) → va_S A s.heap H locs → lv_has ls 8 [(0, .ref h), (1, .int x), (2, .int y), (3, .int iv), (4, .int cv)] → W p l e (headSpec vs_n_layPlan rm_n_layPlan).room s m #[Value.ref h, Value.int x, Value.int y] below meth c H locs 0 0 Q (F0 m 43 ls []) := by
        intro n43
        induction n43 with
        | zero => intro υ cv H locs ls hn43 hIυ hxυ hk0υ hivυ hplυ hfaυ hP hD hS hl; exact absurd hn43 (Nat.not_lt_zero _)
        | succ n43 ih43 =>
          intro υ cv H locs ls hn43 hIυ hxυ hk0υ hivυ hplυ hfaυ hP hD hS hl
          have bυ_39 : 0 ≤ (υ.1 39).toInt ∧ (υ.1 39).toInt ≤ 40 := hIυ.1 39
          have qq44_ : (υ.1 39).toInt = ((σ.1 39) : Int32).toInt := congrArg Int32.toInt (((hxυ 39 rg_582).1))
          have bυ_40 : 0 ≤ (υ.1 40).toInt ∧ (υ.1 40).toInt ≤ 12 := hIυ.1 40
          have qq45_ : (υ.1 40).toInt = ((σ.1 40) : Int32).toInt := congrArg Int32.toInt (((hxυ 40 rg_588).1))
          refine lv_iload hx hb dX12_layPlan_43 (lv_at hl 4 rfl) ?_
          refine lv_iconst (v := 1) hx hb dX12_layPlan_45 rg_6 ?_
          refine lv_aload_n hx hb dX12_layPlan_46 rfl (lv_at hl 0 rfl) ?_
          refine va_get (D := (dC, dI)) (ci := 12) (v := .int (υ.1 40)) (C := RX12) (T := TX12) (N := 59) hx hb hts hin12 hown hK hP 0 rfl rfl 40 (Nat.le_of_ble_eq_true rfl) (ho (.fieldLink RX12 252 "NearEnoughModel" "changes" "I") (List.mem_of_getElem? (i := 0) rfl)) (fun _ h9 => h9) rfl dX12_layPlan_47 ?_
          refine zi (v := (σ.1 40)) ((hxυ 40 rg_588).1) ?_
          have bb46_ : 0 ≤ (σ.1 40).toInt ∧ (σ.1 40).toInt ≤ 12 := by have h9 := hIυ.1 40; rw [show (υ.1 40) = (σ.1 40) from ((hxυ 40 rg_588).1)] at h9; exact h9
          refine lv_ishl hx hb dX12_layPlan_50 ?_
          refine lv_topi (fun z47_ ez47_ => ?_)
          have o73 : 0 ≤ (σ.1 40).toInt := by omega
          have o74 : (σ.1 40).toInt ≤ 12 := by omega
          have bz47_ := shl_bd ez47_ o73 o74
          refine lv_icmp_ge (tgt := 121) hx hb dX12_layPlan_51 rfl (fun c48_ => ?_) (fun c48_ => ?_)
          · have tc48_ := (show z47_.toInt ≤ cv.toInt from ti_le rfl rfl c48_)
            refine lv_iconst (v := 0) hx hb dX12_layPlan_121 rg_0 ?_
            refine lv_istore (lv' := [(4, .int 0), (0, .ref h), (1, .int x), (2, .int y), (3, .int iv)]) hx hb dX12_layPlan_122 hl (Nat.le_of_ble_eq_true rfl) rfl (fun ls hl => ?_)
            have o75 : 0 ≤ cv.toInt := by omega
            have qcv_ := ti_cl (x := cv) rfl o75
            have o76 : z47_.toInt ≤ cv.toInt := by omega
            have hn_ : (1 <<< (σ.1 40 &&& 31) : Int32).toInt ≤ ((cv.toNatClampNeg : Nat) : Int) := by rw [qcv_, ← ez47_]; exact o76
            exact pt_124 _ υ 0 cv.toNatClampNeg _ _ _ (Nat.lt_succ_self _) hIυ hxυ rg_56 hivυ hplυ hfaυ hn_ (fun b9 h9 => absurd h9 (by rw [show (0 : Int32).toNatClampNeg = 0 from by decide]; exact Nat.not_lt_zero _)) hP hD hS (lv_sub hl [1, 2, 3, 4, 0] rfl)
          · have tc48_ := (show cv.toInt < z47_.toInt from ti_nle rfl rfl c48_)
            refine lv_aload_n hx hb dX12_layPlan_54 rfl (lv_at hl 0 rfl) ?_
            refine lv_iload hx hb dX12_layPlan_55 (lv_at hl 4 rfl) ?_
            refine zy_i (va_runV (As := [.int cv]) (rest := []) ⟨hx, hb, hml, hown, hts⟩ (n_isOpen l dC dI h ad cl H.size υ cv hIυ (RelP.x hR hxυ rg_571 rg_572) (ChR.x hC hxυ rg_571 rg_588 rg_572 rg_589 rg_590 rg_591)) (cwV 1 hts gd_n_layPlan_370_n_isOpen rfl rfl rfl dd_n_isOpen ⟨Nat.le_of_ble_eq_true rfl, Nat.le_of_ble_eq_true rfl⟩) (preV hP hK hD hE (ci := 12) (q0 := 0) rfl rfl) rfl rfl hl.1 rfl (lv_room (Nat.le_of_ble_eq_true rfl)) dX12_layPlan_57 ⟨Nat.le_of_ble_eq_true rfl, Nat.le_of_ble_eq_true rfl⟩) hD hS hA (fun z50_ τ49_ H locs hq hP hD hS => ?_)
            obtain ⟨hI51_, hx52_, f53_⟩ := hq
            have Xτ49_ : eqx [37, 41, 42, 43, 44, 45, 46, 32, 47, 48, 49, 54, 55, 56, 57] τ49_ σ := eqx.tr hx52_ hxυ rg_568
            have qq54_ : (τ49_.1 39).toInt = ((σ.1 39) : Int32).toInt := congrArg Int32.toInt ((show τ49_.1 39 = (σ.1 39) from ((hx52_ 39 rg_570).1).trans ((hxυ 39 rg_582).1)))
            have qq55_ : (τ49_.1 40).toInt = ((σ.1 40) : Int32).toInt := congrArg Int32.toInt ((show τ49_.1 40 = (σ.1 40) from ((hx52_ 40 rg_594).1).trans ((hxυ 40 rg_588).1)))
            refine W.widen (k := 0) (n := 0) (Nat.le_of_ble_eq_true rfl) (Nat.le_of_ble_eq_true rfl) ?_
            refine lv_if_eq (tgt := 72) hx hb dX12_layPlan_60 rfl (fun c56_ => ?_) (fun c56_ => ?_)
            · have tc56_ := (show z50_.toInt = 0 from ti_eq rfl rg_11 c56_)
              have o77 : ¬ z50_.toInt = 1 := by omega
              have NO57_ : NoOpen υ cv := by rcases f53_ with q | q; exact absurd q.1 o77; exact q.2
              refine lv_ldc2 (v := (401)) hx hb hown (ho (.constantLong RX12 481 (401)) (List.mem_of_getElem? (i := 5) rfl)) dX12_layPlan_72 ?_
              refine lv_lstore (lv' := [(5, .long 401), (0, .ref h), (1, .int x), (2, .int y), (3, .int iv), (4, .int cv)]) hx hb dX12_layPlan_75 hl (Nat.le_of_ble_eq_true rfl) rfl (fun ls hl => ?_)
              refine lv_aload_n hx hb dX12_layPlan_77 rfl (lv_at hl 1 rfl) ?_
              refine va_get (D := (dC, dI)) (ci := 12) (v := .ref (ad 57)) (C := RX12) (T := TX12) (N := 59) hx hb hts hin12 hown hK hP 0 rfl rfl 57 (Nat.le_of_ble_eq_true rfl) (ho (.fieldLink RX12 134 "NearEnoughModel" "savedAll" "[I") (List.mem_of_getElem? (i := 3) rfl)) (fun _ h9 => h9) rfl dX12_layPlan_78 ?_
              refine lv_iload hx hb dX12_layPlan_81 (lv_at hl 5 rfl) ?_
              refine lv_aload_n hx hb dX12_layPlan_83 rfl (lv_at hl 1 rfl) ?_
              refine lv_iload hx hb dX12_layPlan_84 (lv_at hl 5 rfl) ?_
              refine zy_i (va_runV (As := [.int cv]) (rest := [.int cv, .ref (ad 57)]) ⟨hx, hb, hml, hown, hts⟩ (n_savedByV l dC dI h ad cl H.size τ49_ cv hI51_) (cwV 1 hts gd_n_layPlan_447_n_savedByV rfl rfl rfl dd_n_savedByV ⟨Nat.le_of_ble_eq_true rfl, Nat.le_of_ble_eq_true rfl⟩) (preV hP hK hD hE (ci := 12) (q0 := 0) rfl rfl) rfl rfl hl.1 rfl (lv_room (Nat.le_of_ble_eq_true rfl)) dX12_layPlan_86 ⟨Nat.le_of_ble_eq_true rfl, Nat.le_of_ble_eq_true rfl⟩) hD hS hA (fun z59_ τ58_ H locs hq hP hD hS => ?_)
              obtain ⟨rfl, f60_⟩ := hq
              refine W.widen (k := 0) (n := 0) (Nat.le_of_ble_eq_true rfl) (Nat.le_of_ble_eq_true rfl) ?_
              have o78 : 0 ≤ cv.toInt := by omega
              have o79 : cv.toInt < ((4096 : Nat) : Int) := by omega
              refine va_iast hx hb hK hP hD hS 40 39 rfl rfl (ti_inx o78 o79) dX12_layPlan_89 (fun H locs hP hD hS => ?_)
              rw [wS57] at hP hD
              obtain ⟨τ61_, eτ61_⟩ : ∃ x9 : MS, x9 = sA τ49_ 57 (upd (τ49_.2.1 57) (Int32.toNatClampNeg cv) z59_) := ⟨_, rfl⟩
              have hP : va_P (dC, dI) vwCl (mW h ad cl τ61_) H := by rw [eτ61_]; exact hP
              have hD : va_D A (mW h ad cl τ61_) := by rw [eτ61_]; exact hD
              have hIτ61_ : Inv τ61_ := by rw [eτ61_]; exact (Inv_sA1 hI51_ (fun j _ => Inv.any _))
              have Xτ61_ : eqx [37, 41, 42, 43, 44, 45, 46, 32, 47, 48, 49, 54, 55, 56, 57] τ61_ σ := (eqx.eq eτ61_ (eqx.sA Xτ49_ rx_2b878e8575))
              have qq62_ : (τ61_.1 39).toInt = ((σ.1 39) : Int32).toInt := congrArg Int32.toInt ((show τ61_.1 39 = (σ.1 39) from (congrArg (fun x9 : MS => x9.1 39) eτ61_).trans (show τ49_.1 39 = (σ.1 39) from ((hx52_ 39 rg_570).1).trans ((hxυ 39 rg_582).1))))
              have qq63_ : (τ61_.1 40).toInt = ((σ.1 40) : Int32).toInt := congrArg Int32.toInt ((show τ61_.1 40 = (σ.1 40) from (congrArg (fun x9 : MS => x9.1 40) eτ61_).trans (show τ49_.1 40 = (σ.1 40) from ((hx52_ 40 rg_594).1).trans ((hxυ 40 rg_588).1))))
              refine lv_aload_n hx hb dX12_layPlan_90 rfl (lv_at hl 1 rfl) ?_
              refine va_get (D := (dC, dI)) (ci := 12) (v := .ref (ad 56)) (C := RX12) (T := TX12) (N := 59) hx hb hts hin12 hown hK hP 0 rfl rfl 56 (Nat.le_of_ble_eq_true rfl) (ho (.fieldLink RX12 131 "NearEnoughModel" "fars" "[I") (List.mem_of_getElem? (i := 2) rfl)) (fun _ h9 => h9) rfl dX12_layPlan_91 ?_
              refine lv_iload hx hb dX12_layPlan_94 (lv_at hl 5 rfl) ?_
              refine lv_lload hx hb dX12_layPlan_96 (lv_at hl 0 rfl) ?_
              refine lv_ldc2 (v := (400)) hx hb hown (ho (.constantLong RX12 483 (400)) (List.mem_of_getElem? (i := 6) rfl)) dX12_layPlan_98 ?_
              refine W.lcmp hx hb dX12_layPlan_101 ?_
              refine lv_topi (fun z64_ ez64_ => ?_)
              refine lv_if_le (tgt := 111) hx hb dX12_layPlan_102 rfl (fun c65_ => ?_) (fun c65_ => ?_)
              · have tc65_ := (show z64_.toInt ≤ 0 from ti_le rfl rg_11 c65_)
                have lc65_ : (401 : Int64) ≤ 400 := (lg_cmp_le 401 400).mp (by rw [← ez64_]; exact c65_)
                refine lv_lload hx hb dX12_layPlan_111 (lv_at hl 0 rfl) ?_
                refine lv_l2i hx hb dX12_layPlan_113 rfl ?_
                refine lv_topi (fun z66_ ez66_ => ?_)
                refine va_iast hx hb hK hP hD hS 39 38 rfl rfl (ti_inx o78 o79) dX12_layPlan_114 (fun H locs hP hD hS => ?_)
                rw [wS56] at hP hD
                obtain ⟨τ67_, eτ67_⟩ : ∃ x9 : MS, x9 = sA τ61_ 56 (upd (τ61_.2.1 56) (Int32.toNatClampNeg cv) z66_) := ⟨_, rfl⟩
                have hP : va_P (dC, dI) vwCl (mW h ad cl τ67_) H := by rw [eτ67_]; exact hP
                have hD : va_D A (mW h ad cl τ67_) := by rw [eτ67_]; exact hD
                have hIτ67_ : Inv τ67_ := by rw [eτ67_]; exact (Inv_sA1 hIτ61_ (fun j _ => Inv.any _))
                have Xτ67_ : eqx [37, 41, 42, 43, 44, 45, 46, 32, 47, 48, 49, 54, 55, 56, 57] τ67_ σ := (eqx.eq eτ67_ (eqx.sA Xτ61_ rx_4828444b43))
                have qq68_ : (τ67_.1 39).toInt = ((σ.1 39) : Int32).toInt := congrArg Int32.toInt ((show τ67_.1 39 = (σ.1 39) from (congrArg (fun x9 : MS => x9.1 39) eτ67_).trans (show τ61_.1 39 = (σ.1 39) from (congrArg (fun x9 : MS => x9.1 39) eτ61_).trans (show τ49_.1 39 = (σ.1 39) from ((hx52_ 39 rg_570).1).trans ((hxυ 39 rg_582).1)))))
                have qq69_ : (τ67_.1 40).toInt = ((σ.1 40) : Int32).toInt := congrArg Int32.toInt ((show τ67_.1 40 = (σ.1 40) from (congrArg (fun x9 : MS => x9.1 40) eτ67_).trans (show τ61_.1 40 = (σ.1 40) from (congrArg (fun x9 : MS => x9.1 40) eτ61_).trans (show τ49_.1 40 = (σ.1 40) from ((hx52_ 40 rg_594).1).trans ((hxυ 40 rg_588).1)))))
                obtain ⟨z70_, ez70_⟩ : ∃ y : Int32, y = cv + 1 := ⟨_, rfl⟩
                have o80 : -2147483648 ≤ cv.toInt + 1 := by omega
                have o81 : cv.toInt + 1 ≤ 2147483647 := by omega
                have tz70_ := ti_add ez70_ rfl rg_18 o80 o81
                refine lv_iinc (v := z70_) (lv' := [(4, .int z70_), (5, .long 401), (0, .ref h), (1, .int x), (2, .int y), (3, .int iv)]) hx hb dX12_layPlan_115 hl (k := 5) rfl (iincp ez70_ rg_6) (Nat.le_of_ble_eq_true rfl) rfl (fun ls hl => ?_)
                refine lv_goto (tgt := 43) hx hb dX12_layPlan_118 rfl ?_
                have C54 : (τ67_).2.1 54 = (υ.2.1 54) := ((congrArg (fun x9 : MS => x9.2.1 54) eτ67_).trans ((tA rx_07a55a4d84).trans ((congrArg (fun x9 : MS => x9.2.1 54) eτ61_).trans ((tA rx_d84d829f81).trans (((hx52_ 54 rx_c90d7ca091).2.1).trans rfl)))))
                have C55 : (τ67_).2.1 55 = (υ.2.1 55) := ((congrArg (fun x9 : MS => x9.2.1 55) eτ67_).trans ((tA rx_1d7750b3fb).trans ((congrArg (fun x9 : MS => x9.2.1 55) eτ61_).trans ((tA rx_2ebcb98d75).trans (((hx52_ 55 rx_9af7f06f33).2.1).trans rfl)))))
                have C56 : (τ67_).2.1 56 = (upd (υ.2.1 56) (Int32.toNatClampNeg cv) z66_) := ((congrArg (fun x9 : MS => x9.2.1 56) eτ67_).trans (tAe.trans (congrArg (fun f9 => (upd f9 (Int32.toNatClampNeg cv) z66_)) ((congrArg (fun x9 : MS => x9.2.1 56) eτ61_).trans ((tA rx_e77ab29e14).trans (((hx52_ 56 rx_4d72a0ed90).2.1).trans rfl))))))
                have C57 : (τ67_).2.1 57 = (upd (υ.2.1 57) (Int32.toNatClampNeg cv) z59_) := ((congrArg (fun x9 : MS => x9.2.1 57) eτ67_).trans ((tA rx_37f59e8005).trans ((congrArg (fun x9 : MS => x9.2.1 57) eτ61_).trans (tAe.trans (congrArg (fun f9 => (upd f9 (Int32.toNatClampNeg cv) z59_)) (((hx52_ 57 rx_c0c71ea6a2).2.1).trans rfl))))))
                have o82 : z70_.toInt = cv.toInt + 1 := by omega
                have N71_ : FarsI σ x iv.toNatClampNeg z70_.toNatClampNeg (τ67_) := by rw [cl_succ hk0υ o82]; exact FarsI.snoc hfaυ C56 C57 (absurd lc65_ (by decide)) (fun h9 => by have c0_ : cv = 0 := Int32.toInt_inj.mp (by rw [show (0 : Int32).toInt = 0 from by decide]; have h8 := ti_cl (x := cv) rfl hk0υ; omega); exact ⟨(absurd (show NoOpen υ 0 by rw [← c0_]; exact NO57_) (zero_open hIυ (RelP.x hR hxυ rg_571 rg_572))), f60_ c0_⟩)
                have o83 : 0 ≤ z70_.toInt := by omega
                have o84 : (4096 - z70_.toInt).toNat < n43 := by omega
                exact ih43 τ67_ z70_ _ _ _ (show (4096 - z70_.toInt).toNat < n43 from o84) hIτ67_ Xτ67_ o83 hivυ (PlanI.cg hplυ C54 C55) N71_ hP hD hS (lv_sub hl [2, 3, 4, 5, 0] rfl)
              · have tc65_ := (show 0 < z64_.toInt from ti_nle rfl rg_11 c65_)
                have lc65_ : ¬ (401 : Int64) ≤ 400 := fun h => c65_ (by rw [ez64_]; exact (lg_cmp_le 401 400).mpr h)
                refine lv_sipush (v := 401) hx hb dX12_layPlan_105 rx_a0035c103e ?_
                refine lv_goto (tgt := 114) hx hb dX12_layPlan_108 rfl ?_
                refine va_iast hx hb hK hP hD hS 39 38 rfl rfl (ti_inx o78 o79) dX12_layPlan_114 (fun H locs hP hD hS => ?_)
                rw [wS56] at hP hD
                obtain ⟨τ72_, eτ72_⟩ : ∃ x9 : MS, x9 = sA τ61_ 56 (upd (τ61_.2.1 56) (Int32.toNatClampNeg cv) 401) := ⟨_, rfl⟩
                have hP : va_P (dC, dI) vwCl (mW h ad cl τ72_) H := by rw [eτ72_]; exact hP
                have hD : va_D A (mW h ad cl τ72_) := by rw [eτ72_]; exact hD
                have hIτ72_ : Inv τ72_ := by rw [eτ72_]; exact (Inv_sA1 hIτ61_ (fun j _ => Inv.any _))
                have Xτ72_ : eqx [37, 41, 42, 43, 44, 45, 46, 32, 47, 48, 49, 54, 55, 56, 57] τ72_ σ := (eqx.eq eτ72_ (eqx.sA Xτ61_ rx_4828444b43))
                have qq73_ : (τ72_.1 39).toInt = ((σ.1 39) : Int32).toInt := congrArg Int32.toInt ((show τ72_.1 39 = (σ.1 39) from (congrArg (fun x9 : MS => x9.1 39) eτ72_).trans (show τ61_.1 39 = (σ.1 39) from (congrArg (fun x9 : MS => x9.1 39) eτ61_).trans (show τ49_.1 39 = (σ.1 39) from ((hx52_ 39 rg_570).1).trans ((hxυ 39 rg_582).1)))))
                have qq74_ : (τ72_.1 40).toInt = ((σ.1 40) : Int32).toInt := congrArg Int32.toInt ((show τ72_.1 40 = (σ.1 40) from (congrArg (fun x9 : MS => x9.1 40) eτ72_).trans (show τ61_.1 40 = (σ.1 40) from (congrArg (fun x9 : MS => x9.1 40) eτ61_).trans (show τ49_.1 40 = (σ.1 40) from ((hx52_ 40 rg_594).1).trans ((hxυ 40 rg_588).1)))))
                obtain ⟨z75_, ez75_⟩ : ∃ y : Int32, y = cv + 1 := ⟨_, rfl⟩
                have o85 : -2147483648 ≤ cv.toInt + 1 := by omega
                have o86 : cv.toInt + 1 ≤ 2147483647 := by omega
                have tz75_ := ti_add ez75_ rfl rg_18 o85 o86
                refine lv_iinc (v := z75_) (lv' := [(4, .int z75_), (5, .long 401), (0, .ref h), (1, .int x), (2, .int y), (3, .int iv)]) hx hb dX12_layPlan_115 hl (k := 5) rfl (iincp ez75_ rg_6) (Nat.le_of_ble_eq_true rfl) rfl (fun ls hl => ?_)
                refine lv_goto (tgt := 43) hx hb dX12_layPlan_118 rfl ?_
                have C54 : (τ72_).2.1 54 = (υ.2.1 54) := ((congrArg (fun x9 : MS => x9.2.1 54) eτ72_).trans ((tA rx_07a55a4d84).trans ((congrArg (fun x9 : MS => x9.2.1 54) eτ61_).trans ((tA rx_d84d829f81).trans (((hx52_ 54 rx_c90d7ca091).2.1).trans rfl)))))
                have C55 : (τ72_).2.1 55 = (υ.2.1 55) := ((congrArg (fun x9 : MS => x9.2.1 55) eτ72_).trans ((tA rx_1d7750b3fb).trans ((congrArg (fun x9 : MS => x9.2.1 55) eτ61_).trans ((tA rx_2ebcb98d75).trans (((hx52_ 55 rx_9af7f06f33).2.1).trans rfl)))))
                have C56 : (τ72_).2.1 56 = (upd (υ.2.1 56) (Int32.toNatClampNeg cv) 401) := ((congrArg (fun x9 : MS => x9.2.1 56) eτ72_).trans (tAe.trans (congrArg (fun f9 => (upd f9 (Int32.toNatClampNeg cv) 401)) ((congrArg (fun x9 : MS => x9.2.1 56) eτ61_).trans ((tA rx_e77ab29e14).trans (((hx52_ 56 rx_4d72a0ed90).2.1).trans rfl))))))
                have C57 : (τ72_).2.1 57 = (upd (υ.2.1 57) (Int32.toNatClampNeg cv) z59_) := ((congrArg (fun x9 : MS => x9.2.1 57) eτ72_).trans ((tA rx_37f59e8005).trans ((congrArg (fun x9 : MS => x9.2.1 57) eτ61_).trans (tAe.trans (congrArg (fun f9 => (upd f9 (Int32.toNatClampNeg cv) z59_)) (((hx52_ 57 rx_c0c71ea6a2).2.1).trans rfl))))))
                have o87 : z75_.toInt = cv.toInt + 1 := by omega
                have N76_ : FarsI σ x iv.toNatClampNeg z75_.toNatClampNeg (τ72_) := by rw [cl_succ hk0υ o87]; exact FarsI.snoc hfaυ C56 C57 (Or.inl rx_50eca79386) (fun h9 => by have c0_ : cv = 0 := Int32.toInt_inj.mp (by rw [show (0 : Int32).toInt = 0 from by decide]; have h8 := ti_cl (x := cv) rfl hk0υ; omega); exact ⟨(absurd (show NoOpen υ 0 by rw [← c0_]; exact NO57_) (zero_open hIυ (RelP.x hR hxυ rg_571 rg_572))), f60_ c0_⟩)
                have o88 : 0 ≤ z75_.toInt := by omega
                have o89 : (4096 - z75_.toInt).toNat < n43 := by omega
                exact ih43 τ72_ z75_ _ _ _ (show (4096 - z75_.toInt).toNat < n43 from o89) hIτ72_ Xτ72_ o88 hivυ (PlanI.cg hplυ C54 C55) N76_ hP hD hS (lv_sub hl [2, 3, 4, 5, 0] rfl)
            · have tc56_ := (show z50_.toInt ≠ 0 from ti_ne rfl rg_11 c56_)
              refine lv_aload_n hx hb dX12_layPlan_63 rfl (lv_at hl 0 rfl) ?_
              refine lv_iload_n hx hb dX12_layPlan_64 rfl (lv_at hl 1 rfl) ?_
              refine lv_iload_n hx hb dX12_layPlan_65 rfl (lv_at hl 3 rfl) ?_
              have o90 : ¬ z50_.toInt = 0 := by omega
              have POK77_ : Opn υ cv (τ49_.2.1 37) (τ49_.2.2.1 43) (τ49_.2.2.1 44) := by rcases f53_ with q | q; exact q.2; exact absurd q.1 o90
              have OK77_ : OnOk τ49_ := OnR.ok hIυ (ChR.x hC hxυ rg_571 rg_588 rg_572 rg_589 rg_590 rg_591) hx52_ rg_573 rg_574 POK77_.1
              have o91 : 0 ≤ iv.toInt := by omega
              have o92 : iv.toInt ≤ 39 := by omega
              refine zy_l (va_runV (As := [.int x, .int iv]) (rest := []) ⟨hx, hb, hml, hown, hts⟩ (n_farOn l dC dI h ad cl H.size τ49_ x iv hI51_ (RelP.x hR Xτ49_ rg_571 rg_572) OK77_ (EndOk.x he Xτ49_ rg_571 rg_577) ⟨o91, o92⟩) (cwV 2 hts gd_n_layPlan_438_n_farOn rfl rfl rfl dd_n_farOn ⟨Nat.le_of_ble_eq_true rfl, Nat.le_of_ble_eq_true rfl⟩) (preV hP hK hD hE (ci := 12) (q0 := 0) rfl rfl) rfl rfl hl.1 rfl (lv_room (Nat.le_of_ble_eq_true rfl)) dX12_layPlan_66 ⟨Nat.le_of_ble_eq_true rfl, Nat.le_of_ble_eq_true rfl⟩) hD hS hA (fun y79_ τ78_ H locs hq hP hD hS => ?_)
              obtain ⟨hI80_, hx81_, f82_⟩ := hq
              have Xτ78_ : eqx [37, 41, 42, 43, 44, 45, 46, 32, 47, 48, 49, 54, 55, 56, 57] τ78_ σ := eqx.tr hx81_ Xτ49_ rg_575
              have qq83_ : (τ78_.1 39).toInt = ((σ.1 39) : Int32).toInt := congrArg Int32.toInt ((show τ78_.1 39 = (σ.1 39) from ((hx81_ 39 rg_576).1).trans (show τ49_.1 39 = (σ.1 39) from ((hx52_ 39 rg_570).1).trans ((hxυ 39 rg_582).1))))
              have qq84_ : (τ78_.1 40).toInt = ((σ.1 40) : Int32).toInt := congrArg Int32.toInt ((show τ78_.1 40 = (σ.1 40) from ((hx81_ 40 rx_4df55eb723).1).trans (show τ49_.1 40 = (σ.1 40) from ((hx52_ 40 rg_594).1).trans ((hxυ 40 rg_588).1))))
              refine W.widen (k := 0) (n := 0) (Nat.le_of_ble_eq_true rfl) (Nat.le_of_ble_eq_true rfl) ?_
              have FC85_ : Opn σ cv (τ49_.2.1 37) (τ49_.2.2.1 43) (τ49_.2.2.1 44) := Opn.y POK77_ hxυ rg_571 rg_588 rg_589 rx_dc7f379244 rx_855be26bc0
              have FC86_ : FarC σ x iv cv y79_ := FarP.c Xτ49_ rg_571 rx_dc7f379244 rx_855be26bc0 rx_741c22981e FC85_.1 f82_
              have o93 : iv.toInt < (σ.1 39).toInt := by omega
              have FC87_ := far_nn hI hRI Xτ49_ rg_571 rx_dc7f379244 rx_855be26bc0 rx_741c22981e FC85_ he o91 o93 o92 f82_
              refine lv_goto (tgt := 75) hx hb dX12_layPlan_69 rfl ?_
              refine lv_lstore (lv' := [(5, .long y79_), (0, .ref h), (1, .int x), (2, .int y), (3, .int iv), (4, .int cv)]) hx hb dX12_layPlan_75 hl (Nat.le_of_ble_eq_true rfl) rfl (fun ls hl => ?_)
              refine lv_aload_n hx hb dX12_layPlan_77 rfl (lv_at hl 1 rfl) ?_
              refine va_get (D := (dC, dI)) (ci := 12) (v := .ref (ad 57)) (C := RX12) (T := TX12) (N := 59) hx hb hts hin12 hown hK hP 0 rfl rfl 57 (Nat.le_of_ble_eq_true rfl) (ho (.fieldLink RX12 134 "NearEnoughModel" "savedAll" "[I") (List.mem_of_getElem? (i := 3) rfl)) (fun _ h9 => h9) rfl dX12_layPlan_78 ?_
              refine lv_iload hx hb dX12_layPlan_81 (lv_at hl 5 rfl) ?_
              refine lv_aload_n hx hb dX12_layPlan_83 rfl (lv_at hl 1 rfl) ?_
              refine lv_iload hx hb dX12_layPlan_84 (lv_at hl 5 rfl) ?_
              refine zy_i (va_runV (As := [.int cv]) (rest := [.int cv, .ref (ad 57)]) ⟨hx, hb, hml, hown, hts⟩ (n_savedByV l dC dI h ad cl H.size τ78_ cv hI80_) (cwV 1 hts gd_n_layPlan_447_n_savedByV rfl rfl rfl dd_n_savedByV ⟨Nat.le_of_ble_eq_true rfl, Nat.le_of_ble_eq_true rfl⟩) (preV hP hK hD hE (ci := 12) (q0 := 0) rfl rfl) rfl rfl hl.1 rfl (lv_room (Nat.le_of_ble_eq_true rfl)) dX12_layPlan_86 ⟨Nat.le_of_ble_eq_true rfl, Nat.le_of_ble_eq_true rfl⟩) hD hS hA (fun z90_ τ89_ H locs hq hP hD hS => ?_)
              obtain ⟨rfl, f91_⟩ := hq
              refine W.widen (k := 0) (n := 0) (Nat.le_of_ble_eq_true rfl) (Nat.le_of_ble_eq_true rfl) ?_
              have o94 : 0 ≤ cv.toInt := by omega
              have o95 : cv.toInt < ((4096 : Nat) : Int) := by omega
              refine va_iast hx hb hK hP hD hS 40 39 rfl rfl (ti_inx o94 o95) dX12_layPlan_89 (fun H locs hP hD hS => ?_)
              rw [wS57] at hP hD
              obtain ⟨τ92_, eτ92_⟩ : ∃ x9 : MS, x9 = sA τ78_ 57 (upd (τ78_.2.1 57) (Int32.toNatClampNeg cv) z90_) := ⟨_, rfl⟩
              have hP : va_P (dC, dI) vwCl (mW h ad cl τ92_) H := by rw [eτ92_]; exact hP
              have hD : va_D A (mW h ad cl τ92_) := by rw [eτ92_]; exact hD
              have hIτ92_ : Inv τ92_ := by rw [eτ92_]; exact (Inv_sA1 hI80_ (fun j _ => Inv.any _))
              have Xτ92_ : eqx [37, 41, 42, 43, 44, 45, 46, 32, 47, 48, 49, 54, 55, 56, 57] τ92_ σ := (eqx.eq eτ92_ (eqx.sA Xτ78_ rx_2b878e8575))
              have qq93_ : (τ92_.1 39).toInt = ((σ.1 39) : Int32).toInt := congrArg Int32.toInt ((show τ92_.1 39 = (σ.1 39) from (congrArg (fun x9 : MS => x9.1 39) eτ92_).trans (show τ78_.1 39 = (σ.1 39) from ((hx81_ 39 rg_576).1).trans (show τ49_.1 39 = (σ.1 39) from ((hx52_ 39 rg_570).1).trans ((hxυ 39 rg_582).1)))))
              have qq94_ : (τ92_.1 40).toInt = ((σ.1 40) : Int32).toInt := congrArg Int32.toInt ((show τ92_.1 40 = (σ.1 40) from (congrArg (fun x9 : MS => x9.1 40) eτ92_).trans (show τ78_.1 40 = (σ.1 40) from ((hx81_ 40 rx_4df55eb723).1).trans (show τ49_.1 40 = (σ.1 40) from ((hx52_ 40 rg_594).1).trans ((hxυ 40 rg_588).1)))))
              refine lv_aload_n hx hb dX12_layPlan_90 rfl (lv_at hl 1 rfl) ?_
              refine va_get (D := (dC, dI)) (ci := 12) (v := .ref (ad 56)) (C := RX12) (T := TX12) (N := 59) hx hb hts hin12 hown hK hP 0 rfl rfl 56 (Nat.le_of_ble_eq_true rfl) (ho (.fieldLink RX12 131 "NearEnoughModel" "fars" "[I") (List.mem_of_getElem? (i := 2) rfl)) (fun _ h9 => h9) rfl dX12_layPlan_91 ?_
              refine lv_iload hx hb dX12_layPlan_94 (lv_at hl 5 rfl) ?_
              refine lv_lload hx hb dX12_layPlan_96 (lv_at hl 0 rfl) ?_
              refine lv_ldc2 (v := (400)) hx hb hown (ho (.constantLong RX12 483 (400)) (List.mem_of_getElem? (i := 6) rfl)) dX12_layPlan_98 ?_
              refine W.lcmp hx hb dX12_layPlan_101 ?_
              refine lv_topi (fun z95_ ez95_ => ?_)
              refine lv_if_le (tgt := 111) hx hb dX12_layPlan_102 rfl (fun c96_ => ?_) (fun c96_ => ?_)
              · have tc96_ := (show z95_.toInt ≤ 0 from ti_le rfl rg_11 c96_)
                have lc96_ : y79_ ≤ 400 := (lg_cmp_le y79_ 400).mp (by rw [← ez95_]; exact c96_)
                refine lv_lload hx hb dX12_layPlan_111 (lv_at hl 0 rfl) ?_
                refine lv_l2i hx hb dX12_layPlan_113 rfl ?_
                refine lv_topi (fun z97_ ez97_ => ?_)
                refine va_iast hx hb hK hP hD hS 39 38 rfl rfl (ti_inx o94 o95) dX12_layPlan_114 (fun H locs hP hD hS => ?_)
                rw [wS56] at hP hD
                obtain ⟨τ98_, eτ98_⟩ : ∃ x9 : MS, x9 = sA τ92_ 56 (upd (τ92_.2.1 56) (Int32.toNatClampNeg cv) z97_) := ⟨_, rfl⟩
                have hP : va_P (dC, dI) vwCl (mW h ad cl τ98_) H := by rw [eτ98_]; exact hP
                have hD : va_D A (mW h ad cl τ98_) := by rw [eτ98_]; exact hD
                have hIτ98_ : Inv τ98_ := by rw [eτ98_]; exact (Inv_sA1 hIτ92_ (fun j _ => Inv.any _))
                have Xτ98_ : eqx [37, 41, 42, 43, 44, 45, 46, 32, 47, 48, 49, 54, 55, 56, 57] τ98_ σ := (eqx.eq eτ98_ (eqx.sA Xτ92_ rx_4828444b43))
                have qq99_ : (τ98_.1 39).toInt = ((σ.1 39) : Int32).toInt := congrArg Int32.toInt ((show τ98_.1 39 = (σ.1 39) from (congrArg (fun x9 : MS => x9.1 39) eτ98_).trans (show τ92_.1 39 = (σ.1 39) from (congrArg (fun x9 : MS => x9.1 39) eτ92_).trans (show τ78_.1 39 = (σ.1 39) from ((hx81_ 39 rg_576).1).trans (show τ49_.1 39 = (σ.1 39) from ((hx52_ 39 rg_570).1).trans ((hxυ 39 rg_582).1))))))
                have qq100_ : (τ98_.1 40).toInt = ((σ.1 40) : Int32).toInt := congrArg Int32.toInt ((show τ98_.1 40 = (σ.1 40) from (congrArg (fun x9 : MS => x9.1 40) eτ98_).trans (show τ92_.1 40 = (σ.1 40) from (congrArg (fun x9 : MS => x9.1 40) eτ92_).trans (show τ78_.1 40 = (σ.1 40) from ((hx81_ 40 rx_4df55eb723).1).trans (show τ49_.1 40 = (σ.1 40) from ((hx52_ 40 rg_594).1).trans ((hxυ 40 rg_588).1))))))
                obtain ⟨z101_, ez101_⟩ : ∃ y : Int32, y = cv + 1 := ⟨_, rfl⟩
                have o96 : -2147483648 ≤ cv.toInt + 1 := by omega
                have o97 : cv.toInt + 1 ≤ 2147483647 := by omega
                have tz101_ := ti_add ez101_ rfl rg_18 o96 o97
                refine lv_iinc (v := z101_) (lv' := [(4, .int z101_), (5, .long y79_), (0, .ref h), (1, .int x), (2, .int y), (3, .int iv)]) hx hb dX12_layPlan_115 hl (k := 5) rfl (iincp ez101_ rg_6) (Nat.le_of_ble_eq_true rfl) rfl (fun ls hl => ?_)
                refine lv_goto (tgt := 43) hx hb dX12_layPlan_118 rfl ?_
                have C54 : (τ98_).2.1 54 = (υ.2.1 54) := ((congrArg (fun x9 : MS => x9.2.1 54) eτ98_).trans ((tA rx_07a55a4d84).trans ((congrArg (fun x9 : MS => x9.2.1 54) eτ92_).trans ((tA rx_d84d829f81).trans (((hx81_ 54 rx_6b504fed07).2.1).trans (((hx52_ 54 rx_c90d7ca091).2.1).trans rfl))))))
                have C55 : (τ98_).2.1 55 = (υ.2.1 55) := ((congrArg (fun x9 : MS => x9.2.1 55) eτ98_).trans ((tA rx_1d7750b3fb).trans ((congrArg (fun x9 : MS => x9.2.1 55) eτ92_).trans ((tA rx_2ebcb98d75).trans (((hx81_ 55 rx_3fa7054373).2.1).trans (((hx52_ 55 rx_9af7f06f33).2.1).trans rfl))))))
                have C56 : (τ98_).2.1 56 = (upd (υ.2.1 56) (Int32.toNatClampNeg cv) z97_) := ((congrArg (fun x9 : MS => x9.2.1 56) eτ98_).trans (tAe.trans (congrArg (fun f9 => (upd f9 (Int32.toNatClampNeg cv) z97_)) ((congrArg (fun x9 : MS => x9.2.1 56) eτ92_).trans ((tA rx_e77ab29e14).trans (((hx81_ 56 rx_1c28f5c324).2.1).trans (((hx52_ 56 rx_4d72a0ed90).2.1).trans rfl)))))))
                have C57 : (τ98_).2.1 57 = (upd (υ.2.1 57) (Int32.toNatClampNeg cv) z90_) := ((congrArg (fun x9 : MS => x9.2.1 57) eτ98_).trans ((tA rx_37f59e8005).trans ((congrArg (fun x9 : MS => x9.2.1 57) eτ92_).trans (tAe.trans (congrArg (fun f9 => (upd f9 (Int32.toNatClampNeg cv) z90_)) (((hx81_ 57 rx_8e440e4b86).2.1).trans (((hx52_ 57 rx_c0c71ea6a2).2.1).trans rfl)))))))
                have tl_ := le64 lc96_
                have t4_ : (400 : Int64).toInt = 400 := rx_9eb8630438
                have tv_ := l2i_val ez97_ FC87_.1 FC87_.2
                have o98 : y79_.toInt ≤ 400 := by omega
                have o99 : z101_.toInt = cv.toInt + 1 := by omega
                have N102_ : FarsI σ x iv.toNatClampNeg z101_.toNatClampNeg (τ98_) := by rw [cl_succ hk0υ o99]; exact FarsI.snoc hfaυ C56 C57 (Or.inr ⟨y79_, (by rw [nI_cl o91, nI_cl hk0υ]; exact FC86_), FC87_.1, o98, tv_⟩) (fun h9 => by have c0_ : cv = 0 := Int32.toInt_inj.mp (by rw [show (0 : Int32).toInt = 0 from by decide]; have h8 := ti_cl (x := cv) rfl hk0υ; omega); exact ⟨(by have h7 := far_zero hI hR he (c0_ ▸ FC86_); rw [tv_, h7]; decide), f91_ c0_⟩)
                have o100 : 0 ≤ z101_.toInt := by omega
                have o101 : (4096 - z101_.toInt).toNat < n43 := by omega
                exact ih43 τ98_ z101_ _ _ _ (show (4096 - z101_.toInt).toNat < n43 from o101) hIτ98_ Xτ98_ o100 hivυ (PlanI.cg hplυ C54 C55) N102_ hP hD hS (lv_sub hl [2, 3, 4, 5, 0] rfl)
              · have tc96_ := (show 0 < z95_.toInt from ti_nle rfl rg_11 c96_)
                have lc96_ : ¬ y79_ ≤ 400 := fun h => c96_ (by rw [ez95_]; exact (lg_cmp_le y79_ 400).mpr h)
                refine lv_sipush (v := 401) hx hb dX12_layPlan_105 rx_a0035c103e ?_
                refine lv_goto (tgt := 114) hx hb dX12_layPlan_108 rfl ?_
                refine va_iast hx hb hK hP hD hS 39 38 rfl rfl (ti_inx o94 o95) dX12_layPlan_114 (fun H locs hP hD hS => ?_)
                rw [wS56] at hP hD
                obtain ⟨τ103_, eτ103_⟩ : ∃ x9 : MS, x9 = sA τ92_ 56 (upd (τ92_.2.1 56) (Int32.toNatClampNeg cv) 401) := ⟨_, rfl⟩
                have hP : va_P (dC, dI) vwCl (mW h ad cl τ103_) H := by rw [eτ103_]; exact hP
                have hD : va_D A (mW h ad cl τ103_) := by rw [eτ103_]; exact hD
                have hIτ103_ : Inv τ103_ := by rw [eτ103_]; exact (Inv_sA1 hIτ92_ (fun j _ => Inv.any _))
                have Xτ103_ : eqx [37, 41, 42, 43, 44, 45, 46, 32, 47, 48, 49, 54, 55, 56, 57] τ103_ σ := (eqx.eq eτ103_ (eqx.sA Xτ92_ rx_4828444b43))
                have qq104_ : (τ103_.1 39).toInt = ((σ.1 39) : Int32).toInt := congrArg Int32.toInt ((show τ103_.1 39 = (σ.1 39) from (congrArg (fun x9 : MS => x9.1 39) eτ103_).trans (show τ92_.1 39 = (σ.1 39) from (congrArg (fun x9 : MS => x9.1 39) eτ92_).trans (show τ78_.1 39 = (σ.1 39) from ((hx81_ 39 rg_576).1).trans (show τ49_.1 39 = (σ.1 39) from ((hx52_ 39 rg_570).1).trans ((hxυ 39 rg_582).1))))))
                have qq105_ : (τ103_.1 40).toInt = ((σ.1 40) : Int32).toInt := congrArg Int32.toInt ((show τ103_.1 40 = (σ.1 40) from (congrArg (fun x9 : MS => x9.1 40) eτ103_).trans (show τ92_.1 40 = (σ.1 40) from (congrArg (fun x9 : MS => x9.1 40) eτ92_).trans (show τ78_.1 40 = (σ.1 40) from ((hx81_ 40 rx_4df55eb723).1).trans (show τ49_.1 40 = (σ.1 40) from ((hx52_ 40 rg_594).1).trans ((hxυ 40 rg_588).1))))))
                obtain ⟨z106_, ez106_⟩ : ∃ y : Int32, y = cv + 1 := ⟨_, rfl⟩
                have o102 : -2147483648 ≤ cv.toInt + 1 := by omega
                have o103 : cv.toInt + 1 ≤ 2147483647 := by omega
                have tz106_ := ti_add ez106_ rfl rg_18 o102 o103
                refine lv_iinc (v := z106_) (lv' := [(4, .int z106_), (5, .long y79_), (0, .ref h), (1, .int x), (2, .int y), (3, .int iv)]) hx hb dX12_layPlan_115 hl (k := 5) rfl (iincp ez106_ rg_6) (Nat.le_of_ble_eq_true rfl) rfl (fun ls hl => ?_)
                refine lv_goto (tgt := 43) hx hb dX12_layPlan_118 rfl ?_
                have C54 : (τ103_).2.1 54 = (υ.2.1 54) := ((congrArg (fun x9 : MS => x9.2.1 54) eτ103_).trans ((tA rx_07a55a4d84).trans ((congrArg (fun x9 : MS => x9.2.1 54) eτ92_).trans ((tA rx_d84d829f81).trans (((hx81_ 54 rx_6b504fed07).2.1).trans (((hx52_ 54 rx_c90d7ca091).2.1).trans rfl))))))
                have C55 : (τ103_).2.1 55 = (υ.2.1 55) := ((congrArg (fun x9 : MS => x9.2.1 55) eτ103_).trans ((tA rx_1d7750b3fb).trans ((congrArg (fun x9 : MS => x9.2.1 55) eτ92_).trans ((tA rx_2ebcb98d75).trans (((hx81_ 55 rx_3fa7054373).2.1).trans (((hx52_ 55 rx_9af7f06f33).2.1).trans rfl))))))
                have C56 : (τ103_).2.1 56 = (upd (υ.2.1 56) (Int32.toNatClampNeg cv) 401) := ((congrArg (fun x9 : MS => x9.2.1 56) eτ103_).trans (tAe.trans (congrArg (fun f9 => (upd f9 (Int32.toNatClampNeg cv) 401)) ((congrArg (fun x9 : MS => x9.2.1 56) eτ92_).trans ((tA rx_e77ab29e14).trans (((hx81_ 56 rx_1c28f5c324).2.1).trans (((hx52_ 56 rx_4d72a0ed90).2.1).trans rfl)))))))
                have C57 : (τ103_).2.1 57 = (upd (υ.2.1 57) (Int32.toNatClampNeg cv) z90_) := ((congrArg (fun x9 : MS => x9.2.1 57) eτ103_).trans ((tA rx_37f59e8005).trans ((congrArg (fun x9 : MS => x9.2.1 57) eτ92_).trans (tAe.trans (congrArg (fun f9 => (upd f9 (Int32.toNatClampNeg cv) z90_)) (((hx81_ 57 rx_8e440e4b86).2.1).trans (((hx52_ 57 rx_c0c71ea6a2).2.1).trans rfl)))))))
                have o104 : z106_.toInt = cv.toInt + 1 := by omega
                have N107_ : FarsI σ x iv.toNatClampNeg z106_.toNatClampNeg (τ103_) := by rw [cl_succ hk0υ o104]; exact FarsI.snoc hfaυ C56 C57 (Or.inl rx_50eca79386) (fun h9 => by have c0_ : cv = 0 := Int32.toInt_inj.mp (by rw [show (0 : Int32).toInt = 0 from by decide]; have h8 := ti_cl (x := cv) rfl hk0υ; omega); exact ⟨(by have h7 := far_zero hI hR he (c0_ ▸ FC86_); have h6 := nle64 lc96_; rw [h7] at h6; exact absurd h6 (by decide)), f91_ c0_⟩)
                have o105 : 0 ≤ z106_.toInt := by omega
                have o106 : (4096 - z106_.toInt).toNat < n43 := by omega
                exact ih43 τ103_ z106_ _ _ _ (show (4096 - z106_.toInt).toNat < n43 from o106) hIτ103_ Xτ103_ o105 hivυ (PlanI.cg hplυ C54 C55) N107_ hP hD hS (lv_sub hl [2, 3, 4, 5, 0] rfl)
      refine lv_iload_n hx hb dX12_layPlan_36 rfl (lv_at hl 3 rfl) ?_
      refine lv_if_lt (tgt := 257) hx hb dX12_layPlan_37 rfl (fun c108_ => ?_) (fun c108_ => ?_)
      · have tc108_ := (show iv.toInt < 0 from ti_lt rfl rg_11 c108_)
        rw [hQ]
        have o107 : iv.toInt = -1 := by omega
        exact W.vret hx hb hr (fun t ht hW => ⟨⟨τ, rfl, ⟨hIτ, hxτ, (by have h8 : iv.toInt = -1 := o107; rw [← h8]; exact hpl)⟩, wEn_of hP (hK.sub [] rfl) hD ht hW⟩, hS.F ht⟩) hS.2.2 dX12_layPlan_257
      · have tc108_ := (show 0 ≤ iv.toInt from ti_nlt rfl rg_11 c108_)
        refine lv_iconst (v := 0) hx hb dX12_layPlan_40 rg_0 ?_
        refine lv_istore (lv' := [(4, .int 0), (0, .ref h), (1, .int x), (2, .int y), (3, .int iv)]) hx hb dX12_layPlan_41 hl (Nat.le_of_ble_eq_true rfl) rfl (fun ls hl => ?_)
        have o108 : 0 ≤ iv.toInt ∧ iv.toInt ≤ 39 ∧ iv.toInt < (σ.1 39).toInt := by omega
        exact pt_43 _ τ 0 _ _ _ (Nat.lt_succ_self _) hIτ hxτ rg_56 (show 0 ≤ iv.toInt ∧ iv.toInt ≤ 39 ∧ iv.toInt < (σ.1 39).toInt from o108) hpl (fun c9 h9 => absurd h9 (by rw [show (0 : Int32).toNatClampNeg = 0 from by decide]; exact Nat.not_lt_zero _)) hP hD hS (lv_sub hl [1, 2, 3, 4, 0] rfl)
  have pt_2 : ∀ (n2 : Nat) (τ : MS) (kv : Int32) (H : Heap) (locs : List Loc) (ls : Array Slot), (401 - kv.toInt).toNat < n2 → (Inv τ) → (eqx [37, 41, 42, 43, 44, 45, 46, 32, 47, 48, 49, 54, 55, 56, 57] τ σ) → (0 ≤ kv.toInt) → (∀ b9 : Nat, b9 < kv.toNatClampNeg → (τ.2.1 54 (401 * (σ.1 39).toNatClampNeg + b9)).toInt = 0) → va_P (dC, dI) vwCl (mW h ad cl τ) H → va_D A (mW h ad cl τ) → va_S A s.heap H locs → lv_has ls 8 [(0, .ref h), (1, .int x), (2, .int y), (3, .int kv)] → W p l e (headSpec vs_n_layPlan rm_n_layPlan).room s m #[Value.ref h, Value.int x, Value.int y] below meth c H locs 0 0 Q (F0 m 2 ls []) := by
    intro n2
    induction n2 with
    | zero => intro τ kv H locs ls hn2 hIτ hxτ hk0 hin hP hD hS hl; exact absurd hn2 (Nat.not_lt_zero _)
    | succ n2 ih2 =>
      intro τ kv H locs ls hn2 hIτ hxτ hk0 hin hP hD hS hl
      have bτ_39 : 0 ≤ (τ.1 39).toInt ∧ (τ.1 39).toInt ≤ 40 := hIτ.1 39
      have qq109_ : (τ.1 39).toInt = ((σ.1 39) : Int32).toInt := congrArg Int32.toInt (((hxτ 39 rg_582).1))
      have bτ_40 : 0 ≤ (τ.1 40).toInt ∧ (τ.1 40).toInt ≤ 12 := hIτ.1 40
      have qq110_ : (τ.1 40).toInt = ((σ.1 40) : Int32).toInt := congrArg Int32.toInt (((hxτ 40 rg_588).1))
      refine lv_iload_n hx hb dX12_layPlan_2 rfl (lv_at hl 3 rfl) ?_
      refine lv_iload_n hx hb dX12_layPlan_3 rfl (lv_at hl 2 rfl) ?_
      refine lv_icmp_gt (tgt := 29) hx hb dX12_layPlan_4 rfl (fun c111_ => ?_) (fun c111_ => ?_)
      · have tc111_ := (show y.toInt < kv.toInt from ti_lt rfl rfl c111_)
        refine lv_aload_n hx hb dX12_layPlan_29 rfl (lv_at hl 0 rfl) ?_
        refine va_get (D := (dC, dI)) (ci := 12) (v := .int (τ.1 39)) (C := RX12) (T := TX12) (N := 59) hx hb hts hin12 hown hK hP 0 rfl rfl 39 (Nat.le_of_ble_eq_true rfl) (ho (.fieldLink RX12 249 "NearEnoughModel" "sheets" "I") (List.mem_of_getElem? (i := 7) rfl)) (fun _ h9 => h9) rfl dX12_layPlan_30 ?_
        refine zi (v := (σ.1 39)) ((hxτ 39 rg_582).1) ?_
        have bb112_ : 0 ≤ (σ.1 39).toInt ∧ (σ.1 39).toInt ≤ 40 := by have h9 := hIτ.1 39; rw [show (τ.1 39) = (σ.1 39) from ((hxτ 39 rg_582).1)] at h9; exact h9
        refine lv_iconst (v := 1) hx hb dX12_layPlan_33 rg_6 ?_
        refine lv_isub hx hb dX12_layPlan_34 ?_
        refine lv_topi (fun z113_ ez113_ => ?_)
        have o109 : -2147483648 ≤ (σ.1 39).toInt - 1 := by omega
        have o110 : (σ.1 39).toInt - 1 ≤ 2147483647 := by omega
        have tz113_ : z113_.toInt = (σ.1 39).toInt - 1 := ti_sub ez113_ rfl rg_18 o109 o110
        refine lv_istore_n (lv' := [(3, .int z113_), (0, .ref h), (1, .int x), (2, .int y)]) hx hb dX12_layPlan_35 rfl hl (Nat.le_of_ble_eq_true rfl) rfl (fun ls hl => ?_)
        have o111 : 0 ≤ (σ.1 39).toInt := by omega
        have qs_ := ti_cl (x := σ.1 39) rfl o111
        have o112 : 0 ≤ kv.toInt := by omega
        have qkv_ := ti_cl (x := kv) rfl o112
        have o113 : y.toInt < kv.toInt := by omega
        have o114 : z113_.toInt = (σ.1 39).toInt - 1 := by omega
        have N114_ : PlanI σ x y.toInt z113_.toInt τ := by have h8 := PlanI.start (σ := σ) (τ := τ) (x := x) (m := y.toInt) qs_ (fun b9 h9 => hin b9 (by have h7 := o113; omega)); rw [show (((σ.1 39).toNatClampNeg : Nat) : Int) - 1 = z113_.toInt from by have h7 := o114; omega] at h8; exact h8
        have o115 : -1 ≤ z113_.toInt ∧ z113_.toInt < (σ.1 39).toInt := by omega
        exact pt_36 _ τ z113_ _ _ _ (Nat.lt_succ_self _) hIτ hxτ (show -1 ≤ z113_.toInt ∧ z113_.toInt < (σ.1 39).toInt from o115) N114_ hP hD hS (lv_sub hl [1, 2, 3, 0] rfl)
      · have tc111_ := (show kv.toInt ≤ y.toInt from ti_nlt rfl rfl c111_)
        refine lv_aload_n hx hb dX12_layPlan_7 rfl (lv_at hl 0 rfl) ?_
        refine va_get (D := (dC, dI)) (ci := 12) (v := .ref (ad 54)) (C := RX12) (T := TX12) (N := 59) hx hb hts hin12 hown hK hP 0 rfl rfl 54 (Nat.le_of_ble_eq_true rfl) (ho (.fieldLink RX12 125 "NearEnoughModel" "mostSaved" "[I") (List.mem_of_getElem? (i := 1) rfl)) (fun _ h9 => h9) rfl dX12_layPlan_8 ?_
        refine lv_sipush (v := 401) hx hb dX12_layPlan_11 rx_a0035c103e ?_
        refine lv_aload_n hx hb dX12_layPlan_14 rfl (lv_at hl 0 rfl) ?_
        refine va_get (D := (dC, dI)) (ci := 12) (v := .int (τ.1 39)) (C := RX12) (T := TX12) (N := 59) hx hb hts hin12 hown hK hP 0 rfl rfl 39 (Nat.le_of_ble_eq_true rfl) (ho (.fieldLink RX12 249 "NearEnoughModel" "sheets" "I") (List.mem_of_getElem? (i := 7) rfl)) (fun _ h9 => h9) rfl dX12_layPlan_15 ?_
        refine zi (v := (σ.1 39)) ((hxτ 39 rg_582).1) ?_
        have bb115_ : 0 ≤ (σ.1 39).toInt ∧ (σ.1 39).toInt ≤ 40 := by have h9 := hIτ.1 39; rw [show (τ.1 39) = (σ.1 39) from ((hxτ 39 rg_582).1)] at h9; exact h9
        refine lv_imul hx hb dX12_layPlan_18 ?_
        refine lv_topi (fun z116_ ez116_ => ?_)
        have o116 : -2147483648 ≤ 401 * (σ.1 39).toInt := by omega
        have o117 : 401 * (σ.1 39).toInt ≤ 2147483647 := by omega
        have tz116_ : z116_.toInt = 401 * (σ.1 39).toInt := ti_mul ez116_ rx_50eca79386 rfl o116 o117
        refine lv_iload_n hx hb dX12_layPlan_19 rfl (lv_at hl 3 rfl) ?_
        refine lv_iadd hx hb dX12_layPlan_20 ?_
        refine lv_topi (fun z117_ ez117_ => ?_)
        have o118 : -2147483648 ≤ z116_.toInt + kv.toInt := by omega
        have o119 : z116_.toInt + kv.toInt ≤ 2147483647 := by omega
        have tz117_ : z117_.toInt = z116_.toInt + kv.toInt := ti_add ez117_ rfl rfl o118 o119
        refine lv_iconst (v := 0) hx hb dX12_layPlan_21 rg_0 ?_
        have o120 : 0 ≤ z117_.toInt := by omega
        have o121 : z117_.toInt < ((16441 : Nat) : Int) := by omega
        refine va_iast hx hb hK hP hD hS 37 36 rfl rfl (ti_inx o120 o121) dX12_layPlan_22 (fun H locs hP hD hS => ?_)
        rw [wS54] at hP hD
        obtain ⟨τ118_, eτ118_⟩ : ∃ x9 : MS, x9 = sA τ 54 (upd (τ.2.1 54) (Int32.toNatClampNeg z117_) 0) := ⟨_, rfl⟩
        have hP : va_P (dC, dI) vwCl (mW h ad cl τ118_) H := by rw [eτ118_]; exact hP
        have hD : va_D A (mW h ad cl τ118_) := by rw [eτ118_]; exact hD
        have hIτ118_ : Inv τ118_ := by rw [eτ118_]; exact (Inv_sA1 hIτ (fun j _ => Inv.any _))
        have Xτ118_ : eqx [37, 41, 42, 43, 44, 45, 46, 32, 47, 48, 49, 54, 55, 56, 57] τ118_ σ := (eqx.eq eτ118_ (eqx.sA hxτ rx_559c38e74e))
        have qq119_ : (τ118_.1 39).toInt = ((σ.1 39) : Int32).toInt := congrArg Int32.toInt ((show τ118_.1 39 = (σ.1 39) from (congrArg (fun x9 : MS => x9.1 39) eτ118_).trans ((hxτ 39 rg_582).1)))
        have qq120_ : (τ118_.1 40).toInt = ((σ.1 40) : Int32).toInt := congrArg Int32.toInt ((show τ118_.1 40 = (σ.1 40) from (congrArg (fun x9 : MS => x9.1 40) eτ118_).trans ((hxτ 40 rg_588).1)))
        obtain ⟨z121_, ez121_⟩ : ∃ y : Int32, y = kv + 1 := ⟨_, rfl⟩
        have o122 : -2147483648 ≤ kv.toInt + 1 := by omega
        have o123 : kv.toInt + 1 ≤ 2147483647 := by omega
        have tz121_ := ti_add ez121_ rfl rg_18 o122 o123
        refine lv_iinc (v := z121_) (lv' := [(3, .int z121_), (0, .ref h), (1, .int x), (2, .int y)]) hx hb dX12_layPlan_23 hl (k := 3) rfl (iincp ez121_ rg_6) (Nat.le_of_ble_eq_true rfl) rfl (fun ls hl => ?_)
        refine lv_goto (tgt := 2) hx hb dX12_layPlan_26 rfl ?_
        have C54 : (τ118_).2.1 54 = (upd (τ.2.1 54) (Int32.toNatClampNeg z117_) 0) := ((congrArg (fun x9 : MS => x9.2.1 54) eτ118_).trans (tAe.trans (congrArg (fun f9 => (upd f9 (Int32.toNatClampNeg z117_) 0)) rfl)))
        have qz_ := ti_cl (x := z117_) rfl o120
        have o124 : 0 ≤ kv.toInt := by omega
        have qkv_ := ti_cl (x := kv) rfl o124
        have o125 : 0 ≤ (σ.1 39).toInt := by omega
        have qs_ := ti_cl (x := σ.1 39) rfl o125
        have V_ : z117_.toNatClampNeg = 401 * (σ.1 39).toNatClampNeg + kv.toNatClampNeg := by omega
        have o126 : z121_.toInt = kv.toInt + 1 := by omega
        have N122_ : ∀ b9 : Nat, b9 < z121_.toNatClampNeg → ((τ118_).2.1 54 (401 * (σ.1 39).toNatClampNeg + b9)).toInt = 0 := fun b9 h9 => by rw [cl_succ hk0 o126] at h9; rw [C54, V_]; by_cases e9 : b9 = kv.toNatClampNeg; (subst e9; rw [pk_us]; decide); (rw [pk_un (by omega)]; exact hin b9 (by omega))
        have o127 : 0 ≤ z121_.toInt := by omega
        have o128 : (401 - z121_.toInt).toNat < n2 := by omega
        exact ih2 τ118_ z121_ _ _ _ (show (401 - z121_.toInt).toNat < n2 from o128) hIτ118_ Xτ118_ o127 N122_ hP hD hS (lv_sub hl [1, 2, 3, 0] rfl)
  refine zH (A := A) (ws := mW h ad cl σ) (fun H hP hS => ?_) hP
  have bσ_39 : 0 ≤ (σ.1 39).toInt ∧ (σ.1 39).toInt ≤ 40 := hI.1 39
  have bσ_40 : 0 ≤ (σ.1 40).toInt ∧ (σ.1 40).toInt ≤ 12 := hI.1 40
  refine lv_iconst (v := 0) hx hb dX12_layPlan_0 rg_0 ?_
  refine lv_istore_n (lv' := [(3, .int 0), (0, .ref h), (1, .int x), (2, .int y)]) hx hb dX12_layPlan_1 rfl hl (Nat.le_of_ble_eq_true rfl) rfl (fun ls hl => ?_)
  exact pt_2 _ σ 0 _ _ _ (Nat.lt_succ_self _) hI eqx.rf rg_56 (fun b9 h9 => absurd h9 (by rw [show (0 : Int32).toNatClampNeg = 0 from by decide]; exact Nat.not_lt_zero _)) hP hD hS (lv_sub hl [1, 2, 3, 0] rfl)

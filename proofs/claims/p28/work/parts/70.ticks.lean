theorem dX12_ticks_129 : decode cX12_ticks 129 = .ok (.iload_n 2, 1) := by decide +kernel
theorem dX12_ticks_130 : decode cX12_ticks 130 = .ok (.iload 5, 2) := by decide +kernel
theorem dX12_ticks_132 : decode cX12_ticks 132 = .ok (.ifCond .lt 18, 3) := by decide +kernel
theorem dX12_ticks_150 : decode cX12_ticks 150 = .ok (.iload 6, 2) := by decide +kernel
theorem dX12_ticks_152 : decode cX12_ticks 152 = .ok (.iadd, 1) := by decide +kernel
theorem dX12_ticks_153 : decode cX12_ticks 153 = .ok (.istore_n 2, 1) := by decide +kernel
theorem dX12_ticks_154 : decode cX12_ticks 154 = .ok (.iinc 3 1, 3) := by decide +kernel
theorem dX12_ticks_157 : decode cX12_ticks 157 = .ok (.goto (-143), 3) := by decide +kernel
theorem dX12_ticks_135 : decode cX12_ticks 135 = .ok (.aload_n 0, 1) := by decide +kernel
theorem dX12_ticks_136 : decode cX12_ticks 136 = .ok (.getfield 85, 3) := by decide +kernel
theorem dX12_ticks_139 : decode cX12_ticks 139 = .ok (.iload 5, 2) := by decide +kernel
theorem dX12_ticks_141 : decode cX12_ticks 141 = .ok (.iaload, 1) := by decide +kernel
theorem dX12_ticks_142 : decode cX12_ticks 142 = .ok (.iconst 4, 1) := by decide +kernel
theorem dX12_ticks_143 : decode cX12_ticks 143 = .ok (.if_icmp .ne 7, 3) := by decide +kernel
theorem dX12_ticks_146 : decode cX12_ticks 146 = .ok (.iconst 0, 1) := by decide +kernel
theorem dX12_ticks_147 : decode cX12_ticks 147 = .ok (.goto 5, 3) := by decide +kernel
theorem dX12_ticks_105 : decode cX12_ticks 105 = .ok (.aload_n 0, 1) := by decide +kernel
theorem dX12_ticks_106 : decode cX12_ticks 106 = .ok (.iload 5, 2) := by decide +kernel
theorem dX12_ticks_108 : decode cX12_ticks 108 = .ok (.iconst 5, 1) := by decide +kernel
theorem dX12_ticks_109 : decode cX12_ticks 109 = .ok (.invokevirtual 340, 3) := by decide +kernel
theorem dX12_ticks_112 : decode cX12_ticks 112 = .ok (.ifCond .eq 17, 3) := by decide +kernel
theorem dX12_ticks_115 : decode cX12_ticks 115 = .ok (.iload 6, 2) := by decide +kernel
theorem dX12_ticks_117 : decode cX12_ticks 117 = .ok (.aload_n 0, 1) := by decide +kernel
theorem dX12_ticks_118 : decode cX12_ticks 118 = .ok (.getfield 88, 3) := by decide +kernel
theorem dX12_ticks_121 : decode cX12_ticks 121 = .ok (.iload 5, 2) := by decide +kernel
theorem dX12_ticks_123 : decode cX12_ticks 123 = .ok (.iaload, 1) := by decide +kernel
theorem dX12_ticks_124 : decode cX12_ticks 124 = .ok (.invokestatic 348, 3) := by decide +kernel
theorem dX12_ticks_127 : decode cX12_ticks 127 = .ok (.istore 6, 2) := by decide +kernel
theorem dX12_ticks_73 : decode cX12_ticks 73 = .ok (.aload_n 0, 1) := by decide +kernel
theorem dX12_ticks_74 : decode cX12_ticks 74 = .ok (.iload 5, 2) := by decide +kernel
theorem dX12_ticks_76 : decode cX12_ticks 76 = .ok (.iconst 0, 1) := by decide +kernel
theorem dX12_ticks_77 : decode cX12_ticks 77 = .ok (.invokevirtual 340, 3) := by decide +kernel
theorem dX12_ticks_80 : decode cX12_ticks 80 = .ok (.ifCond .eq 25, 3) := by decide +kernel
theorem dX12_ticks_83 : decode cX12_ticks 83 = .ok (.iload 6, 2) := by decide +kernel
theorem dX12_ticks_85 : decode cX12_ticks 85 = .ok (.aload_n 0, 1) := by decide +kernel
theorem dX12_ticks_86 : decode cX12_ticks 86 = .ok (.getfield 88, 3) := by decide +kernel
theorem dX12_ticks_89 : decode cX12_ticks 89 = .ok (.iload 5, 2) := by decide +kernel
theorem dX12_ticks_91 : decode cX12_ticks 91 = .ok (.iaload, 1) := by decide +kernel
theorem dX12_ticks_92 : decode cX12_ticks 92 = .ok (.iadd, 1) := by decide +kernel
theorem dX12_ticks_93 : decode cX12_ticks 93 = .ok (.iconst 1, 1) := by decide +kernel
theorem dX12_ticks_94 : decode cX12_ticks 94 = .ok (.isub, 1) := by decide +kernel
theorem dX12_ticks_95 : decode cX12_ticks 95 = .ok (.aload_n 0, 1) := by decide +kernel
theorem dX12_ticks_96 : decode cX12_ticks 96 = .ok (.getfield 88, 3) := by decide +kernel
theorem dX12_ticks_99 : decode cX12_ticks 99 = .ok (.iload 5, 2) := by decide +kernel
theorem dX12_ticks_101 : decode cX12_ticks 101 = .ok (.iaload, 1) := by decide +kernel
theorem dX12_ticks_102 : decode cX12_ticks 102 = .ok (.idiv, 1) := by decide +kernel
theorem dX12_ticks_103 : decode cX12_ticks 103 = .ok (.istore 6, 2) := by decide +kernel
theorem dX12_ticks_14 : decode cX12_ticks 14 = .ok (.iload_n 3, 1) := by decide +kernel
theorem dX12_ticks_15 : decode cX12_ticks 15 = .ok (.aload_n 0, 1) := by decide +kernel
theorem dX12_ticks_16 : decode cX12_ticks 16 = .ok (.invokevirtual 321, 3) := by decide +kernel
theorem dX12_ticks_19 : decode cX12_ticks 19 = .ok (.if_icmp .ge 141, 3) := by decide +kernel
theorem dX12_ticks_160 : decode cX12_ticks 160 = .ok (.iload_n 2, 1) := by decide +kernel
theorem dX12_ticks_161 : decode cX12_ticks 161 = .ok (.ireturn, 1) := by decide +kernel
theorem dX12_ticks_22 : decode cX12_ticks 22 = .ok (.aload_n 0, 1) := by decide +kernel
theorem dX12_ticks_23 : decode cX12_ticks 23 = .ok (.iload_n 3, 1) := by decide +kernel
theorem dX12_ticks_24 : decode cX12_ticks 24 = .ok (.invokevirtual 331, 3) := by decide +kernel
theorem dX12_ticks_27 : decode cX12_ticks 27 = .ok (.istore 4, 2) := by decide +kernel
theorem dX12_ticks_29 : decode cX12_ticks 29 = .ok (.aload_n 0, 1) := by decide +kernel
theorem dX12_ticks_30 : decode cX12_ticks 30 = .ok (.getfield 94, 3) := by decide +kernel
theorem dX12_ticks_33 : decode cX12_ticks 33 = .ok (.iload_n 3, 1) := by decide +kernel
theorem dX12_ticks_34 : decode cX12_ticks 34 = .ok (.iaload, 1) := by decide +kernel
theorem dX12_ticks_35 : decode cX12_ticks 35 = .ok (.istore 5, 2) := by decide +kernel
theorem dX12_ticks_37 : decode cX12_ticks 37 = .ok (.aload_n 0, 1) := by decide +kernel
theorem dX12_ticks_38 : decode cX12_ticks 38 = .ok (.getfield 39, 3) := by decide +kernel
theorem dX12_ticks_41 : decode cX12_ticks 41 = .ok (.iload 4, 2) := by decide +kernel
theorem dX12_ticks_43 : decode cX12_ticks 43 = .ok (.iaload, 1) := by decide +kernel
theorem dX12_ticks_44 : decode cX12_ticks 44 = .ok (.iconst 1, 1) := by decide +kernel
theorem dX12_ticks_45 : decode cX12_ticks 45 = .ok (.if_icmp .gt 25, 3) := by decide +kernel
theorem dX12_ticks_70 : decode cX12_ticks 70 = .ok (.iconst 1, 1) := by decide +kernel
theorem dX12_ticks_71 : decode cX12_ticks 71 = .ok (.istore 6, 2) := by decide +kernel
theorem dX12_ticks_48 : decode cX12_ticks 48 = .ok (.aload_n 0, 1) := by decide +kernel
theorem dX12_ticks_49 : decode cX12_ticks 49 = .ok (.getfield 30, 3) := by decide +kernel
theorem dX12_ticks_52 : decode cX12_ticks 52 = .ok (.iconst 2, 1) := by decide +kernel
theorem dX12_ticks_53 : decode cX12_ticks 53 = .ok (.aload_n 0, 1) := by decide +kernel
theorem dX12_ticks_54 : decode cX12_ticks 54 = .ok (.getfield 240, 3) := by decide +kernel
theorem dX12_ticks_57 : decode cX12_ticks 57 = .ok (.imul, 1) := by decide +kernel
theorem dX12_ticks_58 : decode cX12_ticks 58 = .ok (.aload_n 0, 1) := by decide +kernel
theorem dX12_ticks_59 : decode cX12_ticks 59 = .ok (.getfield 42, 3) := by decide +kernel
theorem dX12_ticks_62 : decode cX12_ticks 62 = .ok (.iload 4, 2) := by decide +kernel
theorem dX12_ticks_64 : decode cX12_ticks 64 = .ok (.iaload, 1) := by decide +kernel
theorem dX12_ticks_65 : decode cX12_ticks 65 = .ok (.iadd, 1) := by decide +kernel
theorem dX12_ticks_66 : decode cX12_ticks 66 = .ok (.iaload, 1) := by decide +kernel
theorem dX12_ticks_67 : decode cX12_ticks 67 = .ok (.goto 4, 3) := by decide +kernel
theorem dX12_ticks_0 : decode cX12_ticks 0 = .ok (.aload_n 0, 1) := by decide +kernel
theorem dX12_ticks_1 : decode cX12_ticks 1 = .ok (.iload_n 1, 1) := by decide +kernel
theorem dX12_ticks_2 : decode cX12_ticks 2 = .ok (.invokevirtual 423, 3) := by decide +kernel
theorem dX12_ticks_5 : decode cX12_ticks 5 = .ok (.ifCond .ne 5, 3) := by decide +kernel
theorem dX12_ticks_10 : decode cX12_ticks 10 = .ok (.iconst 0, 1) := by decide +kernel
theorem dX12_ticks_11 : decode cX12_ticks 11 = .ok (.istore_n 2, 1) := by decide +kernel
theorem dX12_ticks_12 : decode cX12_ticks 12 = .ok (.iconst 0, 1) := by decide +kernel
theorem dX12_ticks_13 : decode cX12_ticks 13 = .ok (.istore_n 3, 1) := by decide +kernel
theorem dX12_ticks_8 : decode cX12_ticks 8 = .ok (.iconst (-1), 1) := by decide +kernel
theorem dX12_ticks_9 : decode cX12_ticks 9 = .ok (.ireturn, 1) := by decide +kernel
theorem rg_583 : 12 ∉ [37, 41, 42, 43, 44, 45, 46, 32, 47, 48, 49, 54, 55, 56, 57] := by decide
theorem rg_660 : 17 ∉ [37, 41, 42, 43, 44, 45, 46, 32, 47, 48, 49, 54, 55, 56, 57] := by decide
theorem rg_661 : 0 ≤ (1 : Int32).toInt ∧ (1 : Int32).toInt ≤ 6 := by decide
theorem rg_662 : 18 ∉ [37, 41, 42, 43, 44, 45, 46, 32, 47, 48, 49, 54, 55, 56, 57] := by decide
theorem rg_663 : 14 ∉ [37, 41, 42, 43, 44, 45, 46, 32, 47, 48, 49, 54, 55, 56, 57] := by decide
def ow_n_ticks : List Cond := [.fieldLink RX12 85 "NearEnoughModel" "cKind" "[I", .fieldLink RX12 88 "NearEnoughModel" "cN" "[I", .fieldLink RX12 94 "NearEnoughModel" "on" "[I", .fieldLink RX12 39 "NearEnoughModel" "sKind" "[I", .fieldLink RX12 30 "NearEnoughModel" "rHas" "[I", .fieldLink RX12 240 "NearEnoughModel" "bank" "I", .fieldLink RX12 42 "NearEnoughModel" "sA" "[I"]
def vs_n_ticks : List Cond := .code yX12_ticks cX12_ticks 7 (some .int) :: (ow_n_ticks ++ (([.methodLink RX12 340 yX12_isOn, .instanceMethod yX12_isOn, .selects RX12 yX12_isOn yX12_isOn, .initialized RX12] : List Cond) ++ (vs_n_isOn ++ (([.methodLink RX12 348 yX12_least2, .static yX12_least2, .initialized yX12_least2.cls] : List Cond) ++ (vs_n_least2 ++ (([.methodLink RX12 321 yX12_steps, .instanceMethod yX12_steps, .selects RX12 yX12_steps yX12_steps, .initialized RX12] : List Cond) ++ (vs_n_steps ++ (([.methodLink RX12 331 yX12_at0, .instanceMethod yX12_at0, .selects RX12 yX12_at0 yX12_at0, .initialized RX12] : List Cond) ++ (vs_n_at0 ++ (([.methodLink RX12 423 yX12_isChoice, .instanceMethod yX12_isChoice, .selects RX12 yX12_isChoice yX12_isChoice, .initialized RX12] : List Cond) ++ (vs_n_isChoiceV ++ (wsX120))))))))))))
theorem vg_n_ticks : vs_n_ticks.all goodWord = true := by decide +kernel
theorem dd_n_ticks : yX12_ticks.cls = RX12 ∧ yX12_ticks.cls ≠ "java/lang/invoke/MethodHandle" ∧ yX12_ticks.cls ≠ "java/lang/invoke/VarHandle" ∧ (parseMethodDescriptor yX12_ticks.desc).map (fun d => d.parameters.length) = some 1 := by decide +kernel
def rm_n_ticks : Room := { frames := 1, cells := 0, slots := 0, locals := 22 }
theorem gd_n_ticks_340_n_isOn : GoodIn vs_n_ticks (wsV RX12 340 RX12 yX12_isOn vs_n_isOn) := goodIn_app (goodIn_sub (fun w h => (List.mem_cons_of_mem _ (List.mem_append_right _ (List.mem_append_left _ h)))) (by decide +kernel)) (goodIn_sub (fun w h => (List.mem_cons_of_mem _ (List.mem_append_right _ (List.mem_append_right _ (List.mem_append_left _ h))))) vg_n_isOn)
theorem gd_n_ticks_348_n_least2 : GoodIn vs_n_ticks (va_wsS RX12 348 yX12_least2 vs_n_least2) := goodIn_app (goodIn_sub (fun w h => (List.mem_cons_of_mem _ (List.mem_append_right _ (List.mem_append_right _ (List.mem_append_right _ (List.mem_append_left _ h)))))) (by decide +kernel)) (goodIn_sub (fun w h => (List.mem_cons_of_mem _ (List.mem_append_right _ (List.mem_append_right _ (List.mem_append_right _ (List.mem_append_right _ (List.mem_append_left _ h))))))) vg_n_least2)
theorem gd_n_ticks_321_n_steps : GoodIn vs_n_ticks (wsV RX12 321 RX12 yX12_steps vs_n_steps) := goodIn_app (goodIn_sub (fun w h => (List.mem_cons_of_mem _ (List.mem_append_right _ (List.mem_append_right _ (List.mem_append_right _ (List.mem_append_right _ (List.mem_append_right _ (List.mem_append_left _ h)))))))) (by decide +kernel)) (goodIn_sub (fun w h => (List.mem_cons_of_mem _ (List.mem_append_right _ (List.mem_append_right _ (List.mem_append_right _ (List.mem_append_right _ (List.mem_append_right _ (List.mem_append_right _ (List.mem_append_left _ h))))))))) vg_n_steps)
theorem gd_n_ticks_331_n_at0 : GoodIn vs_n_ticks (wsV RX12 331 RX12 yX12_at0 vs_n_at0) := goodIn_app (goodIn_sub (fun w h => (List.mem_cons_of_mem _ (List.mem_append_right _ (List.mem_append_right _ (List.mem_append_right _ (List.mem_append_right _ (List.mem_append_right _ (List.mem_append_right _ (List.mem_append_right _ (List.mem_append_left _ h)))))))))) (by decide +kernel)) (goodIn_sub (fun w h => (List.mem_cons_of_mem _ (List.mem_append_right _ (List.mem_append_right _ (List.mem_append_right _ (List.mem_append_right _ (List.mem_append_right _ (List.mem_append_right _ (List.mem_append_right _ (List.mem_append_right _ (List.mem_append_left _ h))))))))))) vg_n_at0)
theorem gd_n_ticks_423_n_isChoiceV : GoodIn vs_n_ticks (wsV RX12 423 RX12 yX12_isChoice vs_n_isChoiceV) := goodIn_app (goodIn_sub (fun w h => (List.mem_cons_of_mem _ (List.mem_append_right _ (List.mem_append_right _ (List.mem_append_right _ (List.mem_append_right _ (List.mem_append_right _ (List.mem_append_right _ (List.mem_append_right _ (List.mem_append_right _ (List.mem_append_right _ (List.mem_append_left _ h)))))))))))) (by decide +kernel)) (goodIn_sub (fun w h => (List.mem_cons_of_mem _ (List.mem_append_right _ (List.mem_append_right _ (List.mem_append_right _ (List.mem_append_right _ (List.mem_append_right _ (List.mem_append_right _ (List.mem_append_right _ (List.mem_append_right _ (List.mem_append_right _ (List.mem_append_right _ (List.mem_append_left _ h))))))))))))) vg_n_isChoiceV)
set_option maxHeartbeats 400000 in
set_option maxRecDepth 100000 in
theorem n_ticks (l : Launch) (dC : Nat → ClassId) (dI : Nat → Nat → Nat) (h : Nat) (ad : Nat → Nat) (cl : Nat → ClassId) (sz : Nat) (σ : MS) (x : Int32) (hI : Inv σ) (hR : RelP σ (σ.1 29).toNatClampNeg) (hC : ChR σ) : Met l yX12_ticks vs_n_ticks rm_n_ticks (va_Pc [.ref h, .int x] (wSt dC dI (mW h ad cl σ) (mT cl) sz)) (va_Qi (fun (r : Int32) (τ : MS) => Inv τ ∧ eqx [37, 41, 42, 43, 44, 45, 46, 32, 47, 48, 49, 54, 55, 56, 57] τ σ) (fun (τ : MS) => wEn dC dI (va_A (mW h ad cl σ) sz) (mW h ad cl τ) []) (va_A (mW h ad cl σ) sz)) 0 0 (va_A (mW h ad cl σ) sz) := by
  refine Met.ofW (cc := cX12_ticks) (maxL := 7) (ret := (some .int)) (by decide) rfl ?_
  intro p e s m args below meth c s₁ B hml hv
  obtain ⟨rfl, hsz, hP, hK, hD0, hE⟩ := hv
  have hx := B.exec
  have hb := B.bytes
  have hr := B.returns
  have hts := atoms_spec (ws := vs_n_ticks) B.pre
  have hown : s.vm.findClass RX12 = some m.cls := findClass_of_methodNamed B.named
  have hlocks := B.notSynchronized
  subst hsz
  have hD := hD0.self (sz := s.heap.size)
  generalize hAe : va_A (mW h ad cl σ) s.heap.size = A at hD ⊢
  have hA : ∀ q : Nat, s.heap.size ≤ q → A q := fun q h => by rw [← hAe]; exact Or.inr h
  have hl := lv_entry ([.ref h, .int x]) (n := 7) (Nat.le_of_ble_eq_true rfl)
  rw [lg_entry_eq]
  generalize (lg_sl ([.ref h, .int x]) ++ List.replicate (7 - (lg_sl ([.ref h, .int x])).length) Slot.unset).toArray = ls at hl ⊢
  have hl : lv_has ls 7 [(0, .ref h), (1, .int x)] := hl
  have ho := fun w (h : w ∈ ow_n_ticks) => hts w (List.mem_cons_of_mem _ (List.mem_append_left _ h))
  have hin12 : ∀ w ∈ u_ws RX12 TX12 59, w ∈ vs_n_ticks := fun w h => (List.mem_cons_of_mem _ (List.mem_append_right _ (List.mem_append_right _ (List.mem_append_right _ (List.mem_append_right _ (List.mem_append_right _ (List.mem_append_right _ (List.mem_append_right _ (List.mem_append_right _ (List.mem_append_right _ (List.mem_append_right _ (List.mem_append_right _ h))))))))))))
  refine zQ (fun Q hQ => ?_)
  have hrows : (σ.2.1 11 (σ.1 29).toNatClampNeg).toInt ≤ 2 := (hI.2 11 _ (cl_lt (n := 2) (hI.1 29).1 (Int.lt_of_le_of_lt (hI.1 29).2 (by decide)))).2
  have pt_14 : ∀ (n14 : Nat) (τ : MS) (sm : Int32) (kv : Int32) (H : Heap) (locs : List Loc) (ls : Array Slot), (12 - kv.toInt).toNat < n14 → (Inv τ) → (eqx [37, 41, 42, 43, 44, 45, 46, 32, 47, 48, 49, 54, 55, 56, 57] τ σ) → (0 ≤ kv.toInt) → (OnOk τ) → va_P (dC, dI) vwCl (mW h ad cl τ) H → va_D A (mW h ad cl τ) → va_S A s.heap H locs → lv_has ls 7 [(0, .ref h), (1, .int x), (2, .int sm), (3, .int kv)] → W p l e (headSpec vs_n_ticks rm_n_ticks).room s m #[Value.ref h, Value.int x] below meth c H locs 0 0 Q (F0 m 14 ls []) := by
    intro n14
    induction n14 with
    | zero => intro τ sm kv H locs ls hn14 hIτ hxτ hk0τ honτ hP hD hS hl; exact absurd hn14 (Nat.not_lt_zero _)
    | succ n14 ih14 =>
      intro τ sm kv H locs ls hn14 hIτ hxτ hk0τ honτ hP hD hS hl
      have bτ_29 : 0 ≤ (τ.1 29).toInt ∧ (τ.1 29).toInt ≤ 1 := hIτ.1 29
      have qq1_ : (τ.1 29).toInt = ((σ.1 29) : Int32).toInt := congrArg Int32.toInt (((hxτ 29 rg_571).1))
      have E12 : (τ.2.1 12 (τ.1 29).toNatClampNeg).toInt = (σ.2.1 12 (σ.1 29).toNatClampNeg).toInt := by rw [(hxτ 29 rg_571).1, (hxτ 12 rg_583).2.1]
      have pt_129 : ∀ (cv : Int32) (nv : Int32) (H : Heap) (locs : List Loc) (ls : Array Slot), (-1 ≤ cv.toInt ∧ cv.toInt ≤ 11 ∧ (0 ≤ cv.toInt → (σ.2.1 34 (Int32.toNatClampNeg cv)).toInt = 0 → 2 ≤ (σ.2.1 35 (Int32.toNatClampNeg cv)).toInt)) → (0 ≤ kv.toInt ∧ kv.toInt ≤ 11) → va_P (dC, dI) vwCl (mW h ad cl τ) H → va_D A (mW h ad cl τ) → va_S A s.heap H locs → lv_has ls 7 [(0, .ref h), (1, .int x), (2, .int sm), (3, .int kv), (5, .int cv), (6, .int nv)] → W p l e (headSpec vs_n_ticks rm_n_ticks).room s m #[Value.ref h, Value.int x] below meth c H locs 0 0 Q (F0 m 129 ls []) := by
        intro cv nv H locs ls hcv hkv hP hD hS hl
        have bτ_29 : 0 ≤ (τ.1 29).toInt ∧ (τ.1 29).toInt ≤ 1 := hIτ.1 29
        have qq2_ : (τ.1 29).toInt = ((σ.1 29) : Int32).toInt := congrArg Int32.toInt (((hxτ 29 rg_571).1))
        have EkT_ : (τ.2.1 34 (Int32.toNatClampNeg cv)).toInt = (σ.2.1 34 (Int32.toNatClampNeg cv)).toInt := by rw [(hxτ 34 rg_590).2.1]
        refine lv_iload_n hx hb dX12_ticks_129 rfl (lv_at hl 2 rfl) ?_
        refine lv_iload hx hb dX12_ticks_130 (lv_at hl 4 rfl) ?_
        refine lv_if_lt (tgt := 150) hx hb dX12_ticks_132 rfl (fun c3_ => ?_) (fun c3_ => ?_)
        · have tc3_ := (show cv.toInt < 0 from ti_lt rfl rg_11 c3_)
          refine lv_iload hx hb dX12_ticks_150 (lv_at hl 5 rfl) ?_
          refine lv_iadd hx hb dX12_ticks_152 ?_
          refine lv_topi (fun z4_ ez4_ => ?_)
          refine lv_istore_n (lv' := [(2, .int z4_), (0, .ref h), (1, .int x), (3, .int kv), (5, .int cv), (6, .int nv)]) hx hb dX12_ticks_153 rfl hl (Nat.le_of_ble_eq_true rfl) rfl (fun ls hl => ?_)
          obtain ⟨z5_, ez5_⟩ : ∃ y : Int32, y = kv + 1 := ⟨_, rfl⟩
          have o1 : -2147483648 ≤ kv.toInt + 1 := by omega
          have o2 : kv.toInt + 1 ≤ 2147483647 := by omega
          have tz5_ := ti_add ez5_ rfl rg_18 o1 o2
          refine lv_iinc (v := z5_) (lv' := [(3, .int z5_), (2, .int z4_), (0, .ref h), (1, .int x), (5, .int cv), (6, .int nv)]) hx hb dX12_ticks_154 hl (k := 3) rfl (iincp ez5_ rg_6) (Nat.le_of_ble_eq_true rfl) rfl (fun ls hl => ?_)
          refine lv_goto (tgt := 14) hx hb dX12_ticks_157 rfl ?_
          have o3 : (12 - z5_.toInt).toNat < n14 := by omega
          have o4 : 0 ≤ z5_.toInt := by omega
          exact ih14 τ z4_ z5_ _ _ _ (show (12 - z5_.toInt).toNat < n14 from o3) hIτ hxτ (show 0 ≤ z5_.toInt from o4) honτ hP hD hS (lv_sub hl [2, 3, 1, 0] rfl)
        · have tc3_ := (show 0 ≤ cv.toInt from ti_nlt rfl rg_11 c3_)
          refine lv_aload_n hx hb dX12_ticks_135 rfl (lv_at hl 0 rfl) ?_
          refine va_get (D := (dC, dI)) (ci := 12) (v := .ref (ad 34)) (C := RX12) (T := TX12) (N := 59) hx hb hts hin12 hown hK hP 0 rfl rfl 34 (Nat.le_of_ble_eq_true rfl) (ho (.fieldLink RX12 85 "NearEnoughModel" "cKind" "[I") (List.mem_of_getElem? (i := 0) rfl)) (fun _ h9 => h9) rfl dX12_ticks_136 ?_
          refine lv_iload hx hb dX12_ticks_139 (lv_at hl 4 rfl) ?_
          have o5 : 0 ≤ cv.toInt := by omega
          have o6 : cv.toInt < ((12 : Nat) : Int) := by omega
          refine va_iald hx hb hK hP 24 23 rfl rfl (ti_inx o5 o6) dX12_ticks_141 ?_
          refine lv_topi (fun z6_ ez6_ => ?_)
          have gz6_ : z6_.toInt = ((σ.2.1 34) (Int32.toNatClampNeg cv)).toInt := congrArg Int32.toInt (ez6_.trans (congrFun (hxτ 34 rg_590).2.1 (Int32.toNatClampNeg cv)))
          have bz6_ : 0 ≤ z6_.toInt ∧ z6_.toInt ≤ 6 := by rw [ez6_]; exact (hIτ.2 34) _ (cl_lt (n := 12) o5 o6)
          refine lv_iconst (v := 4) hx hb dX12_ticks_142 rg_31 ?_
          refine lv_icmp_ne (tgt := 150) hx hb dX12_ticks_143 rfl (fun c7_ => ?_) (fun c7_ => ?_)
          · have tc7_ := (show z6_.toInt ≠ 4 from ti_ne rfl rg_32 c7_)
            refine lv_iload hx hb dX12_ticks_150 (lv_at hl 5 rfl) ?_
            refine lv_iadd hx hb dX12_ticks_152 ?_
            refine lv_topi (fun z8_ ez8_ => ?_)
            refine lv_istore_n (lv' := [(2, .int z8_), (0, .ref h), (1, .int x), (3, .int kv), (5, .int cv), (6, .int nv)]) hx hb dX12_ticks_153 rfl hl (Nat.le_of_ble_eq_true rfl) rfl (fun ls hl => ?_)
            obtain ⟨z9_, ez9_⟩ : ∃ y : Int32, y = kv + 1 := ⟨_, rfl⟩
            have o7 : -2147483648 ≤ kv.toInt + 1 := by omega
            have o8 : kv.toInt + 1 ≤ 2147483647 := by omega
            have tz9_ := ti_add ez9_ rfl rg_18 o7 o8
            refine lv_iinc (v := z9_) (lv' := [(3, .int z9_), (2, .int z8_), (0, .ref h), (1, .int x), (5, .int cv), (6, .int nv)]) hx hb dX12_ticks_154 hl (k := 3) rfl (iincp ez9_ rg_6) (Nat.le_of_ble_eq_true rfl) rfl (fun ls hl => ?_)
            refine lv_goto (tgt := 14) hx hb dX12_ticks_157 rfl ?_
            have o9 : (12 - z9_.toInt).toNat < n14 := by omega
            have o10 : 0 ≤ z9_.toInt := by omega
            exact ih14 τ z8_ z9_ _ _ _ (show (12 - z9_.toInt).toNat < n14 from o9) hIτ hxτ (show 0 ≤ z9_.toInt from o10) honτ hP hD hS (lv_sub hl [2, 3, 1, 0] rfl)
          · have tc7_ := (show z6_.toInt = 4 from ti_eq rfl rg_32 c7_)
            refine lv_iconst (v := 0) hx hb dX12_ticks_146 rg_0 ?_
            refine lv_goto (tgt := 152) hx hb dX12_ticks_147 rfl ?_
            refine lv_iadd hx hb dX12_ticks_152 ?_
            refine lv_topi (fun z10_ ez10_ => ?_)
            refine lv_istore_n (lv' := [(2, .int z10_), (0, .ref h), (1, .int x), (3, .int kv), (5, .int cv), (6, .int nv)]) hx hb dX12_ticks_153 rfl hl (Nat.le_of_ble_eq_true rfl) rfl (fun ls hl => ?_)
            obtain ⟨z11_, ez11_⟩ : ∃ y : Int32, y = kv + 1 := ⟨_, rfl⟩
            have o11 : -2147483648 ≤ kv.toInt + 1 := by omega
            have o12 : kv.toInt + 1 ≤ 2147483647 := by omega
            have tz11_ := ti_add ez11_ rfl rg_18 o11 o12
            refine lv_iinc (v := z11_) (lv' := [(3, .int z11_), (2, .int z10_), (0, .ref h), (1, .int x), (5, .int cv), (6, .int nv)]) hx hb dX12_ticks_154 hl (k := 3) rfl (iincp ez11_ rg_6) (Nat.le_of_ble_eq_true rfl) rfl (fun ls hl => ?_)
            refine lv_goto (tgt := 14) hx hb dX12_ticks_157 rfl ?_
            have o13 : (12 - z11_.toInt).toNat < n14 := by omega
            have o14 : 0 ≤ z11_.toInt := by omega
            exact ih14 τ z10_ z11_ _ _ _ (show (12 - z11_.toInt).toNat < n14 from o13) hIτ hxτ (show 0 ≤ z11_.toInt from o14) honτ hP hD hS (lv_sub hl [2, 3, 1, 0] rfl)
      have pt_105 : ∀ (cv : Int32) (nv : Int32) (H : Heap) (locs : List Loc) (ls : Array Slot), (-1 ≤ cv.toInt ∧ cv.toInt ≤ 11 ∧ (0 ≤ cv.toInt → (σ.2.1 34 (Int32.toNatClampNeg cv)).toInt = 0 → 2 ≤ (σ.2.1 35 (Int32.toNatClampNeg cv)).toInt)) → (0 ≤ kv.toInt ∧ kv.toInt ≤ 11) → va_P (dC, dI) vwCl (mW h ad cl τ) H → va_D A (mW h ad cl τ) → va_S A s.heap H locs → lv_has ls 7 [(0, .ref h), (1, .int x), (2, .int sm), (3, .int kv), (5, .int cv), (6, .int nv)] → W p l e (headSpec vs_n_ticks rm_n_ticks).room s m #[Value.ref h, Value.int x] below meth c H locs 0 0 Q (F0 m 105 ls []) := by
        intro cv nv H locs ls hcv hkv hP hD hS hl
        have bτ_29 : 0 ≤ (τ.1 29).toInt ∧ (τ.1 29).toInt ≤ 1 := hIτ.1 29
        have qq12_ : (τ.1 29).toInt = ((σ.1 29) : Int32).toInt := congrArg Int32.toInt (((hxτ 29 rg_571).1))
        have EkT_ : (τ.2.1 34 (Int32.toNatClampNeg cv)).toInt = (σ.2.1 34 (Int32.toNatClampNeg cv)).toInt := by rw [(hxτ 34 rg_590).2.1]
        refine lv_aload_n hx hb dX12_ticks_105 rfl (lv_at hl 0 rfl) ?_
        refine lv_iload hx hb dX12_ticks_106 (lv_at hl 4 rfl) ?_
        refine lv_iconst (v := 5) hx hb dX12_ticks_108 rg_14 ?_
        have kk13_ : (5 : Int32).toInt = 5 := rg_15
        have o15 : -1 ≤ cv.toInt := by omega
        have o16 : cv.toInt ≤ 11 := by omega
        refine zy_i (va_runV (As := [.int cv, .int 5]) (rest := []) ⟨hx, hb, hml, hown, hts⟩ (n_isOn l dC dI h ad cl H.size τ cv 5 hIτ ⟨o15, o16⟩) (cwV 2 hts gd_n_ticks_340_n_isOn rfl rfl rfl dd_n_isOn ⟨Nat.le_of_ble_eq_true rfl, Nat.le_of_ble_eq_true rfl⟩) (preV hP hK hD hE (ci := 12) (q0 := 0) rfl rfl) rfl rfl hl.1 rfl (lv_room (Nat.le_of_ble_eq_true rfl)) dX12_ticks_109 ⟨Nat.le_of_ble_eq_true rfl, Nat.le_of_ble_eq_true rfl⟩) hD hS hA (fun z15_ τ14_ H locs hq hP hD hS => ?_)
        obtain ⟨rfl, f16_⟩ := hq
        refine W.widen (k := 0) (n := 0) (Nat.le_of_ble_eq_true rfl) (Nat.le_of_ble_eq_true rfl) ?_
        refine lv_if_eq (tgt := 129) hx hb dX12_ticks_112 rfl (fun c17_ => ?_) (fun c17_ => ?_)
        · have tc17_ := (show z15_.toInt = 0 from ti_eq rfl rg_11 c17_)
          exact pt_129  cv nv _ _ _ hcv hkv hP hD hS (lv_sub hl [0, 1, 2, 3, 4, 5] rfl)
        · have tc17_ := (show z15_.toInt ≠ 0 from ti_ne rfl rg_11 c17_)
          refine lv_iload hx hb dX12_ticks_115 (lv_at hl 5 rfl) ?_
          refine lv_aload_n hx hb dX12_ticks_117 rfl (lv_at hl 0 rfl) ?_
          refine va_get (D := (dC, dI)) (ci := 12) (v := .ref (ad 35)) (C := RX12) (T := TX12) (N := 59) hx hb hts hin12 hown hK hP 0 rfl rfl 35 (Nat.le_of_ble_eq_true rfl) (ho (.fieldLink RX12 88 "NearEnoughModel" "cN" "[I") (List.mem_of_getElem? (i := 1) rfl)) (fun _ h9 => h9) rfl dX12_ticks_118 ?_
          refine lv_iload hx hb dX12_ticks_121 (lv_at hl 4 rfl) ?_
          have o17 : 0 ≤ cv.toInt := by omega
          have o18 : cv.toInt < ((12 : Nat) : Int) := by omega
          refine va_iald hx hb hK hP 25 24 rfl rfl (ti_inx o17 o18) dX12_ticks_123 ?_
          refine lv_topi (fun z18_ ez18_ => ?_)
          have gz18_ : z18_.toInt = ((σ.2.1 35) (Int32.toNatClampNeg cv)).toInt := congrArg Int32.toInt (ez18_.trans (congrFun (hxτ 35 rg_591).2.1 (Int32.toNatClampNeg cv)))
          have bz18_ : 0 ≤ z18_.toInt ∧ z18_.toInt ≤ 99 := by rw [ez18_]; exact (hIτ.2 35) _ (cl_lt (n := 12) o17 o18)
          refine zs_i (va_runS (As := [.int nv, .int z18_]) (rest := []) ⟨hx, hb, hml, hown, hts⟩ (n_least2 l dC dI nv z18_  H.size) (va_cwS 2 hts gd_n_ticks_348_n_least2 rfl rfl rfl dd_n_least2 ⟨Nat.le_of_ble_eq_true rfl, Nat.le_of_ble_eq_true rfl⟩) (preS (A := A) empP (hK.sub (tys' := []) [] rfl) empD hE) rfl rfl hl.1 rfl (lv_room (Nat.le_of_ble_eq_true rfl)) dX12_ticks_124 ⟨Nat.le_of_ble_eq_true rfl, Nat.le_of_ble_eq_true rfl⟩) hP hD hS hA (fun z19_ H locs hq hP hD hS => ?_)
          obtain ⟨f20_, f21_, f22_⟩ := hq
          refine W.widen (k := 0) (n := 0) (Nat.le_of_ble_eq_true rfl) (Nat.le_of_ble_eq_true rfl) ?_
          refine lv_istore (lv' := [(6, .int z19_), (0, .ref h), (1, .int x), (2, .int sm), (3, .int kv), (5, .int cv)]) hx hb dX12_ticks_127 hl (Nat.le_of_ble_eq_true rfl) rfl (fun ls hl => ?_)
          exact pt_129  cv z19_ _ _ _ hcv hkv hP hD hS (lv_sub hl [1, 2, 3, 4, 5, 0] rfl)
      have pt_73 : ∀ (cv : Int32) (nv : Int32) (H : Heap) (locs : List Loc) (ls : Array Slot), (-1 ≤ cv.toInt ∧ cv.toInt ≤ 11 ∧ (0 ≤ cv.toInt → (σ.2.1 34 (Int32.toNatClampNeg cv)).toInt = 0 → 2 ≤ (σ.2.1 35 (Int32.toNatClampNeg cv)).toInt)) → (0 ≤ kv.toInt ∧ kv.toInt ≤ 11) → (0 ≤ nv.toInt ∧ nv.toInt ≤ 6) → va_P (dC, dI) vwCl (mW h ad cl τ) H → va_D A (mW h ad cl τ) → va_S A s.heap H locs → lv_has ls 7 [(0, .ref h), (1, .int x), (2, .int sm), (3, .int kv), (5, .int cv), (6, .int nv)] → W p l e (headSpec vs_n_ticks rm_n_ticks).room s m #[Value.ref h, Value.int x] below meth c H locs 0 0 Q (F0 m 73 ls []) := by
        intro cv nv H locs ls hcv hkv hnv hP hD hS hl
        have bτ_29 : 0 ≤ (τ.1 29).toInt ∧ (τ.1 29).toInt ≤ 1 := hIτ.1 29
        have qq23_ : (τ.1 29).toInt = ((σ.1 29) : Int32).toInt := congrArg Int32.toInt (((hxτ 29 rg_571).1))
        have EkT_ : (τ.2.1 34 (Int32.toNatClampNeg cv)).toInt = (σ.2.1 34 (Int32.toNatClampNeg cv)).toInt := by rw [(hxτ 34 rg_590).2.1]
        refine lv_aload_n hx hb dX12_ticks_73 rfl (lv_at hl 0 rfl) ?_
        refine lv_iload hx hb dX12_ticks_74 (lv_at hl 4 rfl) ?_
        refine lv_iconst (v := 0) hx hb dX12_ticks_76 rg_0 ?_
        have kk24_ : (0 : Int32).toInt = 0 := rg_11
        have o19 : -1 ≤ cv.toInt := by omega
        have o20 : cv.toInt ≤ 11 := by omega
        refine zy_i (va_runV (As := [.int cv, .int 0]) (rest := []) ⟨hx, hb, hml, hown, hts⟩ (n_isOn l dC dI h ad cl H.size τ cv 0 hIτ ⟨o19, o20⟩) (cwV 2 hts gd_n_ticks_340_n_isOn rfl rfl rfl dd_n_isOn ⟨Nat.le_of_ble_eq_true rfl, Nat.le_of_ble_eq_true rfl⟩) (preV hP hK hD hE (ci := 12) (q0 := 0) rfl rfl) rfl rfl hl.1 rfl (lv_room (Nat.le_of_ble_eq_true rfl)) dX12_ticks_77 ⟨Nat.le_of_ble_eq_true rfl, Nat.le_of_ble_eq_true rfl⟩) hD hS hA (fun z26_ τ25_ H locs hq hP hD hS => ?_)
        obtain ⟨rfl, f27_⟩ := hq
        refine W.widen (k := 0) (n := 0) (Nat.le_of_ble_eq_true rfl) (Nat.le_of_ble_eq_true rfl) ?_
        refine lv_if_eq (tgt := 105) hx hb dX12_ticks_80 rfl (fun c28_ => ?_) (fun c28_ => ?_)
        · have tc28_ := (show z26_.toInt = 0 from ti_eq rfl rg_11 c28_)
          exact pt_105  cv nv _ _ _ hcv hkv hP hD hS (lv_sub hl [0, 1, 2, 3, 4, 5] rfl)
        · have tc28_ := (show z26_.toInt ≠ 0 from ti_ne rfl rg_11 c28_)
          refine lv_iload hx hb dX12_ticks_83 (lv_at hl 5 rfl) ?_
          refine lv_aload_n hx hb dX12_ticks_85 rfl (lv_at hl 0 rfl) ?_
          refine va_get (D := (dC, dI)) (ci := 12) (v := .ref (ad 35)) (C := RX12) (T := TX12) (N := 59) hx hb hts hin12 hown hK hP 0 rfl rfl 35 (Nat.le_of_ble_eq_true rfl) (ho (.fieldLink RX12 88 "NearEnoughModel" "cN" "[I") (List.mem_of_getElem? (i := 1) rfl)) (fun _ h9 => h9) rfl dX12_ticks_86 ?_
          refine lv_iload hx hb dX12_ticks_89 (lv_at hl 4 rfl) ?_
          have o21 : 0 ≤ cv.toInt := by omega
          have o22 : cv.toInt < ((12 : Nat) : Int) := by omega
          refine va_iald hx hb hK hP 25 24 rfl rfl (ti_inx o21 o22) dX12_ticks_91 ?_
          refine lv_topi (fun z29_ ez29_ => ?_)
          have gz29_ : z29_.toInt = ((σ.2.1 35) (Int32.toNatClampNeg cv)).toInt := congrArg Int32.toInt (ez29_.trans (congrFun (hxτ 35 rg_591).2.1 (Int32.toNatClampNeg cv)))
          have bz29_ : 0 ≤ z29_.toInt ∧ z29_.toInt ≤ 99 := by rw [ez29_]; exact (hIτ.2 35) _ (cl_lt (n := 12) o21 o22)
          refine lv_iadd hx hb dX12_ticks_92 ?_
          refine lv_topi (fun z30_ ez30_ => ?_)
          have o23 : -2147483648 ≤ nv.toInt + z29_.toInt := by omega
          have o24 : nv.toInt + z29_.toInt ≤ 2147483647 := by omega
          have tz30_ : z30_.toInt = nv.toInt + z29_.toInt := ti_add ez30_ rfl rfl o23 o24
          refine lv_iconst (v := 1) hx hb dX12_ticks_93 rg_6 ?_
          refine lv_isub hx hb dX12_ticks_94 ?_
          refine lv_topi (fun z31_ ez31_ => ?_)
          have o25 : -2147483648 ≤ z30_.toInt - 1 := by omega
          have o26 : z30_.toInt - 1 ≤ 2147483647 := by omega
          have tz31_ : z31_.toInt = z30_.toInt - 1 := ti_sub ez31_ rfl rg_18 o25 o26
          refine lv_aload_n hx hb dX12_ticks_95 rfl (lv_at hl 0 rfl) ?_
          refine va_get (D := (dC, dI)) (ci := 12) (v := .ref (ad 35)) (C := RX12) (T := TX12) (N := 59) hx hb hts hin12 hown hK hP 0 rfl rfl 35 (Nat.le_of_ble_eq_true rfl) (ho (.fieldLink RX12 88 "NearEnoughModel" "cN" "[I") (List.mem_of_getElem? (i := 1) rfl)) (fun _ h9 => h9) rfl dX12_ticks_96 ?_
          refine lv_iload hx hb dX12_ticks_99 (lv_at hl 4 rfl) ?_
          refine va_iald hx hb hK hP 25 24 rfl rfl (ti_inx o21 o22) dX12_ticks_101 ?_
          refine lv_topi (fun z32_ ez32_ => ?_)
          have qq33_ : z32_.toInt = z29_.toInt := congrArg Int32.toInt ((ez32_.trans (congrFun (hxτ 35 rg_591).2.1 (Int32.toNatClampNeg cv))).trans ((ez29_.trans (congrFun (hxτ 35 rg_591).2.1 (Int32.toNatClampNeg cv)))).symm)
          have gz32_ : z32_.toInt = ((σ.2.1 35) (Int32.toNatClampNeg cv)).toInt := congrArg Int32.toInt (ez32_.trans (congrFun (hxτ 35 rg_591).2.1 (Int32.toNatClampNeg cv)))
          have bz32_ : 0 ≤ z32_.toInt ∧ z32_.toInt ≤ 99 := by rw [ez32_]; exact (hIτ.2 35) _ (cl_lt (n := 12) o21 o22)
          have o27 : z32_.toInt ≠ 0 := by omega
          refine lv_idiv hx hb dX12_ticks_102 (i_ne o27) ?_
          refine lv_topi (fun z34_ ez34_ => ?_)
          refine lv_istore (lv' := [(6, .int z34_), (0, .ref h), (1, .int x), (2, .int sm), (3, .int kv), (5, .int cv)]) hx hb dX12_ticks_103 hl (Nat.le_of_ble_eq_true rfl) rfl (fun ls hl => ?_)
          exact pt_105  cv z34_ _ _ _ hcv hkv hP hD hS (lv_sub hl [1, 2, 3, 4, 5, 0] rfl)
      refine lv_iload_n hx hb dX12_ticks_14 rfl (lv_at hl 3 rfl) ?_
      refine lv_aload_n hx hb dX12_ticks_15 rfl (lv_at hl 0 rfl) ?_
      refine zy_i (va_runV (As := []) (rest := [.int kv]) ⟨hx, hb, hml, hown, hts⟩ (n_steps l dC dI h ad cl H.size τ  hIτ) (cwV 0 hts gd_n_ticks_321_n_steps rfl rfl rfl dd_n_steps ⟨Nat.le_of_ble_eq_true rfl, Nat.le_of_ble_eq_true rfl⟩) (preV hP hK hD hE (ci := 12) (q0 := 0) rfl rfl) rfl rfl hl.1 rfl (lv_room (Nat.le_of_ble_eq_true rfl)) dX12_ticks_16 ⟨Nat.le_of_ble_eq_true rfl, Nat.le_of_ble_eq_true rfl⟩) hD hS hA (fun z36_ τ35_ H locs hq hP hD hS => ?_)
      obtain ⟨rfl, f37_, f38_, f39_⟩ := hq
      refine W.widen (k := 0) (n := 0) (Nat.le_of_ble_eq_true rfl) (Nat.le_of_ble_eq_true rfl) ?_
      refine lv_icmp_ge (tgt := 160) hx hb dX12_ticks_19 rfl (fun c40_ => ?_) (fun c40_ => ?_)
      · have tc40_ := (show z36_.toInt ≤ kv.toInt from ti_le rfl rfl c40_)
        refine lv_iload_n hx hb dX12_ticks_160 rfl (lv_at hl 2 rfl) ?_
        rw [hQ]
        exact W.iret (v := sm) hx hb hr (fun t ht hW => ⟨⟨sm, τ, rfl, ⟨hIτ, hxτ⟩, wEn_of hP (hK.sub [] rfl) hD ht hW⟩, hS.F ht⟩) hS.2.2 dX12_ticks_161
      · have tc40_ := (show kv.toInt < z36_.toInt from ti_nle rfl rfl c40_)
        refine lv_aload_n hx hb dX12_ticks_22 rfl (lv_at hl 0 rfl) ?_
        refine lv_iload_n hx hb dX12_ticks_23 rfl (lv_at hl 3 rfl) ?_
        have o28 : 0 ≤ kv.toInt := by omega
        have o29 : kv.toInt ≤ 11 := by omega
        refine zy_i (va_runV (As := [.int kv]) (rest := []) ⟨hx, hb, hml, hown, hts⟩ (n_at0 l dC dI h ad cl H.size τ kv hIτ ⟨o28, o29⟩) (cwV 1 hts gd_n_ticks_331_n_at0 rfl rfl rfl dd_n_at0 ⟨Nat.le_of_ble_eq_true rfl, Nat.le_of_ble_eq_true rfl⟩) (preV hP hK hD hE (ci := 12) (q0 := 0) rfl rfl) rfl rfl hl.1 rfl (lv_room (Nat.le_of_ble_eq_true rfl)) dX12_ticks_24 ⟨Nat.le_of_ble_eq_true rfl, Nat.le_of_ble_eq_true rfl⟩) hD hS hA (fun z42_ τ41_ H locs hq hP hD hS => ?_)
        obtain ⟨rfl, f43_⟩ := hq
        refine W.widen (k := 0) (n := 0) (Nat.le_of_ble_eq_true rfl) (Nat.le_of_ble_eq_true rfl) ?_
        have o30 : z42_.toInt = 12 * (σ.1 29).toInt + kv.toInt := by omega
        have Xz42_ : z42_.toNatClampNeg = 12 * (σ.1 29).toNatClampNeg + kv.toNatClampNeg := at0x (hI.1 29).1 o28 o30
        have o31 : kv.toInt < (σ.2.1 12 (σ.1 29).toNatClampNeg).toInt := by omega
        have hst := WkOk.st2 (show WkOk σ kv from ⟨hR, o28, o31⟩) Xz42_
        refine lv_istore (lv' := [(4, .int z42_), (0, .ref h), (1, .int x), (2, .int sm), (3, .int kv)]) hx hb dX12_ticks_27 hl (Nat.le_of_ble_eq_true rfl) rfl (fun ls hl => ?_)
        refine lv_aload_n hx hb dX12_ticks_29 rfl (lv_at hl 1 rfl) ?_
        refine va_get (D := (dC, dI)) (ci := 12) (v := .ref (ad 37)) (C := RX12) (T := TX12) (N := 59) hx hb hts hin12 hown hK hP 0 rfl rfl 37 (Nat.le_of_ble_eq_true rfl) (ho (.fieldLink RX12 94 "NearEnoughModel" "on" "[I") (List.mem_of_getElem? (i := 2) rfl)) (fun _ h9 => h9) rfl dX12_ticks_30 ?_
        refine lv_iload_n hx hb dX12_ticks_33 rfl (lv_at hl 4 rfl) ?_
        have o32 : kv.toInt < ((12 : Nat) : Int) := by omega
        refine va_iald hx hb hK hP 27 26 rfl rfl (ti_inx o28 o32) dX12_ticks_34 ?_
        refine lv_topi (fun z44_ ez44_ => ?_)
        have gz44_ : z44_.toInt = ((τ.2.1 37) (Int32.toNatClampNeg kv)).toInt := congrArg Int32.toInt (ez44_.trans (congrFun rfl (Int32.toNatClampNeg kv)))
        have bz44_ : (-1) ≤ z44_.toInt ∧ z44_.toInt ≤ 11 := by rw [ez44_]; exact (hIτ.2 37) _ (cl_lt (n := 12) o28 o32)
        have Ek_ : τ.2.1 34 = σ.2.1 34 := (hxτ 34 rg_590).2.1
        have En_ : τ.2.1 35 = σ.2.1 35 := (hxτ 35 rg_591).2.1
        have HC : ChOk σ z44_ := by have h9 := honτ _ (cl_lt (n := 12) o28 o32); rw [← ez44_] at h9; unfold ChOk at h9 ⊢; rw [Ek_, En_] at h9; exact h9
        have EkT_ : (τ.2.1 34 (Int32.toNatClampNeg z44_)).toInt = (σ.2.1 34 (Int32.toNatClampNeg z44_)).toInt := by rw [Ek_]
        refine lv_istore (lv' := [(5, .int z44_), (4, .int z42_), (0, .ref h), (1, .int x), (2, .int sm), (3, .int kv)]) hx hb dX12_ticks_35 hl (Nat.le_of_ble_eq_true rfl) rfl (fun ls hl => ?_)
        refine lv_aload_n hx hb dX12_ticks_37 rfl (lv_at hl 2 rfl) ?_
        refine va_get (D := (dC, dI)) (ci := 12) (v := .ref (ad 17)) (C := RX12) (T := TX12) (N := 59) hx hb hts hin12 hown hK hP 0 rfl rfl 17 (Nat.le_of_ble_eq_true rfl) (ho (.fieldLink RX12 39 "NearEnoughModel" "sKind" "[I") (List.mem_of_getElem? (i := 3) rfl)) (fun _ h9 => h9) rfl dX12_ticks_38 ?_
        refine lv_iload hx hb dX12_ticks_41 (lv_at hl 1 rfl) ?_
        have o33 : 0 ≤ z42_.toInt := by omega
        have o34 : z42_.toInt < ((24 : Nat) : Int) := by omega
        refine va_iald hx hb hK hP 9 8 rfl rfl (ti_inx o33 o34) dX12_ticks_43 ?_
        refine lv_topi (fun z45_ ez45_ => ?_)
        have gz45_ : z45_.toInt = ((σ.2.1 17) (Int32.toNatClampNeg z42_)).toInt := congrArg Int32.toInt (ez45_.trans (congrFun (hxτ 17 rg_660).2.1 (Int32.toNatClampNeg z42_)))
        have bz45_ : 0 ≤ z45_.toInt ∧ z45_.toInt ≤ 7 := by rw [ez45_]; exact (hIτ.2 17) _ (cl_lt (n := 24) o33 o34)
        refine lv_iconst (v := 1) hx hb dX12_ticks_44 rg_6 ?_
        refine lv_icmp_gt (tgt := 70) hx hb dX12_ticks_45 rfl (fun c46_ => ?_) (fun c46_ => ?_)
        · have tc46_ := (show 1 < z45_.toInt from ti_lt rg_18 rfl c46_)
          refine lv_iconst (v := 1) hx hb dX12_ticks_70 rg_6 ?_
          refine lv_istore (lv' := [(6, .int 1), (5, .int z44_), (4, .int z42_), (0, .ref h), (1, .int x), (2, .int sm), (3, .int kv)]) hx hb dX12_ticks_71 hl (Nat.le_of_ble_eq_true rfl) rfl (fun ls hl => ?_)
          have o35 : 0 ≤ kv.toInt ∧ kv.toInt ≤ 11 := by omega
          exact pt_73  z44_ 1 _ _ _ (show -1 ≤ z44_.toInt ∧ z44_.toInt ≤ 11 ∧ (0 ≤ z44_.toInt → (σ.2.1 34 (Int32.toNatClampNeg z44_)).toInt = 0 → 2 ≤ (σ.2.1 35 (Int32.toNatClampNeg z44_)).toInt) from ⟨HC.1, HC.2.1, HC.2.2.1⟩) (show 0 ≤ kv.toInt ∧ kv.toInt ≤ 11 from o35) rg_661 hP hD hS (lv_sub hl [3, 4, 5, 6, 1, 0] rfl)
        · have tc46_ := (show z45_.toInt ≤ 1 from ti_nlt rg_18 rfl c46_)
          have o36 : (σ.2.1 17 (Int32.toNatClampNeg z42_)).toInt = 0 ∨ (σ.2.1 17 (Int32.toNatClampNeg z42_)).toInt = 1 := by omega
          have rA := hst.2.2.1 (by have h9 := o36; omega)
          refine lv_aload_n hx hb dX12_ticks_48 rfl (lv_at hl 2 rfl) ?_
          refine va_get (D := (dC, dI)) (ci := 12) (v := .ref (ad 14)) (C := RX12) (T := TX12) (N := 59) hx hb hts hin12 hown hK hP 0 rfl rfl 14 (Nat.le_of_ble_eq_true rfl) (ho (.fieldLink RX12 30 "NearEnoughModel" "rHas" "[I") (List.mem_of_getElem? (i := 4) rfl)) (fun _ h9 => h9) rfl dX12_ticks_49 ?_
          refine lv_iconst (v := 2) hx hb dX12_ticks_52 rg_19 ?_
          refine lv_aload_n hx hb dX12_ticks_53 rfl (lv_at hl 2 rfl) ?_
          refine va_get (D := (dC, dI)) (ci := 12) (v := .int (τ.1 29)) (C := RX12) (T := TX12) (N := 59) hx hb hts hin12 hown hK hP 0 rfl rfl 29 (Nat.le_of_ble_eq_true rfl) (ho (.fieldLink RX12 240 "NearEnoughModel" "bank" "I") (List.mem_of_getElem? (i := 5) rfl)) (fun _ h9 => h9) rfl dX12_ticks_54 ?_
          refine zi (v := (σ.1 29)) ((hxτ 29 rg_571).1) ?_
          have bb47_ : 0 ≤ (σ.1 29).toInt ∧ (σ.1 29).toInt ≤ 1 := by have h9 := hIτ.1 29; rw [show (τ.1 29) = (σ.1 29) from ((hxτ 29 rg_571).1)] at h9; exact h9
          refine lv_imul hx hb dX12_ticks_57 ?_
          refine lv_topi (fun z48_ ez48_ => ?_)
          have o37 : -2147483648 ≤ 2 * (σ.1 29).toInt := by omega
          have o38 : 2 * (σ.1 29).toInt ≤ 2147483647 := by omega
          have tz48_ : z48_.toInt = 2 * (σ.1 29).toInt := ti_mul ez48_ rg_20 rfl o37 o38
          refine lv_aload_n hx hb dX12_ticks_58 rfl (lv_at hl 2 rfl) ?_
          refine va_get (D := (dC, dI)) (ci := 12) (v := .ref (ad 18)) (C := RX12) (T := TX12) (N := 59) hx hb hts hin12 hown hK hP 0 rfl rfl 18 (Nat.le_of_ble_eq_true rfl) (ho (.fieldLink RX12 42 "NearEnoughModel" "sA" "[I") (List.mem_of_getElem? (i := 6) rfl)) (fun _ h9 => h9) rfl dX12_ticks_59 ?_
          refine lv_iload hx hb dX12_ticks_62 (lv_at hl 1 rfl) ?_
          refine va_iald hx hb hK hP 10 9 rfl rfl (ti_inx o33 o34) dX12_ticks_64 ?_
          refine lv_topi (fun z49_ ez49_ => ?_)
          have gz49_ : z49_.toInt = ((σ.2.1 18) (Int32.toNatClampNeg z42_)).toInt := congrArg Int32.toInt (ez49_.trans (congrFun (hxτ 18 rg_662).2.1 (Int32.toNatClampNeg z42_)))
          have bz49_ : (-1) ≤ z49_.toInt ∧ z49_.toInt ≤ 11 := by rw [ez49_]; exact (hIτ.2 18) _ (cl_lt (n := 24) o33 o34)
          refine lv_iadd hx hb dX12_ticks_65 ?_
          refine lv_topi (fun z50_ ez50_ => ?_)
          have o39 : -2147483648 ≤ z48_.toInt + z49_.toInt := by omega
          have o40 : z48_.toInt + z49_.toInt ≤ 2147483647 := by omega
          have tz50_ : z50_.toInt = z48_.toInt + z49_.toInt := ti_add ez50_ rfl rfl o39 o40
          have o41 : 0 ≤ z50_.toInt := by omega
          have o42 : z50_.toInt < ((4 : Nat) : Int) := by omega
          refine va_iald hx hb hK hP 6 5 rfl rfl (ti_inx o41 o42) dX12_ticks_66 ?_
          refine lv_topi (fun z51_ ez51_ => ?_)
          have gz51_ : z51_.toInt = ((σ.2.1 14) (Int32.toNatClampNeg z50_)).toInt := congrArg Int32.toInt (ez51_.trans (congrFun (hxτ 14 rg_663).2.1 (Int32.toNatClampNeg z50_)))
          have bz51_ : 0 ≤ z51_.toInt ∧ z51_.toInt ≤ 6 := by rw [ez51_]; exact (hIτ.2 14) _ (cl_lt (n := 4) o41 o42)
          refine lv_goto (tgt := 71) hx hb dX12_ticks_67 rfl ?_
          refine lv_istore (lv' := [(6, .int z51_), (5, .int z44_), (4, .int z42_), (0, .ref h), (1, .int x), (2, .int sm), (3, .int kv)]) hx hb dX12_ticks_71 hl (Nat.le_of_ble_eq_true rfl) rfl (fun ls hl => ?_)
          have o43 : 0 ≤ kv.toInt ∧ kv.toInt ≤ 11 := by omega
          have o44 : 0 ≤ z51_.toInt ∧ z51_.toInt ≤ 6 := by omega
          exact pt_73  z44_ z51_ _ _ _ (show -1 ≤ z44_.toInt ∧ z44_.toInt ≤ 11 ∧ (0 ≤ z44_.toInt → (σ.2.1 34 (Int32.toNatClampNeg z44_)).toInt = 0 → 2 ≤ (σ.2.1 35 (Int32.toNatClampNeg z44_)).toInt) from ⟨HC.1, HC.2.1, HC.2.2.1⟩) (show 0 ≤ kv.toInt ∧ kv.toInt ≤ 11 from o43) (show 0 ≤ z51_.toInt ∧ z51_.toInt ≤ 6 from o44) hP hD hS (lv_sub hl [3, 4, 5, 6, 1, 0] rfl)
  refine zH (A := A) (ws := mW h ad cl σ) (fun H hP hS => ?_) hP
  have bσ_29 : 0 ≤ (σ.1 29).toInt ∧ (σ.1 29).toInt ≤ 1 := hI.1 29
  refine lv_aload_n hx hb dX12_ticks_0 rfl (lv_at hl 0 rfl) ?_
  refine lv_iload_n hx hb dX12_ticks_1 rfl (lv_at hl 1 rfl) ?_
  refine zy_i (va_runV (As := [.int x]) (rest := []) ⟨hx, hb, hml, hown, hts⟩ (n_isChoiceV l dC dI h ad cl H.size σ x hI) (cwV 1 hts gd_n_ticks_423_n_isChoiceV rfl rfl rfl dd_n_isChoiceV ⟨Nat.le_of_ble_eq_true rfl, Nat.le_of_ble_eq_true rfl⟩) (preV hP hK hD hE (ci := 12) (q0 := 0) rfl rfl) rfl rfl hl.1 rfl (lv_room (Nat.le_of_ble_eq_true rfl)) dX12_ticks_2 ⟨Nat.le_of_ble_eq_true rfl, Nat.le_of_ble_eq_true rfl⟩) hD hS hA (fun z53_ τ52_ H locs hq hP hD hS => ?_)
  obtain ⟨hI54_, hx55_, f56_⟩ := hq
  have Xτ52_ : eqx [37, 41, 42, 43, 44, 45, 46, 32, 47, 48, 49, 54, 55, 56, 57] τ52_ σ := eqx.tr hx55_ eqx.rf rg_578
  have qq57_ : (τ52_.1 29).toInt = ((σ.1 29) : Int32).toInt := congrArg Int32.toInt ((show τ52_.1 29 = (σ.1 29) from ((hx55_ 29 rg_552).1).trans rfl))
  refine W.widen (k := 0) (n := 0) (Nat.le_of_ble_eq_true rfl) (Nat.le_of_ble_eq_true rfl) ?_
  refine lv_if_ne (tgt := 10) hx hb dX12_ticks_5 rfl (fun c58_ => ?_) (fun c58_ => ?_)
  · have tc58_ := (show z53_.toInt ≠ 0 from ti_ne rfl rg_11 c58_)
    refine lv_iconst (v := 0) hx hb dX12_ticks_10 rg_0 ?_
    refine lv_istore_n (lv' := [(2, .int 0), (0, .ref h), (1, .int x)]) hx hb dX12_ticks_11 rfl hl (Nat.le_of_ble_eq_true rfl) rfl (fun ls hl => ?_)
    refine lv_iconst (v := 0) hx hb dX12_ticks_12 rg_0 ?_
    refine lv_istore_n (lv' := [(3, .int 0), (2, .int 0), (0, .ref h), (1, .int x)]) hx hb dX12_ticks_13 rfl hl (Nat.le_of_ble_eq_true rfl) rfl (fun ls hl => ?_)
    have o45 : ¬ z53_.toInt = 0 := by omega
    have OK59_ : OnOk τ52_ := OnR.ok hI hC hx55_ rg_620 rg_621 (by rcases f56_ with q | q; exact q.2; exact absurd q.1 o45)
    exact pt_14 _ τ52_ 0 0 _ _ _ (Nat.lt_succ_self _) hI54_ Xτ52_ rg_56 OK59_ hP hD hS (lv_sub hl [2, 3, 1, 0] rfl)
  · have tc58_ := (show z53_.toInt = 0 from ti_eq rfl rg_11 c58_)
    refine lv_iconst (v := (-1)) hx hb dX12_ticks_8 rg_53 ?_
    rw [hQ]
    exact W.iret (v := (-1)) hx hb hr (fun t ht hW => ⟨⟨(-1), τ52_, rfl, ⟨hI54_, Xτ52_⟩, wEn_of hP (hK.sub [] rfl) hD ht hW⟩, hS.F ht⟩) hS.2.2 dX12_ticks_9

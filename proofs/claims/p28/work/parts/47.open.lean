theorem dX12_bars_2 : decode cX12_bars 2 = .ok (.iload_n 1, 1) := by decide +kernel
theorem dX12_bars_3 : decode cX12_bars 3 = .ok (.aload_n 0, 1) := by decide +kernel
theorem dX12_bars_4 : decode cX12_bars 4 = .ok (.invokevirtual 321, 3) := by decide +kernel
theorem dX12_bars_7 : decode cX12_bars 7 = .ok (.if_icmp .ge 61, 3) := by decide +kernel
theorem dX12_bars_68 : decode cX12_bars 68 = .ok (.iconst (-1), 1) := by decide +kernel
theorem dX12_bars_69 : decode cX12_bars 69 = .ok (.ireturn, 1) := by decide +kernel
theorem dX12_bars_10 : decode cX12_bars 10 = .ok (.aload_n 0, 1) := by decide +kernel
theorem dX12_bars_11 : decode cX12_bars 11 = .ok (.iload_n 1, 1) := by decide +kernel
theorem dX12_bars_12 : decode cX12_bars 12 = .ok (.invokevirtual 420, 3) := by decide +kernel
theorem dX12_bars_15 : decode cX12_bars 15 = .ok (.ifCond .eq 25, 3) := by decide +kernel
theorem dX12_bars_40 : decode cX12_bars 40 = .ok (.iload_n 1, 1) := by decide +kernel
theorem dX12_bars_41 : decode cX12_bars 41 = .ok (.ireturn, 1) := by decide +kernel
theorem dX12_bars_18 : decode cX12_bars 18 = .ok (.aload_n 0, 1) := by decide +kernel
theorem dX12_bars_19 : decode cX12_bars 19 = .ok (.getfield 379, 3) := by decide +kernel
theorem dX12_bars_22 : decode cX12_bars 22 = .ok (.ldc2_w 310, 3) := by decide +kernel
theorem dX12_bars_25 : decode cX12_bars 25 = .ok (.lcmp, 1) := by decide +kernel
theorem dX12_bars_26 : decode cX12_bars 26 = .ok (.ifCond .lt 14, 3) := by decide +kernel
theorem dX12_bars_29 : decode cX12_bars 29 = .ok (.aload_n 0, 1) := by decide +kernel
theorem dX12_bars_30 : decode cX12_bars 30 = .ok (.getfield 382, 3) := by decide +kernel
theorem dX12_bars_33 : decode cX12_bars 33 = .ok (.ldc2_w 312, 3) := by decide +kernel
theorem dX12_bars_36 : decode cX12_bars 36 = .ok (.lcmp, 1) := by decide +kernel
theorem dX12_bars_37 : decode cX12_bars 37 = .ok (.ifCond .le 5, 3) := by decide +kernel
theorem dX12_bars_42 : decode cX12_bars 42 = .ok (.aload_n 0, 1) := by decide +kernel
theorem dX12_bars_43 : decode cX12_bars 43 = .ok (.getfield 107, 3) := by decide +kernel
theorem dX12_bars_46 : decode cX12_bars 46 = .ok (.iload_n 1, 1) := by decide +kernel
theorem dX12_bars_47 : decode cX12_bars 47 = .ok (.aload_n 0, 1) := by decide +kernel
theorem dX12_bars_48 : decode cX12_bars 48 = .ok (.getfield 379, 3) := by decide +kernel
theorem dX12_bars_51 : decode cX12_bars 51 = .ok (.lastore, 1) := by decide +kernel
theorem dX12_bars_52 : decode cX12_bars 52 = .ok (.aload_n 0, 1) := by decide +kernel
theorem dX12_bars_53 : decode cX12_bars 53 = .ok (.getfield 110, 3) := by decide +kernel
theorem dX12_bars_56 : decode cX12_bars 56 = .ok (.iload_n 1, 1) := by decide +kernel
theorem dX12_bars_57 : decode cX12_bars 57 = .ok (.aload_n 0, 1) := by decide +kernel
theorem dX12_bars_58 : decode cX12_bars 58 = .ok (.getfield 382, 3) := by decide +kernel
theorem dX12_bars_61 : decode cX12_bars 61 = .ok (.lastore, 1) := by decide +kernel
theorem dX12_bars_62 : decode cX12_bars 62 = .ok (.iinc 1 1, 3) := by decide +kernel
theorem dX12_bars_65 : decode cX12_bars 65 = .ok (.goto (-63), 3) := by decide +kernel
theorem dX12_bars_0 : decode cX12_bars 0 = .ok (.iconst 0, 1) := by decide +kernel
theorem dX12_bars_1 : decode cX12_bars 1 = .ok (.istore_n 1, 1) := by decide +kernel
theorem rg_525 : 33 ≠ 36 := by decide
theorem rg_524 : 33 ≠ 35 := by decide
theorem rg_523 : 33 ≠ 34 := by decide
theorem rg_528 : 34 ≠ 36 := by decide
theorem rg_527 : 34 ≠ 35 := by decide
theorem rg_526 : 34 ≠ 33 := by decide
theorem rg_531 : 35 ≠ 36 := by decide
theorem rg_530 : 35 ≠ 34 := by decide
theorem rg_529 : 35 ≠ 33 := by decide
theorem rg_535 : 12 ≠ 36 := by decide
theorem rg_534 : 12 ≠ 35 := by decide
theorem rg_533 : 12 ≠ 34 := by decide
theorem rg_532 : 12 ≠ 33 := by decide
theorem rg_539 : 17 ≠ 36 := by decide
theorem rg_538 : 17 ≠ 35 := by decide
theorem rg_537 : 17 ≠ 34 := by decide
theorem rg_536 : 17 ≠ 33 := by decide
theorem rg_540 : 33 ∉ [37] := by decide
theorem rg_541 : 29 ∉ [43, 44, 45, 46] := by decide
theorem rg_542 : ∀ p ∈ [43, 44, 45, 46], ¬ ((11 ≤ p ∧ p ≤ 24) ∨ (33 ≤ p ∧ p ≤ 36)) := by intro p h; simp at h; omega
theorem rg_543 : ∀ p ∈ [43, 44, 45, 46], ¬ (p = 27 ∨ p = 28) := by intro p h; simp at h; omega
theorem rg_544 : 37 ∉ [43, 44, 45, 46] := by decide
theorem rg_545 : 12 ∉ [43, 44, 45, 46] := by decide
theorem rg_546 : ((-1) : Int32).toInt = -1 := by decide
theorem rg_547 : ∀ q, 11 ≤ q → q ≤ 22 → q ∉ [43, 44, 45, 46] := by intro q h1 h2 h; simp at h; omega
theorem rg_548 : ∀ q, q ∈ [45, 46] → q ∈ [43, 44, 45, 46] := by decide
theorem rg_549 : 43 ∈ [43, 44, 45, 46] := by decide
theorem rg_550 : 44 ∈ [43, 44, 45, 46] := by decide
def ow_n_mayChangeV : List Cond := [.fieldLink RX12 39 "NearEnoughModel" "sKind" "[I"]
def vs_n_mayChangeV : List Cond := .code yX12_mayChange cX12_mayChange 5 (some .boolean) :: (ow_n_mayChangeV ++ (([.methodLink RX12 331 yX12_at0, .instanceMethod yX12_at0, .selects RX12 yX12_at0 yX12_at0, .initialized RX12] : List Cond) ++ (vs_n_at0 ++ (([.methodLink RX12 324 yX12_isIn, .static yX12_isIn, .initialized yX12_isIn.cls] : List Cond) ++ (vs_n_isIn ++ (wsX120))))))
theorem vg_n_mayChangeV : vs_n_mayChangeV.all goodWord = true := by decide +kernel
theorem dd_n_mayChangeV : yX12_mayChange.cls = RX12 ∧ yX12_mayChange.cls ≠ "java/lang/invoke/MethodHandle" ∧ yX12_mayChange.cls ≠ "java/lang/invoke/VarHandle" ∧ (parseMethodDescriptor yX12_mayChange.desc).map (fun d => d.parameters.length) = some 3 := by decide +kernel
def rm_n_mayChangeV : Room := { frames := 1, cells := 0, slots := 0, locals := 22 }
theorem gd_n_mayChangeV_331_n_at0 : GoodIn vs_n_mayChangeV (wsV RX12 331 RX12 yX12_at0 vs_n_at0) := goodIn_app (goodIn_sub (fun w h => (List.mem_cons_of_mem _ (List.mem_append_right _ (List.mem_append_left _ h)))) (by decide +kernel)) (goodIn_sub (fun w h => (List.mem_cons_of_mem _ (List.mem_append_right _ (List.mem_append_right _ (List.mem_append_left _ h))))) vg_n_at0)
theorem gd_n_mayChangeV_324_n_isIn : GoodIn vs_n_mayChangeV (va_wsS RX12 324 yX12_isIn vs_n_isIn) := goodIn_app (goodIn_sub (fun w h => (List.mem_cons_of_mem _ (List.mem_append_right _ (List.mem_append_right _ (List.mem_append_right _ (List.mem_append_left _ h)))))) (by decide +kernel)) (goodIn_sub (fun w h => (List.mem_cons_of_mem _ (List.mem_append_right _ (List.mem_append_right _ (List.mem_append_right _ (List.mem_append_right _ (List.mem_append_left _ h))))))) vg_n_isIn)
set_option maxHeartbeats 4000000 in
set_option maxRecDepth 100000 in
theorem n_mayChangeV (l : Launch) (dC : Nat → ClassId) (dI : Nat → Nat → Nat) (h : Nat) (ad : Nat → Nat) (cl : Nat → ClassId) (sz : Nat) (σ : MS) (x : Int32) (y : Int32) (z : Int32) (hI : Inv σ) (hx0 : 0 ≤ x.toInt ∧ x.toInt ≤ 11) : Met l yX12_mayChange vs_n_mayChangeV rm_n_mayChangeV (va_Pc [.ref h, .int x, .int y, .int z] (wSt dC dI (mW h ad cl σ) (mT cl) sz)) (va_Qi (fun (r : Int32) (τ : MS) => σ = τ ∧ (r.toInt = 0 ∨ (r.toInt = 1 ∧ 0 ≤ y.toInt ∧ y.toInt ≤ 6 ∧ 0 ≤ z.toInt ∧ z.toInt ≤ 99 ∧ FitK (σ.2.1 17 (12 * (σ.1 29).toNatClampNeg + x.toNatClampNeg)).toInt y.toInt z.toInt))) (fun (τ : MS) => wEn dC dI (va_A (mW h ad cl σ) sz) (mW h ad cl τ) []) (va_A (mW h ad cl σ) sz)) 0 0 (va_A (mW h ad cl σ) sz) := by
  refine Met.ofW (cc := cX12_mayChange) (maxL := 5) (ret := (some .boolean)) (by decide) rfl ?_
  intro p e s m args below meth c s₁ B hml hv
  obtain ⟨rfl, hsz, hP, hK, hD0, hE⟩ := hv
  have hx := B.exec
  have hb := B.bytes
  have hr := B.returns
  have hts := atoms_spec (ws := vs_n_mayChangeV) B.pre
  have hown : s.vm.findClass RX12 = some m.cls := findClass_of_methodNamed B.named
  have hlocks := B.notSynchronized
  subst hsz
  have hD := hD0.self (sz := s.heap.size)
  generalize hAe : va_A (mW h ad cl σ) s.heap.size = A at hD ⊢
  have hA : ∀ q : Nat, s.heap.size ≤ q → A q := fun q h => by rw [← hAe]; exact Or.inr h
  have hl := lv_entry ([.ref h, .int x, .int y, .int z]) (n := 5) (Nat.le_of_ble_eq_true rfl)
  rw [lg_entry_eq]
  generalize (lg_sl ([.ref h, .int x, .int y, .int z]) ++ List.replicate (5 - (lg_sl ([.ref h, .int x, .int y, .int z])).length) Slot.unset).toArray = ls at hl ⊢
  have hl : lv_has ls 5 [(0, .ref h), (1, .int x), (2, .int y), (3, .int z)] := hl
  have ho := fun w (h : w ∈ ow_n_mayChangeV) => hts w (List.mem_cons_of_mem _ (List.mem_append_left _ h))
  have hin12 : ∀ w ∈ u_ws RX12 TX12 59, w ∈ vs_n_mayChangeV := fun w h => (List.mem_cons_of_mem _ (List.mem_append_right _ (List.mem_append_right _ (List.mem_append_right _ (List.mem_append_right _ (List.mem_append_right _ h))))))
  refine zQ (fun Q hQ => ?_)
  refine zH (A := A) (ws := mW h ad cl σ) (fun H hP hS => ?_) hP
  have bσ_29 : 0 ≤ (σ.1 29).toInt ∧ (σ.1 29).toInt ≤ 1 := hI.1 29
  refine lv_aload_n hx hb dX12_mayChange_0 rfl (lv_at hl 0 rfl) ?_
  refine va_get (D := (dC, dI)) (ci := 12) (v := .ref (ad 17)) (C := RX12) (T := TX12) (N := 59) hx hb hts hin12 hown hK hP 0 rfl rfl 17 (Nat.le_of_ble_eq_true rfl) (ho (.fieldLink RX12 39 "NearEnoughModel" "sKind" "[I") (List.mem_of_getElem? (i := 0) rfl)) (fun _ h9 => h9) rfl dX12_mayChange_1 ?_
  refine lv_aload_n hx hb dX12_mayChange_4 rfl (lv_at hl 0 rfl) ?_
  refine lv_iload_n hx hb dX12_mayChange_5 rfl (lv_at hl 1 rfl) ?_
  have o1 : 0 ≤ x.toInt := by omega
  have o2 : x.toInt ≤ 11 := by omega
  refine zy_i (va_runV (As := [.int x]) (rest := [.ref (ad 17)]) ⟨hx, hb, hml, hown, hts⟩ (n_at0 l dC dI h ad cl H.size σ x hI ⟨o1, o2⟩) (cwV 1 hts gd_n_mayChangeV_331_n_at0 rfl rfl rfl dd_n_at0 ⟨Nat.le_of_ble_eq_true rfl, Nat.le_of_ble_eq_true rfl⟩) (preV hP hK hD hE (ci := 12) (q0 := 0) rfl rfl) rfl rfl hl.1 rfl (lv_room (Nat.le_of_ble_eq_true rfl)) dX12_mayChange_6 ⟨Nat.le_of_ble_eq_true rfl, Nat.le_of_ble_eq_true rfl⟩) hD hS hA (fun z2_ τ1_ H locs hq hP hD hS => ?_)
  obtain ⟨rfl, f3_⟩ := hq
  refine W.widen (k := 0) (n := 0) (Nat.le_of_ble_eq_true rfl) (Nat.le_of_ble_eq_true rfl) ?_
  have o3 : z2_.toInt = 12 * (σ.1 29).toInt + x.toInt := by omega
  have Xz2_ : z2_.toNatClampNeg = 12 * (σ.1 29).toNatClampNeg + x.toNatClampNeg := at0x (hI.1 29).1 o1 o3
  have o4 : 0 ≤ z2_.toInt := by omega
  have o5 : z2_.toInt < ((24 : Nat) : Int) := by omega
  refine va_iald hx hb hK hP 9 8 rfl rfl (ti_inx o4 o5) dX12_mayChange_9 ?_
  refine lv_topi (fun z4_ ez4_ => ?_)
  have gz4_ : z4_.toInt = ((σ.2.1 17) (Int32.toNatClampNeg z2_)).toInt := congrArg Int32.toInt (ez4_.trans (congrFun rfl (Int32.toNatClampNeg z2_)))
  have bz4_ : 0 ≤ z4_.toInt ∧ z4_.toInt ≤ 7 := by rw [ez4_]; exact (hI.2 17) _ (cl_lt (n := 24) o4 o5)
  refine lv_istore (lv' := [(4, .int z4_), (0, .ref h), (1, .int x), (2, .int y), (3, .int z)]) hx hb dX12_mayChange_10 hl (Nat.le_of_ble_eq_true rfl) rfl (fun ls hl => ?_)
  refine lv_iload_n hx hb dX12_mayChange_12 rfl (lv_at hl 3 rfl) ?_
  by_cases c_lo : y.toInt < 0
  · refine lv_tableOut (tgt := 205) hx hb dX12_mayChange_13 (Or.inl c_lo) rfl ?_
    refine lv_iconst (v := 0) hx hb dX12_mayChange_205 rg_0 ?_
    rw [hQ]
    have N5_ : (σ.2.1 17 (12 * (σ.1 29).toNatClampNeg + x.toNatClampNeg)).toInt = (σ.2.1 17 (Int32.toNatClampNeg z2_)).toInt := by rw [Xz2_]
    exact W.zret (v := 0) hx hb hr rfl (fun t ht hW => ⟨⟨0, σ, rfl, ⟨rfl, (by unfold FitK; have k9 : (0 : Int32).toInt = 0 := (by decide); omega)⟩, wEn_of hP (hK.sub [] rfl) hD ht hW⟩, hS.F ht⟩) hS.2.2 dX12_mayChange_206
  · by_cases c_hi : 6 < y.toInt
    · refine lv_tableOut (tgt := 205) hx hb dX12_mayChange_13 (Or.inr c_hi) rfl ?_
      refine lv_iconst (v := 0) hx hb dX12_mayChange_205 rg_0 ?_
      rw [hQ]
      have N6_ : (σ.2.1 17 (12 * (σ.1 29).toNatClampNeg + x.toNatClampNeg)).toInt = (σ.2.1 17 (Int32.toNatClampNeg z2_)).toInt := by rw [Xz2_]
      exact W.zret (v := 0) hx hb hr rfl (fun t ht hW => ⟨⟨0, σ, rfl, ⟨rfl, (by unfold FitK; have k9 : (0 : Int32).toInt = 0 := (by decide); omega)⟩, wEn_of hP (hK.sub [] rfl) hD ht hW⟩, hS.F ht⟩) hS.2.2 dX12_mayChange_206
    · rcases (show y.toInt = 0 ∨ y.toInt = 1 ∨ y.toInt = 2 ∨ y.toInt = 3 ∨ y.toInt = 4 ∨ y.toInt = 5 ∨ y.toInt = 6 by omega) with t_sw | t_sw | t_sw | t_sw | t_sw | t_sw | t_sw
      · refine lv_tableIn (tgt := 56) (off := 43) hx hb dX12_mayChange_13 (by rw [t_sw]; decide) (by rw [t_sw]; decide) (by rw [t_sw]; decide) (by decide) ?_
        refine lv_iload hx hb dX12_mayChange_56 (lv_at hl 0 rfl) ?_
        refine lv_if_ne (tgt := 75) hx hb dX12_mayChange_58 rfl (fun c7_ => ?_) (fun c7_ => ?_)
        · have tc7_ := (show z4_.toInt ≠ 0 from ti_ne rfl rg_11 c7_)
          refine lv_iconst (v := 0) hx hb dX12_mayChange_75 rg_0 ?_
          rw [hQ]
          have N8_ : (σ.2.1 17 (12 * (σ.1 29).toNatClampNeg + x.toNatClampNeg)).toInt = (σ.2.1 17 (Int32.toNatClampNeg z2_)).toInt := by rw [Xz2_]
          exact W.zret (v := 0) hx hb hr rfl (fun t ht hW => ⟨⟨0, σ, rfl, ⟨rfl, (by unfold FitK; have k9 : (0 : Int32).toInt = 0 := (by decide); omega)⟩, wEn_of hP (hK.sub [] rfl) hD ht hW⟩, hS.F ht⟩) hS.2.2 dX12_mayChange_76
        · have tc7_ := (show z4_.toInt = 0 from ti_eq rfl rg_11 c7_)
          refine lv_iload_n hx hb dX12_mayChange_61 rfl (lv_at hl 4 rfl) ?_
          refine lv_iconst (v := 2) hx hb dX12_mayChange_62 rg_19 ?_
          refine lv_bipush (v := 6) hx hb dX12_mayChange_63 rg_55 ?_
          have kk9_ : (2 : Int32).toInt = 2 := rg_20
          have kk10_ : (6 : Int32).toInt = 6 := rg_70
          refine zs_i (va_runS (As := [.int z, .int 2, .int 6]) (rest := []) ⟨hx, hb, hml, hown, hts⟩ (n_isIn l dC dI z 2 6  H.size) (va_cwS 3 hts gd_n_mayChangeV_324_n_isIn rfl rfl rfl dd_n_isIn ⟨Nat.le_of_ble_eq_true rfl, Nat.le_of_ble_eq_true rfl⟩) (preS (A := A) empP (hK.sub (tys' := []) [] rfl) empD hE) rfl rfl hl.1 rfl (lv_room (Nat.le_of_ble_eq_true rfl)) dX12_mayChange_65 ⟨Nat.le_of_ble_eq_true rfl, Nat.le_of_ble_eq_true rfl⟩) hP hD hS hA (fun z11_ H locs hq hP hD hS => ?_)
          have f12_ := hq
          refine W.widen (k := 0) (n := 0) (Nat.le_of_ble_eq_true rfl) (Nat.le_of_ble_eq_true rfl) ?_
          refine lv_if_eq (tgt := 75) hx hb dX12_mayChange_68 rfl (fun c13_ => ?_) (fun c13_ => ?_)
          · have tc13_ := (show z11_.toInt = 0 from ti_eq rfl rg_11 c13_)
            refine lv_iconst (v := 0) hx hb dX12_mayChange_75 rg_0 ?_
            rw [hQ]
            have N14_ : (σ.2.1 17 (12 * (σ.1 29).toNatClampNeg + x.toNatClampNeg)).toInt = (σ.2.1 17 (Int32.toNatClampNeg z2_)).toInt := by rw [Xz2_]
            exact W.zret (v := 0) hx hb hr rfl (fun t ht hW => ⟨⟨0, σ, rfl, ⟨rfl, (by unfold FitK; have k9 : (0 : Int32).toInt = 0 := (by decide); omega)⟩, wEn_of hP (hK.sub [] rfl) hD ht hW⟩, hS.F ht⟩) hS.2.2 dX12_mayChange_76
          · have tc13_ := (show z11_.toInt ≠ 0 from ti_ne rfl rg_11 c13_)
            refine lv_iconst (v := 1) hx hb dX12_mayChange_71 rg_6 ?_
            refine lv_goto (tgt := 76) hx hb dX12_mayChange_72 rfl ?_
            rw [hQ]
            have N15_ : (σ.2.1 17 (12 * (σ.1 29).toNatClampNeg + x.toNatClampNeg)).toInt = (σ.2.1 17 (Int32.toNatClampNeg z2_)).toInt := by rw [Xz2_]
            exact W.zret (v := 1) hx hb hr rfl (fun t ht hW => ⟨⟨1, σ, rfl, ⟨rfl, (by unfold FitK; have k9 : (1 : Int32).toInt = 1 := (by decide); omega)⟩, wEn_of hP (hK.sub [] rfl) hD ht hW⟩, hS.F ht⟩) hS.2.2 dX12_mayChange_76
      · refine lv_tableIn (tgt := 77) (off := 64) hx hb dX12_mayChange_13 (by rw [t_sw]; decide) (by rw [t_sw]; decide) (by rw [t_sw]; decide) (by decide) ?_
        refine lv_iload_n hx hb dX12_mayChange_77 rfl (lv_at hl 4 rfl) ?_
        refine lv_iconst (v := 1) hx hb dX12_mayChange_78 rg_6 ?_
        refine lv_bipush (v := 10) hx hb dX12_mayChange_79 rg_34 ?_
        have kk16_ : (1 : Int32).toInt = 1 := rg_18
        have kk17_ : (10 : Int32).toInt = 10 := rg_45
        refine zs_i (va_runS (As := [.int z, .int 1, .int 10]) (rest := []) ⟨hx, hb, hml, hown, hts⟩ (n_isIn l dC dI z 1 10  H.size) (va_cwS 3 hts gd_n_mayChangeV_324_n_isIn rfl rfl rfl dd_n_isIn ⟨Nat.le_of_ble_eq_true rfl, Nat.le_of_ble_eq_true rfl⟩) (preS (A := A) empP (hK.sub (tys' := []) [] rfl) empD hE) rfl rfl hl.1 rfl (lv_room (Nat.le_of_ble_eq_true rfl)) dX12_mayChange_81 ⟨Nat.le_of_ble_eq_true rfl, Nat.le_of_ble_eq_true rfl⟩) hP hD hS hA (fun z18_ H locs hq hP hD hS => ?_)
        have f19_ := hq
        refine W.widen (k := 0) (n := 0) (Nat.le_of_ble_eq_true rfl) (Nat.le_of_ble_eq_true rfl) ?_
        rw [hQ]
        have N20_ : (σ.2.1 17 (12 * (σ.1 29).toNatClampNeg + x.toNatClampNeg)).toInt = (σ.2.1 17 (Int32.toNatClampNeg z2_)).toInt := by rw [Xz2_]
        exact W.zret (v := z18_) hx hb hr (nbz (by omega)) (fun t ht hW => ⟨⟨z18_, σ, rfl, ⟨rfl, (by unfold FitK; omega)⟩, wEn_of hP (hK.sub [] rfl) hD ht hW⟩, hS.F ht⟩) hS.2.2 dX12_mayChange_84
      · refine lv_tableIn (tgt := 85) (off := 72) hx hb dX12_mayChange_13 (by rw [t_sw]; decide) (by rw [t_sw]; decide) (by rw [t_sw]; decide) (by decide) ?_
        refine lv_iload hx hb dX12_mayChange_85 (lv_at hl 0 rfl) ?_
        refine lv_bipush (v := 7) hx hb dX12_mayChange_87 rg_54 ?_
        refine lv_icmp_ne (tgt := 105) hx hb dX12_mayChange_89 rfl (fun c21_ => ?_) (fun c21_ => ?_)
        · have tc21_ := (show z4_.toInt ≠ 7 from ti_ne rfl rg_77 c21_)
          refine lv_iconst (v := 0) hx hb dX12_mayChange_105 rg_0 ?_
          rw [hQ]
          have N22_ : (σ.2.1 17 (12 * (σ.1 29).toNatClampNeg + x.toNatClampNeg)).toInt = (σ.2.1 17 (Int32.toNatClampNeg z2_)).toInt := by rw [Xz2_]
          exact W.zret (v := 0) hx hb hr rfl (fun t ht hW => ⟨⟨0, σ, rfl, ⟨rfl, (by unfold FitK; have k9 : (0 : Int32).toInt = 0 := (by decide); omega)⟩, wEn_of hP (hK.sub [] rfl) hD ht hW⟩, hS.F ht⟩) hS.2.2 dX12_mayChange_106
        · have tc21_ := (show z4_.toInt = 7 from ti_eq rfl rg_77 c21_)
          refine lv_iload_n hx hb dX12_mayChange_92 rfl (lv_at hl 4 rfl) ?_
          refine lv_iconst (v := 0) hx hb dX12_mayChange_93 rg_0 ?_
          refine lv_iconst (v := 1) hx hb dX12_mayChange_94 rg_6 ?_
          have kk23_ : (0 : Int32).toInt = 0 := rg_11
          have kk24_ : (1 : Int32).toInt = 1 := rg_18
          refine zs_i (va_runS (As := [.int z, .int 0, .int 1]) (rest := []) ⟨hx, hb, hml, hown, hts⟩ (n_isIn l dC dI z 0 1  H.size) (va_cwS 3 hts gd_n_mayChangeV_324_n_isIn rfl rfl rfl dd_n_isIn ⟨Nat.le_of_ble_eq_true rfl, Nat.le_of_ble_eq_true rfl⟩) (preS (A := A) empP (hK.sub (tys' := []) [] rfl) empD hE) rfl rfl hl.1 rfl (lv_room (Nat.le_of_ble_eq_true rfl)) dX12_mayChange_95 ⟨Nat.le_of_ble_eq_true rfl, Nat.le_of_ble_eq_true rfl⟩) hP hD hS hA (fun z25_ H locs hq hP hD hS => ?_)
          have f26_ := hq
          refine W.widen (k := 0) (n := 0) (Nat.le_of_ble_eq_true rfl) (Nat.le_of_ble_eq_true rfl) ?_
          refine lv_if_eq (tgt := 105) hx hb dX12_mayChange_98 rfl (fun c27_ => ?_) (fun c27_ => ?_)
          · have tc27_ := (show z25_.toInt = 0 from ti_eq rfl rg_11 c27_)
            refine lv_iconst (v := 0) hx hb dX12_mayChange_105 rg_0 ?_
            rw [hQ]
            have N28_ : (σ.2.1 17 (12 * (σ.1 29).toNatClampNeg + x.toNatClampNeg)).toInt = (σ.2.1 17 (Int32.toNatClampNeg z2_)).toInt := by rw [Xz2_]
            exact W.zret (v := 0) hx hb hr rfl (fun t ht hW => ⟨⟨0, σ, rfl, ⟨rfl, (by unfold FitK; have k9 : (0 : Int32).toInt = 0 := (by decide); omega)⟩, wEn_of hP (hK.sub [] rfl) hD ht hW⟩, hS.F ht⟩) hS.2.2 dX12_mayChange_106
          · have tc27_ := (show z25_.toInt ≠ 0 from ti_ne rfl rg_11 c27_)
            refine lv_iconst (v := 1) hx hb dX12_mayChange_101 rg_6 ?_
            refine lv_goto (tgt := 106) hx hb dX12_mayChange_102 rfl ?_
            rw [hQ]
            have N29_ : (σ.2.1 17 (12 * (σ.1 29).toNatClampNeg + x.toNatClampNeg)).toInt = (σ.2.1 17 (Int32.toNatClampNeg z2_)).toInt := by rw [Xz2_]
            exact W.zret (v := 1) hx hb hr rfl (fun t ht hW => ⟨⟨1, σ, rfl, ⟨rfl, (by unfold FitK; have k9 : (1 : Int32).toInt = 1 := (by decide); omega)⟩, wEn_of hP (hK.sub [] rfl) hD ht hW⟩, hS.F ht⟩) hS.2.2 dX12_mayChange_106
      · refine lv_tableIn (tgt := 107) (off := 94) hx hb dX12_mayChange_13 (by rw [t_sw]; decide) (by rw [t_sw]; decide) (by rw [t_sw]; decide) (by decide) ?_
        refine lv_iload hx hb dX12_mayChange_107 (lv_at hl 0 rfl) ?_
        refine lv_if_eq (tgt := 125) hx hb dX12_mayChange_109 rfl (fun c30_ => ?_) (fun c30_ => ?_)
        · have tc30_ := (show z4_.toInt = 0 from ti_eq rfl rg_11 c30_)
          refine lv_iload_n hx hb dX12_mayChange_125 rfl (lv_at hl 4 rfl) ?_
          refine lv_iconst (v := 2) hx hb dX12_mayChange_126 rg_19 ?_
          refine lv_bipush (v := 99) hx hb dX12_mayChange_127 rg_78 ?_
          have kk31_ : (2 : Int32).toInt = 2 := rg_20
          have kk32_ : (99 : Int32).toInt = 99 := rg_79
          refine zs_i (va_runS (As := [.int z, .int 2, .int 99]) (rest := []) ⟨hx, hb, hml, hown, hts⟩ (n_isIn l dC dI z 2 99  H.size) (va_cwS 3 hts gd_n_mayChangeV_324_n_isIn rfl rfl rfl dd_n_isIn ⟨Nat.le_of_ble_eq_true rfl, Nat.le_of_ble_eq_true rfl⟩) (preS (A := A) empP (hK.sub (tys' := []) [] rfl) empD hE) rfl rfl hl.1 rfl (lv_room (Nat.le_of_ble_eq_true rfl)) dX12_mayChange_129 ⟨Nat.le_of_ble_eq_true rfl, Nat.le_of_ble_eq_true rfl⟩) hP hD hS hA (fun z33_ H locs hq hP hD hS => ?_)
          have f34_ := hq
          refine W.widen (k := 0) (n := 0) (Nat.le_of_ble_eq_true rfl) (Nat.le_of_ble_eq_true rfl) ?_
          refine lv_if_eq (tgt := 139) hx hb dX12_mayChange_132 rfl (fun c35_ => ?_) (fun c35_ => ?_)
          · have tc35_ := (show z33_.toInt = 0 from ti_eq rfl rg_11 c35_)
            refine lv_iconst (v := 0) hx hb dX12_mayChange_139 rg_0 ?_
            rw [hQ]
            have N36_ : (σ.2.1 17 (12 * (σ.1 29).toNatClampNeg + x.toNatClampNeg)).toInt = (σ.2.1 17 (Int32.toNatClampNeg z2_)).toInt := by rw [Xz2_]
            exact W.zret (v := 0) hx hb hr rfl (fun t ht hW => ⟨⟨0, σ, rfl, ⟨rfl, (by unfold FitK; have k9 : (0 : Int32).toInt = 0 := (by decide); omega)⟩, wEn_of hP (hK.sub [] rfl) hD ht hW⟩, hS.F ht⟩) hS.2.2 dX12_mayChange_140
          · have tc35_ := (show z33_.toInt ≠ 0 from ti_ne rfl rg_11 c35_)
            refine lv_iconst (v := 1) hx hb dX12_mayChange_135 rg_6 ?_
            refine lv_goto (tgt := 140) hx hb dX12_mayChange_136 rfl ?_
            rw [hQ]
            have N37_ : (σ.2.1 17 (12 * (σ.1 29).toNatClampNeg + x.toNatClampNeg)).toInt = (σ.2.1 17 (Int32.toNatClampNeg z2_)).toInt := by rw [Xz2_]
            exact W.zret (v := 1) hx hb hr rfl (fun t ht hW => ⟨⟨1, σ, rfl, ⟨rfl, (by unfold FitK; have k9 : (1 : Int32).toInt = 1 := (by decide); omega)⟩, wEn_of hP (hK.sub [] rfl) hD ht hW⟩, hS.F ht⟩) hS.2.2 dX12_mayChange_140
        · have tc30_ := (show z4_.toInt ≠ 0 from ti_ne rfl rg_11 c30_)
          refine lv_iload hx hb dX12_mayChange_112 (lv_at hl 0 rfl) ?_
          refine lv_iconst (v := 1) hx hb dX12_mayChange_114 rg_6 ?_
          refine lv_icmp_eq (tgt := 125) hx hb dX12_mayChange_115 rfl (fun c38_ => ?_) (fun c38_ => ?_)
          · have tc38_ := (show z4_.toInt = 1 from ti_eq rfl rg_18 c38_)
            refine lv_iload_n hx hb dX12_mayChange_125 rfl (lv_at hl 4 rfl) ?_
            refine lv_iconst (v := 2) hx hb dX12_mayChange_126 rg_19 ?_
            refine lv_bipush (v := 99) hx hb dX12_mayChange_127 rg_78 ?_
            have kk39_ : (2 : Int32).toInt = 2 := rg_20
            have kk40_ : (99 : Int32).toInt = 99 := rg_79
            refine zs_i (va_runS (As := [.int z, .int 2, .int 99]) (rest := []) ⟨hx, hb, hml, hown, hts⟩ (n_isIn l dC dI z 2 99  H.size) (va_cwS 3 hts gd_n_mayChangeV_324_n_isIn rfl rfl rfl dd_n_isIn ⟨Nat.le_of_ble_eq_true rfl, Nat.le_of_ble_eq_true rfl⟩) (preS (A := A) empP (hK.sub (tys' := []) [] rfl) empD hE) rfl rfl hl.1 rfl (lv_room (Nat.le_of_ble_eq_true rfl)) dX12_mayChange_129 ⟨Nat.le_of_ble_eq_true rfl, Nat.le_of_ble_eq_true rfl⟩) hP hD hS hA (fun z41_ H locs hq hP hD hS => ?_)
            have f42_ := hq
            refine W.widen (k := 0) (n := 0) (Nat.le_of_ble_eq_true rfl) (Nat.le_of_ble_eq_true rfl) ?_
            refine lv_if_eq (tgt := 139) hx hb dX12_mayChange_132 rfl (fun c43_ => ?_) (fun c43_ => ?_)
            · have tc43_ := (show z41_.toInt = 0 from ti_eq rfl rg_11 c43_)
              refine lv_iconst (v := 0) hx hb dX12_mayChange_139 rg_0 ?_
              rw [hQ]
              have N44_ : (σ.2.1 17 (12 * (σ.1 29).toNatClampNeg + x.toNatClampNeg)).toInt = (σ.2.1 17 (Int32.toNatClampNeg z2_)).toInt := by rw [Xz2_]
              exact W.zret (v := 0) hx hb hr rfl (fun t ht hW => ⟨⟨0, σ, rfl, ⟨rfl, (by unfold FitK; have k9 : (0 : Int32).toInt = 0 := (by decide); omega)⟩, wEn_of hP (hK.sub [] rfl) hD ht hW⟩, hS.F ht⟩) hS.2.2 dX12_mayChange_140
            · have tc43_ := (show z41_.toInt ≠ 0 from ti_ne rfl rg_11 c43_)
              refine lv_iconst (v := 1) hx hb dX12_mayChange_135 rg_6 ?_
              refine lv_goto (tgt := 140) hx hb dX12_mayChange_136 rfl ?_
              rw [hQ]
              have N45_ : (σ.2.1 17 (12 * (σ.1 29).toNatClampNeg + x.toNatClampNeg)).toInt = (σ.2.1 17 (Int32.toNatClampNeg z2_)).toInt := by rw [Xz2_]
              exact W.zret (v := 1) hx hb hr rfl (fun t ht hW => ⟨⟨1, σ, rfl, ⟨rfl, (by unfold FitK; have k9 : (1 : Int32).toInt = 1 := (by decide); omega)⟩, wEn_of hP (hK.sub [] rfl) hD ht hW⟩, hS.F ht⟩) hS.2.2 dX12_mayChange_140
          · have tc38_ := (show z4_.toInt ≠ 1 from ti_ne rfl rg_18 c38_)
            refine lv_iload hx hb dX12_mayChange_118 (lv_at hl 0 rfl) ?_
            refine lv_bipush (v := 6) hx hb dX12_mayChange_120 rg_55 ?_
            refine lv_icmp_ne (tgt := 139) hx hb dX12_mayChange_122 rfl (fun c46_ => ?_) (fun c46_ => ?_)
            · have tc46_ := (show z4_.toInt ≠ 6 from ti_ne rfl rg_70 c46_)
              refine lv_iconst (v := 0) hx hb dX12_mayChange_139 rg_0 ?_
              rw [hQ]
              have N47_ : (σ.2.1 17 (12 * (σ.1 29).toNatClampNeg + x.toNatClampNeg)).toInt = (σ.2.1 17 (Int32.toNatClampNeg z2_)).toInt := by rw [Xz2_]
              exact W.zret (v := 0) hx hb hr rfl (fun t ht hW => ⟨⟨0, σ, rfl, ⟨rfl, (by unfold FitK; have k9 : (0 : Int32).toInt = 0 := (by decide); omega)⟩, wEn_of hP (hK.sub [] rfl) hD ht hW⟩, hS.F ht⟩) hS.2.2 dX12_mayChange_140
            · have tc46_ := (show z4_.toInt = 6 from ti_eq rfl rg_70 c46_)
              refine lv_iload_n hx hb dX12_mayChange_125 rfl (lv_at hl 4 rfl) ?_
              refine lv_iconst (v := 2) hx hb dX12_mayChange_126 rg_19 ?_
              refine lv_bipush (v := 99) hx hb dX12_mayChange_127 rg_78 ?_
              have kk48_ : (2 : Int32).toInt = 2 := rg_20
              have kk49_ : (99 : Int32).toInt = 99 := rg_79
              refine zs_i (va_runS (As := [.int z, .int 2, .int 99]) (rest := []) ⟨hx, hb, hml, hown, hts⟩ (n_isIn l dC dI z 2 99  H.size) (va_cwS 3 hts gd_n_mayChangeV_324_n_isIn rfl rfl rfl dd_n_isIn ⟨Nat.le_of_ble_eq_true rfl, Nat.le_of_ble_eq_true rfl⟩) (preS (A := A) empP (hK.sub (tys' := []) [] rfl) empD hE) rfl rfl hl.1 rfl (lv_room (Nat.le_of_ble_eq_true rfl)) dX12_mayChange_129 ⟨Nat.le_of_ble_eq_true rfl, Nat.le_of_ble_eq_true rfl⟩) hP hD hS hA (fun z50_ H locs hq hP hD hS => ?_)
              have f51_ := hq
              refine W.widen (k := 0) (n := 0) (Nat.le_of_ble_eq_true rfl) (Nat.le_of_ble_eq_true rfl) ?_
              refine lv_if_eq (tgt := 139) hx hb dX12_mayChange_132 rfl (fun c52_ => ?_) (fun c52_ => ?_)
              · have tc52_ := (show z50_.toInt = 0 from ti_eq rfl rg_11 c52_)
                refine lv_iconst (v := 0) hx hb dX12_mayChange_139 rg_0 ?_
                rw [hQ]
                have N53_ : (σ.2.1 17 (12 * (σ.1 29).toNatClampNeg + x.toNatClampNeg)).toInt = (σ.2.1 17 (Int32.toNatClampNeg z2_)).toInt := by rw [Xz2_]
                exact W.zret (v := 0) hx hb hr rfl (fun t ht hW => ⟨⟨0, σ, rfl, ⟨rfl, (by unfold FitK; have k9 : (0 : Int32).toInt = 0 := (by decide); omega)⟩, wEn_of hP (hK.sub [] rfl) hD ht hW⟩, hS.F ht⟩) hS.2.2 dX12_mayChange_140
              · have tc52_ := (show z50_.toInt ≠ 0 from ti_ne rfl rg_11 c52_)
                refine lv_iconst (v := 1) hx hb dX12_mayChange_135 rg_6 ?_
                refine lv_goto (tgt := 140) hx hb dX12_mayChange_136 rfl ?_
                rw [hQ]
                have N54_ : (σ.2.1 17 (12 * (σ.1 29).toNatClampNeg + x.toNatClampNeg)).toInt = (σ.2.1 17 (Int32.toNatClampNeg z2_)).toInt := by rw [Xz2_]
                exact W.zret (v := 1) hx hb hr rfl (fun t ht hW => ⟨⟨1, σ, rfl, ⟨rfl, (by unfold FitK; have k9 : (1 : Int32).toInt = 1 := (by decide); omega)⟩, wEn_of hP (hK.sub [] rfl) hD ht hW⟩, hS.F ht⟩) hS.2.2 dX12_mayChange_140
      · refine lv_tableIn (tgt := 141) (off := 128) hx hb dX12_mayChange_13 (by rw [t_sw]; decide) (by rw [t_sw]; decide) (by rw [t_sw]; decide) (by decide) ?_
        refine lv_iload_n hx hb dX12_mayChange_141 rfl (lv_at hl 4 rfl) ?_
        refine lv_if_ne (tgt := 149) hx hb dX12_mayChange_142 rfl (fun c55_ => ?_) (fun c55_ => ?_)
        · have tc55_ := (show z.toInt ≠ 0 from ti_ne rfl rg_11 c55_)
          refine lv_iconst (v := 0) hx hb dX12_mayChange_149 rg_0 ?_
          rw [hQ]
          have N56_ : (σ.2.1 17 (12 * (σ.1 29).toNatClampNeg + x.toNatClampNeg)).toInt = (σ.2.1 17 (Int32.toNatClampNeg z2_)).toInt := by rw [Xz2_]
          exact W.zret (v := 0) hx hb hr rfl (fun t ht hW => ⟨⟨0, σ, rfl, ⟨rfl, (by unfold FitK; have k9 : (0 : Int32).toInt = 0 := (by decide); omega)⟩, wEn_of hP (hK.sub [] rfl) hD ht hW⟩, hS.F ht⟩) hS.2.2 dX12_mayChange_150
        · have tc55_ := (show z.toInt = 0 from ti_eq rfl rg_11 c55_)
          refine lv_iconst (v := 1) hx hb dX12_mayChange_145 rg_6 ?_
          refine lv_goto (tgt := 150) hx hb dX12_mayChange_146 rfl ?_
          rw [hQ]
          have N57_ : (σ.2.1 17 (12 * (σ.1 29).toNatClampNeg + x.toNatClampNeg)).toInt = (σ.2.1 17 (Int32.toNatClampNeg z2_)).toInt := by rw [Xz2_]
          exact W.zret (v := 1) hx hb hr rfl (fun t ht hW => ⟨⟨1, σ, rfl, ⟨rfl, (by unfold FitK; have k9 : (1 : Int32).toInt = 1 := (by decide); omega)⟩, wEn_of hP (hK.sub [] rfl) hD ht hW⟩, hS.F ht⟩) hS.2.2 dX12_mayChange_150
      · refine lv_tableIn (tgt := 151) (off := 138) hx hb dX12_mayChange_13 (by rw [t_sw]; decide) (by rw [t_sw]; decide) (by rw [t_sw]; decide) (by decide) ?_
        refine lv_iload hx hb dX12_mayChange_151 (lv_at hl 0 rfl) ?_
        refine lv_if_eq (tgt := 162) hx hb dX12_mayChange_153 rfl (fun c58_ => ?_) (fun c58_ => ?_)
        · have tc58_ := (show z4_.toInt = 0 from ti_eq rfl rg_11 c58_)
          refine lv_iload_n hx hb dX12_mayChange_162 rfl (lv_at hl 4 rfl) ?_
          refine lv_iconst (v := 1) hx hb dX12_mayChange_163 rg_6 ?_
          refine lv_iconst (v := 5) hx hb dX12_mayChange_164 rg_14 ?_
          have kk59_ : (1 : Int32).toInt = 1 := rg_18
          have kk60_ : (5 : Int32).toInt = 5 := rg_15
          refine zs_i (va_runS (As := [.int z, .int 1, .int 5]) (rest := []) ⟨hx, hb, hml, hown, hts⟩ (n_isIn l dC dI z 1 5  H.size) (va_cwS 3 hts gd_n_mayChangeV_324_n_isIn rfl rfl rfl dd_n_isIn ⟨Nat.le_of_ble_eq_true rfl, Nat.le_of_ble_eq_true rfl⟩) (preS (A := A) empP (hK.sub (tys' := []) [] rfl) empD hE) rfl rfl hl.1 rfl (lv_room (Nat.le_of_ble_eq_true rfl)) dX12_mayChange_165 ⟨Nat.le_of_ble_eq_true rfl, Nat.le_of_ble_eq_true rfl⟩) hP hD hS hA (fun z61_ H locs hq hP hD hS => ?_)
          have f62_ := hq
          refine W.widen (k := 0) (n := 0) (Nat.le_of_ble_eq_true rfl) (Nat.le_of_ble_eq_true rfl) ?_
          refine lv_if_eq (tgt := 175) hx hb dX12_mayChange_168 rfl (fun c63_ => ?_) (fun c63_ => ?_)
          · have tc63_ := (show z61_.toInt = 0 from ti_eq rfl rg_11 c63_)
            refine lv_iconst (v := 0) hx hb dX12_mayChange_175 rg_0 ?_
            rw [hQ]
            have N64_ : (σ.2.1 17 (12 * (σ.1 29).toNatClampNeg + x.toNatClampNeg)).toInt = (σ.2.1 17 (Int32.toNatClampNeg z2_)).toInt := by rw [Xz2_]
            exact W.zret (v := 0) hx hb hr rfl (fun t ht hW => ⟨⟨0, σ, rfl, ⟨rfl, (by unfold FitK; have k9 : (0 : Int32).toInt = 0 := (by decide); omega)⟩, wEn_of hP (hK.sub [] rfl) hD ht hW⟩, hS.F ht⟩) hS.2.2 dX12_mayChange_176
          · have tc63_ := (show z61_.toInt ≠ 0 from ti_ne rfl rg_11 c63_)
            refine lv_iconst (v := 1) hx hb dX12_mayChange_171 rg_6 ?_
            refine lv_goto (tgt := 176) hx hb dX12_mayChange_172 rfl ?_
            rw [hQ]
            have N65_ : (σ.2.1 17 (12 * (σ.1 29).toNatClampNeg + x.toNatClampNeg)).toInt = (σ.2.1 17 (Int32.toNatClampNeg z2_)).toInt := by rw [Xz2_]
            exact W.zret (v := 1) hx hb hr rfl (fun t ht hW => ⟨⟨1, σ, rfl, ⟨rfl, (by unfold FitK; have k9 : (1 : Int32).toInt = 1 := (by decide); omega)⟩, wEn_of hP (hK.sub [] rfl) hD ht hW⟩, hS.F ht⟩) hS.2.2 dX12_mayChange_176
        · have tc58_ := (show z4_.toInt ≠ 0 from ti_ne rfl rg_11 c58_)
          refine lv_iload hx hb dX12_mayChange_156 (lv_at hl 0 rfl) ?_
          refine lv_iconst (v := 1) hx hb dX12_mayChange_158 rg_6 ?_
          refine lv_icmp_ne (tgt := 175) hx hb dX12_mayChange_159 rfl (fun c66_ => ?_) (fun c66_ => ?_)
          · have tc66_ := (show z4_.toInt ≠ 1 from ti_ne rfl rg_18 c66_)
            refine lv_iconst (v := 0) hx hb dX12_mayChange_175 rg_0 ?_
            rw [hQ]
            have N67_ : (σ.2.1 17 (12 * (σ.1 29).toNatClampNeg + x.toNatClampNeg)).toInt = (σ.2.1 17 (Int32.toNatClampNeg z2_)).toInt := by rw [Xz2_]
            exact W.zret (v := 0) hx hb hr rfl (fun t ht hW => ⟨⟨0, σ, rfl, ⟨rfl, (by unfold FitK; have k9 : (0 : Int32).toInt = 0 := (by decide); omega)⟩, wEn_of hP (hK.sub [] rfl) hD ht hW⟩, hS.F ht⟩) hS.2.2 dX12_mayChange_176
          · have tc66_ := (show z4_.toInt = 1 from ti_eq rfl rg_18 c66_)
            refine lv_iload_n hx hb dX12_mayChange_162 rfl (lv_at hl 4 rfl) ?_
            refine lv_iconst (v := 1) hx hb dX12_mayChange_163 rg_6 ?_
            refine lv_iconst (v := 5) hx hb dX12_mayChange_164 rg_14 ?_
            have kk68_ : (1 : Int32).toInt = 1 := rg_18
            have kk69_ : (5 : Int32).toInt = 5 := rg_15
            refine zs_i (va_runS (As := [.int z, .int 1, .int 5]) (rest := []) ⟨hx, hb, hml, hown, hts⟩ (n_isIn l dC dI z 1 5  H.size) (va_cwS 3 hts gd_n_mayChangeV_324_n_isIn rfl rfl rfl dd_n_isIn ⟨Nat.le_of_ble_eq_true rfl, Nat.le_of_ble_eq_true rfl⟩) (preS (A := A) empP (hK.sub (tys' := []) [] rfl) empD hE) rfl rfl hl.1 rfl (lv_room (Nat.le_of_ble_eq_true rfl)) dX12_mayChange_165 ⟨Nat.le_of_ble_eq_true rfl, Nat.le_of_ble_eq_true rfl⟩) hP hD hS hA (fun z70_ H locs hq hP hD hS => ?_)
            have f71_ := hq
            refine W.widen (k := 0) (n := 0) (Nat.le_of_ble_eq_true rfl) (Nat.le_of_ble_eq_true rfl) ?_
            refine lv_if_eq (tgt := 175) hx hb dX12_mayChange_168 rfl (fun c72_ => ?_) (fun c72_ => ?_)
            · have tc72_ := (show z70_.toInt = 0 from ti_eq rfl rg_11 c72_)
              refine lv_iconst (v := 0) hx hb dX12_mayChange_175 rg_0 ?_
              rw [hQ]
              have N73_ : (σ.2.1 17 (12 * (σ.1 29).toNatClampNeg + x.toNatClampNeg)).toInt = (σ.2.1 17 (Int32.toNatClampNeg z2_)).toInt := by rw [Xz2_]
              exact W.zret (v := 0) hx hb hr rfl (fun t ht hW => ⟨⟨0, σ, rfl, ⟨rfl, (by unfold FitK; have k9 : (0 : Int32).toInt = 0 := (by decide); omega)⟩, wEn_of hP (hK.sub [] rfl) hD ht hW⟩, hS.F ht⟩) hS.2.2 dX12_mayChange_176
            · have tc72_ := (show z70_.toInt ≠ 0 from ti_ne rfl rg_11 c72_)
              refine lv_iconst (v := 1) hx hb dX12_mayChange_171 rg_6 ?_
              refine lv_goto (tgt := 176) hx hb dX12_mayChange_172 rfl ?_
              rw [hQ]
              have N74_ : (σ.2.1 17 (12 * (σ.1 29).toNatClampNeg + x.toNatClampNeg)).toInt = (σ.2.1 17 (Int32.toNatClampNeg z2_)).toInt := by rw [Xz2_]
              exact W.zret (v := 1) hx hb hr rfl (fun t ht hW => ⟨⟨1, σ, rfl, ⟨rfl, (by unfold FitK; have k9 : (1 : Int32).toInt = 1 := (by decide); omega)⟩, wEn_of hP (hK.sub [] rfl) hD ht hW⟩, hS.F ht⟩) hS.2.2 dX12_mayChange_176
      · refine lv_tableIn (tgt := 177) (off := 164) hx hb dX12_mayChange_13 (by rw [t_sw]; decide) (by rw [t_sw]; decide) (by rw [t_sw]; decide) (by decide) ?_
        refine lv_iload hx hb dX12_mayChange_177 (lv_at hl 0 rfl) ?_
        refine lv_if_eq (tgt := 195) hx hb dX12_mayChange_179 rfl (fun c75_ => ?_) (fun c75_ => ?_)
        · have tc75_ := (show z4_.toInt = 0 from ti_eq rfl rg_11 c75_)
          refine lv_iload_n hx hb dX12_mayChange_195 rfl (lv_at hl 4 rfl) ?_
          refine lv_if_ne (tgt := 203) hx hb dX12_mayChange_196 rfl (fun c76_ => ?_) (fun c76_ => ?_)
          · have tc76_ := (show z.toInt ≠ 0 from ti_ne rfl rg_11 c76_)
            refine lv_iconst (v := 0) hx hb dX12_mayChange_203 rg_0 ?_
            rw [hQ]
            have N77_ : (σ.2.1 17 (12 * (σ.1 29).toNatClampNeg + x.toNatClampNeg)).toInt = (σ.2.1 17 (Int32.toNatClampNeg z2_)).toInt := by rw [Xz2_]
            exact W.zret (v := 0) hx hb hr rfl (fun t ht hW => ⟨⟨0, σ, rfl, ⟨rfl, (by unfold FitK; have k9 : (0 : Int32).toInt = 0 := (by decide); omega)⟩, wEn_of hP (hK.sub [] rfl) hD ht hW⟩, hS.F ht⟩) hS.2.2 dX12_mayChange_204
          · have tc76_ := (show z.toInt = 0 from ti_eq rfl rg_11 c76_)
            refine lv_iconst (v := 1) hx hb dX12_mayChange_199 rg_6 ?_
            refine lv_goto (tgt := 204) hx hb dX12_mayChange_200 rfl ?_
            rw [hQ]
            have N78_ : (σ.2.1 17 (12 * (σ.1 29).toNatClampNeg + x.toNatClampNeg)).toInt = (σ.2.1 17 (Int32.toNatClampNeg z2_)).toInt := by rw [Xz2_]
            exact W.zret (v := 1) hx hb hr rfl (fun t ht hW => ⟨⟨1, σ, rfl, ⟨rfl, (by unfold FitK; have k9 : (1 : Int32).toInt = 1 := (by decide); omega)⟩, wEn_of hP (hK.sub [] rfl) hD ht hW⟩, hS.F ht⟩) hS.2.2 dX12_mayChange_204
        · have tc75_ := (show z4_.toInt ≠ 0 from ti_ne rfl rg_11 c75_)
          refine lv_iload hx hb dX12_mayChange_182 (lv_at hl 0 rfl) ?_
          refine lv_iconst (v := 1) hx hb dX12_mayChange_184 rg_6 ?_
          refine lv_icmp_eq (tgt := 195) hx hb dX12_mayChange_185 rfl (fun c79_ => ?_) (fun c79_ => ?_)
          · have tc79_ := (show z4_.toInt = 1 from ti_eq rfl rg_18 c79_)
            refine lv_iload_n hx hb dX12_mayChange_195 rfl (lv_at hl 4 rfl) ?_
            refine lv_if_ne (tgt := 203) hx hb dX12_mayChange_196 rfl (fun c80_ => ?_) (fun c80_ => ?_)
            · have tc80_ := (show z.toInt ≠ 0 from ti_ne rfl rg_11 c80_)
              refine lv_iconst (v := 0) hx hb dX12_mayChange_203 rg_0 ?_
              rw [hQ]
              have N81_ : (σ.2.1 17 (12 * (σ.1 29).toNatClampNeg + x.toNatClampNeg)).toInt = (σ.2.1 17 (Int32.toNatClampNeg z2_)).toInt := by rw [Xz2_]
              exact W.zret (v := 0) hx hb hr rfl (fun t ht hW => ⟨⟨0, σ, rfl, ⟨rfl, (by unfold FitK; have k9 : (0 : Int32).toInt = 0 := (by decide); omega)⟩, wEn_of hP (hK.sub [] rfl) hD ht hW⟩, hS.F ht⟩) hS.2.2 dX12_mayChange_204
            · have tc80_ := (show z.toInt = 0 from ti_eq rfl rg_11 c80_)
              refine lv_iconst (v := 1) hx hb dX12_mayChange_199 rg_6 ?_
              refine lv_goto (tgt := 204) hx hb dX12_mayChange_200 rfl ?_
              rw [hQ]
              have N82_ : (σ.2.1 17 (12 * (σ.1 29).toNatClampNeg + x.toNatClampNeg)).toInt = (σ.2.1 17 (Int32.toNatClampNeg z2_)).toInt := by rw [Xz2_]
              exact W.zret (v := 1) hx hb hr rfl (fun t ht hW => ⟨⟨1, σ, rfl, ⟨rfl, (by unfold FitK; have k9 : (1 : Int32).toInt = 1 := (by decide); omega)⟩, wEn_of hP (hK.sub [] rfl) hD ht hW⟩, hS.F ht⟩) hS.2.2 dX12_mayChange_204
          · have tc79_ := (show z4_.toInt ≠ 1 from ti_ne rfl rg_18 c79_)
            refine lv_iload hx hb dX12_mayChange_188 (lv_at hl 0 rfl) ?_
            refine lv_bipush (v := 6) hx hb dX12_mayChange_190 rg_55 ?_
            refine lv_icmp_ne (tgt := 203) hx hb dX12_mayChange_192 rfl (fun c83_ => ?_) (fun c83_ => ?_)
            · have tc83_ := (show z4_.toInt ≠ 6 from ti_ne rfl rg_70 c83_)
              refine lv_iconst (v := 0) hx hb dX12_mayChange_203 rg_0 ?_
              rw [hQ]
              have N84_ : (σ.2.1 17 (12 * (σ.1 29).toNatClampNeg + x.toNatClampNeg)).toInt = (σ.2.1 17 (Int32.toNatClampNeg z2_)).toInt := by rw [Xz2_]
              exact W.zret (v := 0) hx hb hr rfl (fun t ht hW => ⟨⟨0, σ, rfl, ⟨rfl, (by unfold FitK; have k9 : (0 : Int32).toInt = 0 := (by decide); omega)⟩, wEn_of hP (hK.sub [] rfl) hD ht hW⟩, hS.F ht⟩) hS.2.2 dX12_mayChange_204
            · have tc83_ := (show z4_.toInt = 6 from ti_eq rfl rg_70 c83_)
              refine lv_iload_n hx hb dX12_mayChange_195 rfl (lv_at hl 4 rfl) ?_
              refine lv_if_ne (tgt := 203) hx hb dX12_mayChange_196 rfl (fun c85_ => ?_) (fun c85_ => ?_)
              · have tc85_ := (show z.toInt ≠ 0 from ti_ne rfl rg_11 c85_)
                refine lv_iconst (v := 0) hx hb dX12_mayChange_203 rg_0 ?_
                rw [hQ]
                have N86_ : (σ.2.1 17 (12 * (σ.1 29).toNatClampNeg + x.toNatClampNeg)).toInt = (σ.2.1 17 (Int32.toNatClampNeg z2_)).toInt := by rw [Xz2_]
                exact W.zret (v := 0) hx hb hr rfl (fun t ht hW => ⟨⟨0, σ, rfl, ⟨rfl, (by unfold FitK; have k9 : (0 : Int32).toInt = 0 := (by decide); omega)⟩, wEn_of hP (hK.sub [] rfl) hD ht hW⟩, hS.F ht⟩) hS.2.2 dX12_mayChange_204
              · have tc85_ := (show z.toInt = 0 from ti_eq rfl rg_11 c85_)
                refine lv_iconst (v := 1) hx hb dX12_mayChange_199 rg_6 ?_
                refine lv_goto (tgt := 204) hx hb dX12_mayChange_200 rfl ?_
                rw [hQ]
                have N87_ : (σ.2.1 17 (12 * (σ.1 29).toNatClampNeg + x.toNatClampNeg)).toInt = (σ.2.1 17 (Int32.toNatClampNeg z2_)).toInt := by rw [Xz2_]
                exact W.zret (v := 1) hx hb hr rfl (fun t ht hW => ⟨⟨1, σ, rfl, ⟨rfl, (by unfold FitK; have k9 : (1 : Int32).toInt = 1 := (by decide); omega)⟩, wEn_of hP (hK.sub [] rfl) hD ht hW⟩, hS.F ht⟩) hS.2.2 dX12_mayChange_204
def ow_n_changeV : List Cond := [.fieldLink RX12 252 "NearEnoughModel" "changes" "I", .fieldLink RX12 82 "NearEnoughModel" "cStep" "[I", .fieldLink RX12 85 "NearEnoughModel" "cKind" "[I", .fieldLink RX12 88 "NearEnoughModel" "cN" "[I", .fieldLink RX12 91 "NearEnoughModel" "cSaves" "[I"]
def vs_n_changeV : List Cond := .code yX12_change cX12_change 5 (some .int) :: (ow_n_changeV ++ (([.methodLink RX12 328 yX12_isStep, .instanceMethod yX12_isStep, .selects RX12 yX12_isStep yX12_isStep, .initialized RX12] : List Cond) ++ (vs_n_isStep ++ (([.methodLink RX12 324 yX12_isIn, .static yX12_isIn, .initialized yX12_isIn.cls] : List Cond) ++ (vs_n_isIn ++ (([.methodLink RX12 334 yX12_mayChange, .instanceMethod yX12_mayChange, .selects RX12 yX12_mayChange yX12_mayChange, .initialized RX12] : List Cond) ++ (vs_n_mayChangeV ++ (wsX120))))))))
theorem vg_n_changeV : vs_n_changeV.all goodWord = true := by decide +kernel
theorem dd_n_changeV : yX12_change.cls = RX12 ∧ yX12_change.cls ≠ "java/lang/invoke/MethodHandle" ∧ yX12_change.cls ≠ "java/lang/invoke/VarHandle" ∧ (parseMethodDescriptor yX12_change.desc).map (fun d => d.parameters.length) = some 4 := by decide +kernel
def rm_n_changeV : Room := { frames := 2, cells := 0, slots := 0, locals := 46 }
theorem gd_n_changeV_328_n_isStep : GoodIn vs_n_changeV (wsV RX12 328 RX12 yX12_isStep vs_n_isStep) := goodIn_app (goodIn_sub (fun w h => (List.mem_cons_of_mem _ (List.mem_append_right _ (List.mem_append_left _ h)))) (by decide +kernel)) (goodIn_sub (fun w h => (List.mem_cons_of_mem _ (List.mem_append_right _ (List.mem_append_right _ (List.mem_append_left _ h))))) vg_n_isStep)
theorem gd_n_changeV_324_n_isIn : GoodIn vs_n_changeV (va_wsS RX12 324 yX12_isIn vs_n_isIn) := goodIn_app (goodIn_sub (fun w h => (List.mem_cons_of_mem _ (List.mem_append_right _ (List.mem_append_right _ (List.mem_append_right _ (List.mem_append_left _ h)))))) (by decide +kernel)) (goodIn_sub (fun w h => (List.mem_cons_of_mem _ (List.mem_append_right _ (List.mem_append_right _ (List.mem_append_right _ (List.mem_append_right _ (List.mem_append_left _ h))))))) vg_n_isIn)
theorem gd_n_changeV_334_n_mayChangeV : GoodIn vs_n_changeV (wsV RX12 334 RX12 yX12_mayChange vs_n_mayChangeV) := goodIn_app (goodIn_sub (fun w h => (List.mem_cons_of_mem _ (List.mem_append_right _ (List.mem_append_right _ (List.mem_append_right _ (List.mem_append_right _ (List.mem_append_right _ (List.mem_append_left _ h)))))))) (by decide +kernel)) (goodIn_sub (fun w h => (List.mem_cons_of_mem _ (List.mem_append_right _ (List.mem_append_right _ (List.mem_append_right _ (List.mem_append_right _ (List.mem_append_right _ (List.mem_append_right _ (List.mem_append_left _ h))))))))) vg_n_mayChangeV)
set_option maxHeartbeats 4000000 in
set_option maxRecDepth 100000 in
theorem n_changeV (l : Launch) (dC : Nat → ClassId) (dI : Nat → Nat → Nat) (h : Nat) (ad : Nat → Nat) (cl : Nat → ClassId) (sz : Nat) (σ : MS) (x0 : Int32) (x1 : Int32) (x2 : Int32) (x3 : Int32) (hI : Inv σ) : Met l yX12_change vs_n_changeV rm_n_changeV (va_Pc [.ref h, .int x0, .int x1, .int x2, .int x3] (wSt dC dI (mW h ad cl σ) (mT cl) sz)) (va_Qi (fun (r : Int32) (τ : MS) => Inv τ ∧ eqx [33, 34, 35, 36, 40] τ σ ∧ (ChR σ → ChR τ)) (fun (τ : MS) => wEn dC dI (va_A (mW h ad cl σ) sz) (mW h ad cl τ) []) (va_A (mW h ad cl σ) sz)) 0 0 (va_A (mW h ad cl σ) sz) := by
  refine Met.ofW (cc := cX12_change) (maxL := 5) (ret := (some .int)) (by decide) rfl ?_
  intro p e s m args below meth c s₁ B hml hv
  obtain ⟨rfl, hsz, hP, hK, hD0, hE⟩ := hv
  have hx := B.exec
  have hb := B.bytes
  have hr := B.returns
  have hts := atoms_spec (ws := vs_n_changeV) B.pre
  have hown : s.vm.findClass RX12 = some m.cls := findClass_of_methodNamed B.named
  have hlocks := B.notSynchronized
  subst hsz
  have hD := hD0.self (sz := s.heap.size)
  generalize hAe : va_A (mW h ad cl σ) s.heap.size = A at hD ⊢
  have hA : ∀ q : Nat, s.heap.size ≤ q → A q := fun q h => by rw [← hAe]; exact Or.inr h
  have hl := lv_entry ([.ref h, .int x0, .int x1, .int x2, .int x3]) (n := 5) (Nat.le_of_ble_eq_true rfl)
  rw [lg_entry_eq]
  generalize (lg_sl ([.ref h, .int x0, .int x1, .int x2, .int x3]) ++ List.replicate (5 - (lg_sl ([.ref h, .int x0, .int x1, .int x2, .int x3])).length) Slot.unset).toArray = ls at hl ⊢
  have hl : lv_has ls 5 [(0, .ref h), (1, .int x0), (2, .int x1), (3, .int x2), (4, .int x3)] := hl
  have ho := fun w (h : w ∈ ow_n_changeV) => hts w (List.mem_cons_of_mem _ (List.mem_append_left _ h))
  have hin12 : ∀ w ∈ u_ws RX12 TX12 59, w ∈ vs_n_changeV := fun w h => (List.mem_cons_of_mem _ (List.mem_append_right _ (List.mem_append_right _ (List.mem_append_right _ (List.mem_append_right _ (List.mem_append_right _ (List.mem_append_right _ (List.mem_append_right _ h))))))))
  refine zQ (fun Q hQ => ?_)
  refine zH (A := A) (ws := mW h ad cl σ) (fun H hP hS => ?_) hP
  have bσ_29 : 0 ≤ (σ.1 29).toInt ∧ (σ.1 29).toInt ≤ 1 := hI.1 29
  have bσ_40 : 0 ≤ (σ.1 40).toInt ∧ (σ.1 40).toInt ≤ 12 := hI.1 40
  refine lv_aload_n hx hb dX12_change_0 rfl (lv_at hl 0 rfl) ?_
  refine lv_iload_n hx hb dX12_change_1 rfl (lv_at hl 1 rfl) ?_
  refine zy_i (va_runV (As := [.int x0]) (rest := []) ⟨hx, hb, hml, hown, hts⟩ (n_isStep l dC dI h ad cl H.size σ x0 hI) (cwV 1 hts gd_n_changeV_328_n_isStep rfl rfl rfl dd_n_isStep ⟨Nat.le_of_ble_eq_true rfl, Nat.le_of_ble_eq_true rfl⟩) (preV hP hK hD hE (ci := 12) (q0 := 0) rfl rfl) rfl rfl hl.1 rfl (lv_room (Nat.le_of_ble_eq_true rfl)) dX12_change_2 ⟨Nat.le_of_ble_eq_true rfl, Nat.le_of_ble_eq_true rfl⟩) hD hS hA (fun z2_ τ1_ H locs hq hP hD hS => ?_)
  obtain ⟨rfl, f3_⟩ := hq
  refine W.widen (k := 0) (n := 0) (Nat.le_of_ble_eq_true rfl) (Nat.le_of_ble_eq_true rfl) ?_
  refine lv_if_eq (tgt := 29) hx hb dX12_change_5 rfl (fun c4_ => ?_) (fun c4_ => ?_)
  · have tc4_ := (show z2_.toInt = 0 from ti_eq rfl rg_11 c4_)
    refine lv_iconst (v := (-1)) hx hb dX12_change_29 rg_53 ?_
    rw [hQ]
    exact W.iret (v := (-1)) hx hb hr (fun t ht hW => ⟨⟨(-1), σ, rfl, ⟨hI, eqx.rf, (fun h9 => h9)⟩, wEn_of hP (hK.sub [] rfl) hD ht hW⟩, hS.F ht⟩) hS.2.2 dX12_change_30
  · have tc4_ := (show z2_.toInt ≠ 0 from ti_ne rfl rg_11 c4_)
    refine lv_aload_n hx hb dX12_change_8 rfl (lv_at hl 0 rfl) ?_
    refine va_get (D := (dC, dI)) (ci := 12) (v := .int (σ.1 40)) (C := RX12) (T := TX12) (N := 59) hx hb hts hin12 hown hK hP 0 rfl rfl 40 (Nat.le_of_ble_eq_true rfl) (ho (.fieldLink RX12 252 "NearEnoughModel" "changes" "I") (List.mem_of_getElem? (i := 0) rfl)) (fun _ h9 => h9) rfl dX12_change_9 ?_
    have bσ_40 : 0 ≤ (σ.1 40).toInt ∧ (σ.1 40).toInt ≤ 12 := hI.1 40
    refine lv_bipush (v := 12) hx hb dX12_change_12 rg_57 ?_
    refine lv_icmp_eq (tgt := 29) hx hb dX12_change_14 rfl (fun c5_ => ?_) (fun c5_ => ?_)
    · have tc5_ := (show (σ.1 40).toInt = 12 from ti_eq rfl rg_58 c5_)
      refine lv_iconst (v := (-1)) hx hb dX12_change_29 rg_53 ?_
      rw [hQ]
      exact W.iret (v := (-1)) hx hb hr (fun t ht hW => ⟨⟨(-1), σ, rfl, ⟨hI, eqx.rf, (fun h9 => h9)⟩, wEn_of hP (hK.sub [] rfl) hD ht hW⟩, hS.F ht⟩) hS.2.2 dX12_change_30
    · have tc5_ := (show (σ.1 40).toInt ≠ 12 from ti_ne rfl rg_58 c5_)
      refine lv_iload hx hb dX12_change_17 (lv_at hl 4 rfl) ?_
      refine lv_iconst (v := 0) hx hb dX12_change_19 rg_0 ?_
      refine lv_sipush (v := 999) hx hb dX12_change_20 rg_80 ?_
      have kk6_ : (0 : Int32).toInt = 0 := rg_11
      have kk7_ : (999 : Int32).toInt = 999 := rg_81
      refine zs_i (va_runS (As := [.int x3, .int 0, .int 999]) (rest := []) ⟨hx, hb, hml, hown, hts⟩ (n_isIn l dC dI x3 0 999  H.size) (va_cwS 3 hts gd_n_changeV_324_n_isIn rfl rfl rfl dd_n_isIn ⟨Nat.le_of_ble_eq_true rfl, Nat.le_of_ble_eq_true rfl⟩) (preS (A := A) empP (hK.sub (tys' := []) [] rfl) empD hE) rfl rfl hl.1 rfl (lv_room (Nat.le_of_ble_eq_true rfl)) dX12_change_23 ⟨Nat.le_of_ble_eq_true rfl, Nat.le_of_ble_eq_true rfl⟩) hP hD hS hA (fun z8_ H locs hq hP hD hS => ?_)
      have f9_ := hq
      refine W.widen (k := 0) (n := 0) (Nat.le_of_ble_eq_true rfl) (Nat.le_of_ble_eq_true rfl) ?_
      refine lv_if_ne (tgt := 31) hx hb dX12_change_26 rfl (fun c10_ => ?_) (fun c10_ => ?_)
      · have tc10_ := (show z8_.toInt ≠ 0 from ti_ne rfl rg_11 c10_)
        refine lv_aload_n hx hb dX12_change_31 rfl (lv_at hl 0 rfl) ?_
        refine lv_iload_n hx hb dX12_change_32 rfl (lv_at hl 1 rfl) ?_
        refine lv_iload_n hx hb dX12_change_33 rfl (lv_at hl 2 rfl) ?_
        refine lv_iload_n hx hb dX12_change_34 rfl (lv_at hl 3 rfl) ?_
        have o1 : 0 ≤ x0.toInt := by omega
        have o2 : x0.toInt ≤ 11 := by omega
        refine zy_i (va_runV (As := [.int x0, .int x1, .int x2]) (rest := []) ⟨hx, hb, hml, hown, hts⟩ (n_mayChangeV l dC dI h ad cl H.size σ x0 x1 x2 hI ⟨o1, o2⟩) (cwV 3 hts gd_n_changeV_334_n_mayChangeV rfl rfl rfl dd_n_mayChangeV ⟨Nat.le_of_ble_eq_true rfl, Nat.le_of_ble_eq_true rfl⟩) (preV hP hK hD hE (ci := 12) (q0 := 0) rfl rfl) rfl rfl hl.1 rfl (lv_room (Nat.le_of_ble_eq_true rfl)) dX12_change_35 ⟨Nat.le_of_ble_eq_true rfl, Nat.le_of_ble_eq_true rfl⟩) hD hS hA (fun z12_ τ11_ H locs hq hP hD hS => ?_)
        obtain ⟨rfl, f13_⟩ := hq
        refine W.widen (k := 0) (n := 0) (Nat.le_of_ble_eq_true rfl) (Nat.le_of_ble_eq_true rfl) ?_
        refine lv_if_ne (tgt := 43) hx hb dX12_change_38 rfl (fun c14_ => ?_) (fun c14_ => ?_)
        · have tc14_ := (show z12_.toInt ≠ 0 from ti_ne rfl rg_11 c14_)
          refine lv_aload_n hx hb dX12_change_43 rfl (lv_at hl 0 rfl) ?_
          refine va_get (D := (dC, dI)) (ci := 12) (v := .ref (ad 33)) (C := RX12) (T := TX12) (N := 59) hx hb hts hin12 hown hK hP 0 rfl rfl 33 (Nat.le_of_ble_eq_true rfl) (ho (.fieldLink RX12 82 "NearEnoughModel" "cStep" "[I") (List.mem_of_getElem? (i := 1) rfl)) (fun _ h9 => h9) rfl dX12_change_44 ?_
          refine lv_aload_n hx hb dX12_change_47 rfl (lv_at hl 0 rfl) ?_
          refine va_get (D := (dC, dI)) (ci := 12) (v := .int (σ.1 40)) (C := RX12) (T := TX12) (N := 59) hx hb hts hin12 hown hK hP 0 rfl rfl 40 (Nat.le_of_ble_eq_true rfl) (ho (.fieldLink RX12 252 "NearEnoughModel" "changes" "I") (List.mem_of_getElem? (i := 0) rfl)) (fun _ h9 => h9) rfl dX12_change_48 ?_
          have bσ_40 : 0 ≤ (σ.1 40).toInt ∧ (σ.1 40).toInt ≤ 12 := hI.1 40
          refine lv_iload_n hx hb dX12_change_51 rfl (lv_at hl 1 rfl) ?_
          have o3 : 0 ≤ (σ.1 40).toInt := by omega
          have o4 : (σ.1 40).toInt < ((12 : Nat) : Int) := by omega
          refine va_iast hx hb hK hP hD hS 23 22 rfl rfl (ti_inx o3 o4) dX12_change_52 (fun H locs hP hD hS => ?_)
          rw [wS33] at hP hD
          obtain ⟨τ15_, eτ15_⟩ : ∃ x9 : MS, x9 = sA σ 33 (upd (σ.2.1 33) (Int32.toNatClampNeg (σ.1 40)) x0) := ⟨_, rfl⟩
          have hP : va_P (dC, dI) vwCl (mW h ad cl τ15_) H := by rw [eτ15_]; exact hP
          have hD : va_D A (mW h ad cl τ15_) := by rw [eτ15_]; exact hD
          have o5 : (0 : Int) ≤ (x0 : Int32).toInt := by omega
          have o6 : (x0 : Int32).toInt ≤ 11 := by omega
          have hIτ15_ : Inv τ15_ := by rw [eτ15_]; exact (Inv_sA1 hI (rgu (hI.2 33) (show (0 : Int) ≤ (x0 : Int32).toInt ∧ (x0 : Int32).toInt ≤ 11 from ⟨o5, o6⟩)))
          have Xτ15_ : eqx [33, 34, 35, 36, 40] τ15_ σ := (eqx.eq eτ15_ (eqx.sA eqx.rf rg_82))
          have qq16_ : (τ15_.1 29).toInt = ((σ.1 29) : Int32).toInt := congrArg Int32.toInt ((show τ15_.1 29 = (σ.1 29) from (congrArg (fun x9 : MS => x9.1 29) eτ15_).trans rfl))
          have qq17_ : (τ15_.1 40).toInt = ((σ.1 40) : Int32).toInt := congrArg Int32.toInt ((show τ15_.1 40 = (σ.1 40) from (congrArg (fun x9 : MS => x9.1 40) eτ15_).trans rfl))
          refine lv_aload_n hx hb dX12_change_53 rfl (lv_at hl 0 rfl) ?_
          refine va_get (D := (dC, dI)) (ci := 12) (v := .ref (ad 34)) (C := RX12) (T := TX12) (N := 59) hx hb hts hin12 hown hK hP 0 rfl rfl 34 (Nat.le_of_ble_eq_true rfl) (ho (.fieldLink RX12 85 "NearEnoughModel" "cKind" "[I") (List.mem_of_getElem? (i := 2) rfl)) (fun _ h9 => h9) rfl dX12_change_54 ?_
          refine lv_aload_n hx hb dX12_change_57 rfl (lv_at hl 0 rfl) ?_
          refine va_get (D := (dC, dI)) (ci := 12) (v := .int (τ15_.1 40)) (C := RX12) (T := TX12) (N := 59) hx hb hts hin12 hown hK hP 0 rfl rfl 40 (Nat.le_of_ble_eq_true rfl) (ho (.fieldLink RX12 252 "NearEnoughModel" "changes" "I") (List.mem_of_getElem? (i := 0) rfl)) (fun _ h9 => h9) rfl dX12_change_58 ?_
          refine zi (v := (σ.1 40)) (show τ15_.1 40 = (σ.1 40) from (congrArg (fun x9 : MS => x9.1 40) eτ15_).trans rfl) ?_
          have bb18_ : 0 ≤ (σ.1 40).toInt ∧ (σ.1 40).toInt ≤ 12 := by have h9 := hIτ15_.1 40; rw [show (τ15_.1 40) = (σ.1 40) from (show τ15_.1 40 = (σ.1 40) from (congrArg (fun x9 : MS => x9.1 40) eτ15_).trans rfl)] at h9; exact h9
          refine lv_iload_n hx hb dX12_change_61 rfl (lv_at hl 2 rfl) ?_
          refine va_iast hx hb hK hP hD hS 24 23 rfl rfl (ti_inx o3 o4) dX12_change_62 (fun H locs hP hD hS => ?_)
          rw [wS34] at hP hD
          obtain ⟨τ19_, eτ19_⟩ : ∃ x9 : MS, x9 = sA τ15_ 34 (upd (τ15_.2.1 34) (Int32.toNatClampNeg (σ.1 40)) x1) := ⟨_, rfl⟩
          have hP : va_P (dC, dI) vwCl (mW h ad cl τ19_) H := by rw [eτ19_]; exact hP
          have hD : va_D A (mW h ad cl τ19_) := by rw [eτ19_]; exact hD
          have o7 : (0 : Int) ≤ (x1 : Int32).toInt := by omega
          have o8 : (x1 : Int32).toInt ≤ 6 := by omega
          have hIτ19_ : Inv τ19_ := by rw [eτ19_]; exact (Inv_sA1 hIτ15_ (rgu (hIτ15_.2 34) (show (0 : Int) ≤ (x1 : Int32).toInt ∧ (x1 : Int32).toInt ≤ 6 from ⟨o7, o8⟩)))
          have Xτ19_ : eqx [33, 34, 35, 36, 40] τ19_ σ := (eqx.eq eτ19_ (eqx.sA Xτ15_ rg_83))
          have qq20_ : (τ19_.1 29).toInt = ((σ.1 29) : Int32).toInt := congrArg Int32.toInt ((show τ19_.1 29 = (σ.1 29) from (congrArg (fun x9 : MS => x9.1 29) eτ19_).trans (show τ15_.1 29 = (σ.1 29) from (congrArg (fun x9 : MS => x9.1 29) eτ15_).trans rfl)))
          have qq21_ : (τ19_.1 40).toInt = ((σ.1 40) : Int32).toInt := congrArg Int32.toInt ((show τ19_.1 40 = (σ.1 40) from (congrArg (fun x9 : MS => x9.1 40) eτ19_).trans (show τ15_.1 40 = (σ.1 40) from (congrArg (fun x9 : MS => x9.1 40) eτ15_).trans rfl)))
          refine lv_aload_n hx hb dX12_change_63 rfl (lv_at hl 0 rfl) ?_
          refine va_get (D := (dC, dI)) (ci := 12) (v := .ref (ad 35)) (C := RX12) (T := TX12) (N := 59) hx hb hts hin12 hown hK hP 0 rfl rfl 35 (Nat.le_of_ble_eq_true rfl) (ho (.fieldLink RX12 88 "NearEnoughModel" "cN" "[I") (List.mem_of_getElem? (i := 3) rfl)) (fun _ h9 => h9) rfl dX12_change_64 ?_
          refine lv_aload_n hx hb dX12_change_67 rfl (lv_at hl 0 rfl) ?_
          refine va_get (D := (dC, dI)) (ci := 12) (v := .int (τ19_.1 40)) (C := RX12) (T := TX12) (N := 59) hx hb hts hin12 hown hK hP 0 rfl rfl 40 (Nat.le_of_ble_eq_true rfl) (ho (.fieldLink RX12 252 "NearEnoughModel" "changes" "I") (List.mem_of_getElem? (i := 0) rfl)) (fun _ h9 => h9) rfl dX12_change_68 ?_
          refine zi (v := (σ.1 40)) (show τ19_.1 40 = (σ.1 40) from (congrArg (fun x9 : MS => x9.1 40) eτ19_).trans (show τ15_.1 40 = (σ.1 40) from (congrArg (fun x9 : MS => x9.1 40) eτ15_).trans rfl)) ?_
          have bb22_ : 0 ≤ (σ.1 40).toInt ∧ (σ.1 40).toInt ≤ 12 := by have h9 := hIτ19_.1 40; rw [show (τ19_.1 40) = (σ.1 40) from (show τ19_.1 40 = (σ.1 40) from (congrArg (fun x9 : MS => x9.1 40) eτ19_).trans (show τ15_.1 40 = (σ.1 40) from (congrArg (fun x9 : MS => x9.1 40) eτ15_).trans rfl))] at h9; exact h9
          refine lv_iload_n hx hb dX12_change_71 rfl (lv_at hl 3 rfl) ?_
          refine va_iast hx hb hK hP hD hS 25 24 rfl rfl (ti_inx o3 o4) dX12_change_72 (fun H locs hP hD hS => ?_)
          rw [wS35] at hP hD
          obtain ⟨τ23_, eτ23_⟩ : ∃ x9 : MS, x9 = sA τ19_ 35 (upd (τ19_.2.1 35) (Int32.toNatClampNeg (σ.1 40)) x2) := ⟨_, rfl⟩
          have hP : va_P (dC, dI) vwCl (mW h ad cl τ23_) H := by rw [eτ23_]; exact hP
          have hD : va_D A (mW h ad cl τ23_) := by rw [eτ23_]; exact hD
          have o9 : (0 : Int) ≤ (x2 : Int32).toInt := by omega
          have o10 : (x2 : Int32).toInt ≤ 99 := by omega
          have hIτ23_ : Inv τ23_ := by rw [eτ23_]; exact (Inv_sA1 hIτ19_ (rgu (hIτ19_.2 35) (show (0 : Int) ≤ (x2 : Int32).toInt ∧ (x2 : Int32).toInt ≤ 99 from ⟨o9, o10⟩)))
          have Xτ23_ : eqx [33, 34, 35, 36, 40] τ23_ σ := (eqx.eq eτ23_ (eqx.sA Xτ19_ rg_84))
          have qq24_ : (τ23_.1 29).toInt = ((σ.1 29) : Int32).toInt := congrArg Int32.toInt ((show τ23_.1 29 = (σ.1 29) from (congrArg (fun x9 : MS => x9.1 29) eτ23_).trans (show τ19_.1 29 = (σ.1 29) from (congrArg (fun x9 : MS => x9.1 29) eτ19_).trans (show τ15_.1 29 = (σ.1 29) from (congrArg (fun x9 : MS => x9.1 29) eτ15_).trans rfl))))
          have qq25_ : (τ23_.1 40).toInt = ((σ.1 40) : Int32).toInt := congrArg Int32.toInt ((show τ23_.1 40 = (σ.1 40) from (congrArg (fun x9 : MS => x9.1 40) eτ23_).trans (show τ19_.1 40 = (σ.1 40) from (congrArg (fun x9 : MS => x9.1 40) eτ19_).trans (show τ15_.1 40 = (σ.1 40) from (congrArg (fun x9 : MS => x9.1 40) eτ15_).trans rfl))))
          refine lv_aload_n hx hb dX12_change_73 rfl (lv_at hl 0 rfl) ?_
          refine va_get (D := (dC, dI)) (ci := 12) (v := .ref (ad 36)) (C := RX12) (T := TX12) (N := 59) hx hb hts hin12 hown hK hP 0 rfl rfl 36 (Nat.le_of_ble_eq_true rfl) (ho (.fieldLink RX12 91 "NearEnoughModel" "cSaves" "[I") (List.mem_of_getElem? (i := 4) rfl)) (fun _ h9 => h9) rfl dX12_change_74 ?_
          refine lv_aload_n hx hb dX12_change_77 rfl (lv_at hl 0 rfl) ?_
          refine va_get (D := (dC, dI)) (ci := 12) (v := .int (τ23_.1 40)) (C := RX12) (T := TX12) (N := 59) hx hb hts hin12 hown hK hP 0 rfl rfl 40 (Nat.le_of_ble_eq_true rfl) (ho (.fieldLink RX12 252 "NearEnoughModel" "changes" "I") (List.mem_of_getElem? (i := 0) rfl)) (fun _ h9 => h9) rfl dX12_change_78 ?_
          refine zi (v := (σ.1 40)) (show τ23_.1 40 = (σ.1 40) from (congrArg (fun x9 : MS => x9.1 40) eτ23_).trans (show τ19_.1 40 = (σ.1 40) from (congrArg (fun x9 : MS => x9.1 40) eτ19_).trans (show τ15_.1 40 = (σ.1 40) from (congrArg (fun x9 : MS => x9.1 40) eτ15_).trans rfl))) ?_
          have bb26_ : 0 ≤ (σ.1 40).toInt ∧ (σ.1 40).toInt ≤ 12 := by have h9 := hIτ23_.1 40; rw [show (τ23_.1 40) = (σ.1 40) from (show τ23_.1 40 = (σ.1 40) from (congrArg (fun x9 : MS => x9.1 40) eτ23_).trans (show τ19_.1 40 = (σ.1 40) from (congrArg (fun x9 : MS => x9.1 40) eτ19_).trans (show τ15_.1 40 = (σ.1 40) from (congrArg (fun x9 : MS => x9.1 40) eτ15_).trans rfl)))] at h9; exact h9
          refine lv_iload hx hb dX12_change_81 (lv_at hl 4 rfl) ?_
          refine va_iast hx hb hK hP hD hS 26 25 rfl rfl (ti_inx o3 o4) dX12_change_83 (fun H locs hP hD hS => ?_)
          rw [wS36] at hP hD
          obtain ⟨τ27_, eτ27_⟩ : ∃ x9 : MS, x9 = sA τ23_ 36 (upd (τ23_.2.1 36) (Int32.toNatClampNeg (σ.1 40)) x3) := ⟨_, rfl⟩
          have hP : va_P (dC, dI) vwCl (mW h ad cl τ27_) H := by rw [eτ27_]; exact hP
          have hD : va_D A (mW h ad cl τ27_) := by rw [eτ27_]; exact hD
          have hIτ27_ : Inv τ27_ := by rw [eτ27_]; exact (Inv_sA1 hIτ23_ (fun j _ => Inv.any _))
          have Xτ27_ : eqx [33, 34, 35, 36, 40] τ27_ σ := (eqx.eq eτ27_ (eqx.sA Xτ23_ rg_85))
          have qq28_ : (τ27_.1 29).toInt = ((σ.1 29) : Int32).toInt := congrArg Int32.toInt ((show τ27_.1 29 = (σ.1 29) from (congrArg (fun x9 : MS => x9.1 29) eτ27_).trans (show τ23_.1 29 = (σ.1 29) from (congrArg (fun x9 : MS => x9.1 29) eτ23_).trans (show τ19_.1 29 = (σ.1 29) from (congrArg (fun x9 : MS => x9.1 29) eτ19_).trans (show τ15_.1 29 = (σ.1 29) from (congrArg (fun x9 : MS => x9.1 29) eτ15_).trans rfl)))))
          have qq29_ : (τ27_.1 40).toInt = ((σ.1 40) : Int32).toInt := congrArg Int32.toInt ((show τ27_.1 40 = (σ.1 40) from (congrArg (fun x9 : MS => x9.1 40) eτ27_).trans (show τ23_.1 40 = (σ.1 40) from (congrArg (fun x9 : MS => x9.1 40) eτ23_).trans (show τ19_.1 40 = (σ.1 40) from (congrArg (fun x9 : MS => x9.1 40) eτ19_).trans (show τ15_.1 40 = (σ.1 40) from (congrArg (fun x9 : MS => x9.1 40) eτ15_).trans rfl)))))
          refine lv_aload_n hx hb dX12_change_84 rfl (lv_at hl 0 rfl) ?_
          refine lv_dup hx hb dX12_change_85 rfl ?_
          refine va_get (D := (dC, dI)) (ci := 12) (v := .int (τ27_.1 40)) (C := RX12) (T := TX12) (N := 59) hx hb hts hin12 hown hK hP 0 rfl rfl 40 (Nat.le_of_ble_eq_true rfl) (ho (.fieldLink RX12 252 "NearEnoughModel" "changes" "I") (List.mem_of_getElem? (i := 0) rfl)) (fun _ h9 => h9) rfl dX12_change_86 ?_
          refine zi (v := (σ.1 40)) (show τ27_.1 40 = (σ.1 40) from (congrArg (fun x9 : MS => x9.1 40) eτ27_).trans (show τ23_.1 40 = (σ.1 40) from (congrArg (fun x9 : MS => x9.1 40) eτ23_).trans (show τ19_.1 40 = (σ.1 40) from (congrArg (fun x9 : MS => x9.1 40) eτ19_).trans (show τ15_.1 40 = (σ.1 40) from (congrArg (fun x9 : MS => x9.1 40) eτ15_).trans rfl)))) ?_
          have bb30_ : 0 ≤ (σ.1 40).toInt ∧ (σ.1 40).toInt ≤ 12 := by have h9 := hIτ27_.1 40; rw [show (τ27_.1 40) = (σ.1 40) from (show τ27_.1 40 = (σ.1 40) from (congrArg (fun x9 : MS => x9.1 40) eτ27_).trans (show τ23_.1 40 = (σ.1 40) from (congrArg (fun x9 : MS => x9.1 40) eτ23_).trans (show τ19_.1 40 = (σ.1 40) from (congrArg (fun x9 : MS => x9.1 40) eτ19_).trans (show τ15_.1 40 = (σ.1 40) from (congrArg (fun x9 : MS => x9.1 40) eτ15_).trans rfl))))] at h9; exact h9
          refine lv_iconst (v := 1) hx hb dX12_change_89 rg_6 ?_
          refine lv_iadd hx hb dX12_change_90 ?_
          refine lv_topi (fun z31_ ez31_ => ?_)
          have o11 : -2147483648 ≤ (σ.1 40).toInt + 1 := by omega
          have o12 : (σ.1 40).toInt + 1 ≤ 2147483647 := by omega
          have tz31_ : z31_.toInt = (σ.1 40).toInt + 1 := ti_add ez31_ rfl rg_18 o11 o12
          refine va_put (D := (dC, dI)) (ci := 12) (v := .int z31_) (ty := tyX12 40) (C := RX12) (T := TX12) (N := 59) hx hb hts hin12 tyX12 tyX12_ok nmX12 hown hK hP hD hS 0 rfl rfl 40 (Nat.le_of_ble_eq_true rfl) (ho (.fieldLink RX12 252 "NearEnoughModel" "changes" "I") (List.mem_of_getElem? (i := 0) rfl)) (fun _ h9 => h9) rfl (tyX12_ok 40 (Nat.le_of_ble_eq_true rfl)) rfl rfl (Nat.le_of_ble_eq_true rfl) dX12_change_91 (fun H locs hP hD hS => ?_)
          have hP : va_P (dC, dI) vwCl (mW h ad cl (sI τ27_ 40 z31_)) H := hP
          have hD : va_D A (mW h ad cl (sI τ27_ 40 z31_)) := hD
          refine lv_aload_n hx hb dX12_change_94 rfl (lv_at hl 0 rfl) ?_
          refine va_get (D := (dC, dI)) (ci := 12) (v := .int z31_) (C := RX12) (T := TX12) (N := 59) hx hb hts hin12 hown hK hP 0 rfl rfl 40 (Nat.le_of_ble_eq_true rfl) (ho (.fieldLink RX12 252 "NearEnoughModel" "changes" "I") (List.mem_of_getElem? (i := 0) rfl)) (fun _ h9 => h9) rfl dX12_change_95 ?_
          refine lv_iconst (v := 1) hx hb dX12_change_98 rg_6 ?_
          refine lv_isub hx hb dX12_change_99 ?_
          refine lv_topi (fun z32_ ez32_ => ?_)
          have o13 : -2147483648 ≤ z31_.toInt - 1 := by omega
          have o14 : z31_.toInt - 1 ≤ 2147483647 := by omega
          have tz32_ : z32_.toInt = z31_.toInt - 1 := ti_sub ez32_ rfl rg_18 o13 o14
          rw [hQ]
          have C33 : ((sI τ27_ 40 z31_)).2.1 33 = (upd (σ.2.1 33) (Int32.toNatClampNeg (σ.1 40)) x0) := (tI.trans ((congrArg (fun x9 : MS => x9.2.1 33) eτ27_).trans ((tA rg_525).trans ((congrArg (fun x9 : MS => x9.2.1 33) eτ23_).trans ((tA rg_524).trans ((congrArg (fun x9 : MS => x9.2.1 33) eτ19_).trans ((tA rg_523).trans ((congrArg (fun x9 : MS => x9.2.1 33) eτ15_).trans (tAe.trans (congrArg (fun f9 => (upd f9 (Int32.toNatClampNeg (σ.1 40)) x0)) rfl))))))))))
          have C34 : ((sI τ27_ 40 z31_)).2.1 34 = (upd (σ.2.1 34) (Int32.toNatClampNeg (σ.1 40)) x1) := (tI.trans ((congrArg (fun x9 : MS => x9.2.1 34) eτ27_).trans ((tA rg_528).trans ((congrArg (fun x9 : MS => x9.2.1 34) eτ23_).trans ((tA rg_527).trans ((congrArg (fun x9 : MS => x9.2.1 34) eτ19_).trans (tAe.trans (congrArg (fun f9 => (upd f9 (Int32.toNatClampNeg (σ.1 40)) x1)) ((congrArg (fun x9 : MS => x9.2.1 34) eτ15_).trans ((tA rg_526).trans rfl))))))))))
          have C35 : ((sI τ27_ 40 z31_)).2.1 35 = (upd (σ.2.1 35) (Int32.toNatClampNeg (σ.1 40)) x2) := (tI.trans ((congrArg (fun x9 : MS => x9.2.1 35) eτ27_).trans ((tA rg_531).trans ((congrArg (fun x9 : MS => x9.2.1 35) eτ23_).trans (tAe.trans (congrArg (fun f9 => (upd f9 (Int32.toNatClampNeg (σ.1 40)) x2)) ((congrArg (fun x9 : MS => x9.2.1 35) eτ19_).trans ((tA rg_530).trans ((congrArg (fun x9 : MS => x9.2.1 35) eτ15_).trans ((tA rg_529).trans rfl))))))))))
          have C12 : ((sI τ27_ 40 z31_)).2.1 12 = (σ.2.1 12) := (tI.trans ((congrArg (fun x9 : MS => x9.2.1 12) eτ27_).trans ((tA rg_535).trans ((congrArg (fun x9 : MS => x9.2.1 12) eτ23_).trans ((tA rg_534).trans ((congrArg (fun x9 : MS => x9.2.1 12) eτ19_).trans ((tA rg_533).trans ((congrArg (fun x9 : MS => x9.2.1 12) eτ15_).trans ((tA rg_532).trans rfl)))))))))
          have C17 : ((sI τ27_ 40 z31_)).2.1 17 = (σ.2.1 17) := (tI.trans ((congrArg (fun x9 : MS => x9.2.1 17) eτ27_).trans ((tA rg_539).trans ((congrArg (fun x9 : MS => x9.2.1 17) eτ23_).trans ((tA rg_538).trans ((congrArg (fun x9 : MS => x9.2.1 17) eτ19_).trans ((tA rg_537).trans ((congrArg (fun x9 : MS => x9.2.1 17) eτ15_).trans ((tA rg_536).trans rfl)))))))))
          have o15 : ¬ z12_.toInt = 0 := by omega
          have N33_ : FitK (σ.2.1 17 (12 * (σ.1 29).toNatClampNeg + x0.toNatClampNeg)).toInt x1.toInt x2.toInt := by rcases f13_ with q | q; exact absurd q o15; exact q.2.2.2.2.2
          have o16 : z31_.toInt = (σ.1 40).toInt + 1 := by omega
          have o17 : x0.toInt < (σ.2.1 12 (σ.1 29).toNatClampNeg).toInt := by omega
          have o18 : (0 : Int) ≤ z31_.toInt := by omega
          have o19 : z31_.toInt ≤ 12 := by omega
          exact W.iret (v := z32_) hx hb hr (fun t ht hW => ⟨⟨z32_, (sI τ27_ 40 z31_), rfl, ⟨(Inv.sI (k := 40) (v := z31_) hIτ27_ (show (0 : Int) ≤ z31_.toInt ∧ z31_.toInt ≤ 12 from ⟨o18, o19⟩)), (eqx.sI Xτ27_ rg_86), (fun h9 => ChR.add h9 C33 C34 C35 (show z31_.toInt = (σ.1 40).toInt + 1 from o16) (show τ27_.1 29 = (σ.1 29) from (congrArg (fun x9 : MS => x9.1 29) eτ27_).trans (show τ23_.1 29 = (σ.1 29) from (congrArg (fun x9 : MS => x9.1 29) eτ23_).trans (show τ19_.1 29 = (σ.1 29) from (congrArg (fun x9 : MS => x9.1 29) eτ19_).trans (show τ15_.1 29 = (σ.1 29) from (congrArg (fun x9 : MS => x9.1 29) eτ15_).trans rfl)))) C12 C17 o3 ⟨o1, o17, N33_⟩)⟩, wEn_of hP (hK.sub [] rfl) hD ht hW⟩, hS.F ht⟩) hS.2.2 dX12_change_100
        · have tc14_ := (show z12_.toInt = 0 from ti_eq rfl rg_11 c14_)
          refine lv_iconst (v := (-1)) hx hb dX12_change_41 rg_53 ?_
          rw [hQ]
          exact W.iret (v := (-1)) hx hb hr (fun t ht hW => ⟨⟨(-1), σ, rfl, ⟨hI, eqx.rf, (fun h9 => h9)⟩, wEn_of hP (hK.sub [] rfl) hD ht hW⟩, hS.F ht⟩) hS.2.2 dX12_change_42
      · have tc10_ := (show z8_.toInt = 0 from ti_eq rfl rg_11 c10_)
        refine lv_iconst (v := (-1)) hx hb dX12_change_29 rg_53 ?_
        rw [hQ]
        exact W.iret (v := (-1)) hx hb hr (fun t ht hW => ⟨⟨(-1), σ, rfl, ⟨hI, eqx.rf, (fun h9 => h9)⟩, wEn_of hP (hK.sub [] rfl) hD ht hW⟩, hS.F ht⟩) hS.2.2 dX12_change_30
def ow_n_isChoiceV : List Cond := [.fieldLink RX12 252 "NearEnoughModel" "changes" "I", .fieldLink RX12 94 "NearEnoughModel" "on" "[I", .fieldLink RX12 82 "NearEnoughModel" "cStep" "[I"]
def vs_n_isChoiceV : List Cond := .code yX12_isChoice cX12_isChoice 3 (some .boolean) :: (ow_n_isChoiceV ++ (wsX120))
theorem vg_n_isChoiceV : vs_n_isChoiceV.all goodWord = true := by decide +kernel
theorem dd_n_isChoiceV : yX12_isChoice.cls = RX12 ∧ yX12_isChoice.cls ≠ "java/lang/invoke/MethodHandle" ∧ yX12_isChoice.cls ≠ "java/lang/invoke/VarHandle" ∧ (parseMethodDescriptor yX12_isChoice.desc).map (fun d => d.parameters.length) = some 1 := by decide +kernel
def rm_n_isChoiceV : Room := { frames := 0, cells := 0, slots := 0, locals := 0 }
set_option maxHeartbeats 4000000 in
set_option maxRecDepth 100000 in
theorem n_isChoiceV (l : Launch) (dC : Nat → ClassId) (dI : Nat → Nat → Nat) (h : Nat) (ad : Nat → Nat) (cl : Nat → ClassId) (sz : Nat) (σ : MS) (x : Int32) (hI : Inv σ) : Met l yX12_isChoice vs_n_isChoiceV rm_n_isChoiceV (va_Pc [.ref h, .int x] (wSt dC dI (mW h ad cl σ) (mT cl) sz)) (va_Qi (fun (r : Int32) (τ : MS) => Inv τ ∧ eqx [37] τ σ ∧ ((r.toInt = 1 ∧ OnR σ x (τ.2.1 37)) ∨ (r.toInt = 0 ∧ ¬ ∃ on, OnR σ x on))) (fun (τ : MS) => wEn dC dI (va_A (mW h ad cl σ) sz) (mW h ad cl τ) []) (va_A (mW h ad cl σ) sz)) 0 0 (va_A (mW h ad cl σ) sz) := by
  refine Met.ofW (cc := cX12_isChoice) (maxL := 3) (ret := (some .boolean)) (by decide) rfl ?_
  intro p e s m args below meth c s₁ B hml hv
  obtain ⟨rfl, hsz, hP, hK, hD0, hE⟩ := hv
  have hx := B.exec
  have hb := B.bytes
  have hr := B.returns
  have hts := atoms_spec (ws := vs_n_isChoiceV) B.pre
  have hown : s.vm.findClass RX12 = some m.cls := findClass_of_methodNamed B.named
  have hlocks := B.notSynchronized
  subst hsz
  have hD := hD0.self (sz := s.heap.size)
  generalize hAe : va_A (mW h ad cl σ) s.heap.size = A at hD ⊢
  have hA : ∀ q : Nat, s.heap.size ≤ q → A q := fun q h => by rw [← hAe]; exact Or.inr h
  have hl := lv_entry ([.ref h, .int x]) (n := 3) (Nat.le_of_ble_eq_true rfl)
  rw [lg_entry_eq]
  generalize (lg_sl ([.ref h, .int x]) ++ List.replicate (3 - (lg_sl ([.ref h, .int x])).length) Slot.unset).toArray = ls at hl ⊢
  have hl : lv_has ls 3 [(0, .ref h), (1, .int x)] := hl
  have ho := fun w (h : w ∈ ow_n_isChoiceV) => hts w (List.mem_cons_of_mem _ (List.mem_append_left _ h))
  have hin12 : ∀ w ∈ u_ws RX12 TX12 59, w ∈ vs_n_isChoiceV := fun w h => (List.mem_cons_of_mem _ (List.mem_append_right _ h))
  refine zQ (fun Q hQ => ?_)
  have pt_39 : ∀ (n39 : Nat) (τ : MS) (kv : Int32) (H : Heap) (locs : List Loc) (ls : Array Slot), (12 - kv.toInt).toNat < n39 → (Inv τ) → (eqx [37] τ σ) → (0 ≤ kv.toInt) → (VC (σ.1 40) x) → (OnP (σ.2.1 33) x kv.toNatClampNeg (τ.2.1 37)) → (kv.toInt ≤ (σ.1 40).toInt) → va_P (dC, dI) vwCl (mW h ad cl τ) H → va_D A (mW h ad cl τ) → va_S A s.heap H locs → lv_has ls 3 [(0, .ref h), (1, .int x), (2, .int kv)] → W p l e (headSpec vs_n_isChoiceV rm_n_isChoiceV).room s m #[Value.ref h, Value.int x] below meth c H locs 0 0 Q (F0 m 39 ls []) := by
    intro n39
    induction n39 with
    | zero => intro τ kv H locs ls hn39 hIτ hxτ hk0 hvc hon hkn hP hD hS hl; exact absurd hn39 (Nat.not_lt_zero _)
    | succ n39 ih39 =>
      intro τ kv H locs ls hn39 hIτ hxτ hk0 hvc hon hkn hP hD hS hl
      have bτ_40 : 0 ≤ (τ.1 40).toInt ∧ (τ.1 40).toInt ≤ 12 := hIτ.1 40
      have qq1_ : (τ.1 40).toInt = ((σ.1 40) : Int32).toInt := congrArg Int32.toInt (((hxτ 40 rg_87).1))
      refine lv_iload_n hx hb dX12_isChoice_39 rfl (lv_at hl 2 rfl) ?_
      refine lv_aload_n hx hb dX12_isChoice_40 rfl (lv_at hl 0 rfl) ?_
      refine va_get (D := (dC, dI)) (ci := 12) (v := .int (τ.1 40)) (C := RX12) (T := TX12) (N := 59) hx hb hts hin12 hown hK hP 0 rfl rfl 40 (Nat.le_of_ble_eq_true rfl) (ho (.fieldLink RX12 252 "NearEnoughModel" "changes" "I") (List.mem_of_getElem? (i := 0) rfl)) (fun _ h9 => h9) rfl dX12_isChoice_41 ?_
      refine zi (v := (σ.1 40)) ((hxτ 40 rg_87).1) ?_
      have bb2_ : 0 ≤ (σ.1 40).toInt ∧ (σ.1 40).toInt ≤ 12 := by have h9 := hIτ.1 40; rw [show (τ.1 40) = (σ.1 40) from ((hxτ 40 rg_87).1)] at h9; exact h9
      refine lv_icmp_ge (tgt := 92) hx hb dX12_isChoice_44 rfl (fun c3_ => ?_) (fun c3_ => ?_)
      · have tc3_ := (show (σ.1 40).toInt ≤ kv.toInt from ti_le rfl rfl c3_)
        refine lv_iconst (v := 1) hx hb dX12_isChoice_92 rg_6 ?_
        rw [hQ]
        have o1 : (σ.1 40).toInt = kv.toInt := by omega
        have N4_ : (σ.1 40).toNatClampNeg = kv.toNatClampNeg := cl_eq o1
        exact W.zret (v := 1) hx hb hr rfl (fun t ht hW => ⟨⟨1, τ, rfl, ⟨hIτ, hxτ, Or.inl ⟨rg_18, hvc, (by rw [N4_]; exact hon)⟩⟩, wEn_of hP (hK.sub [] rfl) hD ht hW⟩, hS.F ht⟩) hS.2.2 dX12_isChoice_93
      · have tc3_ := (show kv.toInt < (σ.1 40).toInt from ti_nle rfl rfl c3_)
        refine lv_iload_n hx hb dX12_isChoice_47 rfl (lv_at hl 1 rfl) ?_
        refine lv_iload_n hx hb dX12_isChoice_48 rfl (lv_at hl 2 rfl) ?_
        refine lv_ishr hx hb dX12_isChoice_49 ?_
        refine lv_topi (fun z5_ ez5_ => ?_)
        refine lv_iconst (v := 1) hx hb dX12_isChoice_50 rg_6 ?_
        refine lv_iand hx hb dX12_isChoice_51 ?_
        refine lv_topi (fun z6_ ez6_ => ?_)
        refine lv_if_ne (tgt := 58) hx hb dX12_isChoice_52 rfl (fun c7_ => ?_) (fun c7_ => ?_)
        · have tc7_ := (show z6_.toInt ≠ 0 from ti_ne rfl rg_11 c7_)
          refine lv_aload_n hx hb dX12_isChoice_58 rfl (lv_at hl 0 rfl) ?_
          refine va_get (D := (dC, dI)) (ci := 12) (v := .ref (ad 37)) (C := RX12) (T := TX12) (N := 59) hx hb hts hin12 hown hK hP 0 rfl rfl 37 (Nat.le_of_ble_eq_true rfl) (ho (.fieldLink RX12 94 "NearEnoughModel" "on" "[I") (List.mem_of_getElem? (i := 1) rfl)) (fun _ h9 => h9) rfl dX12_isChoice_59 ?_
          refine lv_aload_n hx hb dX12_isChoice_62 rfl (lv_at hl 0 rfl) ?_
          refine va_get (D := (dC, dI)) (ci := 12) (v := .ref (ad 33)) (C := RX12) (T := TX12) (N := 59) hx hb hts hin12 hown hK hP 0 rfl rfl 33 (Nat.le_of_ble_eq_true rfl) (ho (.fieldLink RX12 82 "NearEnoughModel" "cStep" "[I") (List.mem_of_getElem? (i := 2) rfl)) (fun _ h9 => h9) rfl dX12_isChoice_63 ?_
          refine lv_iload_n hx hb dX12_isChoice_66 rfl (lv_at hl 2 rfl) ?_
          have o2 : 0 ≤ kv.toInt := by omega
          have o3 : kv.toInt < ((12 : Nat) : Int) := by omega
          refine va_iald hx hb hK hP 23 22 rfl rfl (ti_inx o2 o3) dX12_isChoice_67 ?_
          refine lv_topi (fun z8_ ez8_ => ?_)
          have gz8_ : z8_.toInt = ((τ.2.1 33) (Int32.toNatClampNeg kv)).toInt := congrArg Int32.toInt (ez8_.trans (congrFun rfl (Int32.toNatClampNeg kv)))
          have bz8_ : 0 ≤ z8_.toInt ∧ z8_.toInt ≤ 11 := by rw [ez8_]; exact (hIτ.2 33) _ (cl_lt (n := 12) o2 o3)
          have o4 : 0 ≤ z8_.toInt := by omega
          have o5 : z8_.toInt < ((12 : Nat) : Int) := by omega
          refine va_iald hx hb hK hP 27 26 rfl rfl (ti_inx o4 o5) dX12_isChoice_68 ?_
          refine lv_topi (fun z9_ ez9_ => ?_)
          have gz9_ : z9_.toInt = ((τ.2.1 37) (Int32.toNatClampNeg z8_)).toInt := congrArg Int32.toInt (ez9_.trans (congrFun rfl (Int32.toNatClampNeg z8_)))
          have bz9_ : (-1) ≤ z9_.toInt ∧ z9_.toInt ≤ 11 := by rw [ez9_]; exact (hIτ.2 37) _ (cl_lt (n := 12) o4 o5)
          refine lv_if_lt (tgt := 74) hx hb dX12_isChoice_69 rfl (fun c10_ => ?_) (fun c10_ => ?_)
          · have tc10_ := (show z9_.toInt < 0 from ti_lt rfl rg_11 c10_)
            refine lv_aload_n hx hb dX12_isChoice_74 rfl (lv_at hl 0 rfl) ?_
            refine va_get (D := (dC, dI)) (ci := 12) (v := .ref (ad 37)) (C := RX12) (T := TX12) (N := 59) hx hb hts hin12 hown hK hP 0 rfl rfl 37 (Nat.le_of_ble_eq_true rfl) (ho (.fieldLink RX12 94 "NearEnoughModel" "on" "[I") (List.mem_of_getElem? (i := 1) rfl)) (fun _ h9 => h9) rfl dX12_isChoice_75 ?_
            refine lv_aload_n hx hb dX12_isChoice_78 rfl (lv_at hl 0 rfl) ?_
            refine va_get (D := (dC, dI)) (ci := 12) (v := .ref (ad 33)) (C := RX12) (T := TX12) (N := 59) hx hb hts hin12 hown hK hP 0 rfl rfl 33 (Nat.le_of_ble_eq_true rfl) (ho (.fieldLink RX12 82 "NearEnoughModel" "cStep" "[I") (List.mem_of_getElem? (i := 2) rfl)) (fun _ h9 => h9) rfl dX12_isChoice_79 ?_
            refine lv_iload_n hx hb dX12_isChoice_82 rfl (lv_at hl 2 rfl) ?_
            refine va_iald hx hb hK hP 23 22 rfl rfl (ti_inx o2 o3) dX12_isChoice_83 ?_
            refine lv_topi (fun z11_ ez11_ => ?_)
            have qq12_ : z11_.toInt = z8_.toInt := congrArg Int32.toInt ((ez11_.trans (congrFun rfl (Int32.toNatClampNeg kv))).trans ((ez8_.trans (congrFun rfl (Int32.toNatClampNeg kv)))).symm)
            have gz11_ : z11_.toInt = ((τ.2.1 33) (Int32.toNatClampNeg kv)).toInt := congrArg Int32.toInt (ez11_.trans (congrFun rfl (Int32.toNatClampNeg kv)))
            have bz11_ : 0 ≤ z11_.toInt ∧ z11_.toInt ≤ 11 := by rw [ez11_]; exact (hIτ.2 33) _ (cl_lt (n := 12) o2 o3)
            refine lv_iload_n hx hb dX12_isChoice_84 rfl (lv_at hl 2 rfl) ?_
            have o6 : 0 ≤ z11_.toInt := by omega
            have o7 : z11_.toInt < ((12 : Nat) : Int) := by omega
            refine va_iast hx hb hK hP hD hS 27 26 rfl rfl (ti_inx o6 o7) dX12_isChoice_85 (fun H locs hP hD hS => ?_)
            rw [wS37] at hP hD
            obtain ⟨τ13_, eτ13_⟩ : ∃ x9 : MS, x9 = sA τ 37 (upd (τ.2.1 37) (Int32.toNatClampNeg z11_) kv) := ⟨_, rfl⟩
            have hP : va_P (dC, dI) vwCl (mW h ad cl τ13_) H := by rw [eτ13_]; exact hP
            have hD : va_D A (mW h ad cl τ13_) := by rw [eτ13_]; exact hD
            have o8 : ((-1) : Int) ≤ (kv : Int32).toInt := by omega
            have o9 : (kv : Int32).toInt ≤ 11 := by omega
            have hIτ13_ : Inv τ13_ := by rw [eτ13_]; exact (Inv_sA1 hIτ (rgu (hIτ.2 37) (show ((-1) : Int) ≤ (kv : Int32).toInt ∧ (kv : Int32).toInt ≤ 11 from ⟨o8, o9⟩)))
            have Xτ13_ : eqx [37] τ13_ σ := (eqx.eq eτ13_ (eqx.sA hxτ rg_88))
            have qq14_ : (τ13_.1 40).toInt = ((σ.1 40) : Int32).toInt := congrArg Int32.toInt ((show τ13_.1 40 = (σ.1 40) from (congrArg (fun x9 : MS => x9.1 40) eτ13_).trans ((hxτ 40 rg_87).1)))
            obtain ⟨z15_, ez15_⟩ : ∃ y : Int32, y = kv + 1 := ⟨_, rfl⟩
            have o10 : -2147483648 ≤ kv.toInt + 1 := by omega
            have o11 : kv.toInt + 1 ≤ 2147483647 := by omega
            have tz15_ := ti_add ez15_ rfl rg_18 o10 o11
            refine lv_iinc (v := z15_) (lv' := [(2, .int z15_), (0, .ref h), (1, .int x)]) hx hb dX12_isChoice_86 hl (k := 2) rfl (iincp ez15_ rg_6) (Nat.le_of_ble_eq_true rfl) rfl (fun ls hl => ?_)
            refine lv_goto (tgt := 39) hx hb dX12_isChoice_89 rfl ?_
            have E33 : τ.2.1 33 = σ.2.1 33 := (hxτ 33 rg_540).2.1
            have hkk := (ti_cl (x := kv) rfl hk0).symm
            have o12 : z15_.toInt = kv.toInt + 1 := by omega
            have CN16_ : (τ13_).2.1 37 = (upd (τ.2.1 37) (Int32.toNatClampNeg z11_) kv) := ((congrArg (fun x9 : MS => x9.2.1 37) eτ13_).trans (tAe.trans (congrArg (fun f9 => (upd f9 (Int32.toNatClampNeg z11_) kv)) rfl)))
            have Dz11_ : z11_ = σ.2.1 33 kv.toNatClampNeg := by rw [ez11_, E33]
            have D1z8_ : z8_ = σ.2.1 33 kv.toNatClampNeg := by rw [ez8_, E33]
            have o13 : z11_.toInt ≤ 11 := by omega
            have o14 : z9_.toInt < 0 := by omega
            have N16_ : OnP (σ.2.1 33) x z15_.toNatClampNeg ((τ13_).2.1 37) := by rw [cl_succ hk0 o12]; rw [CN16_, Dz11_]; exact OnP.put hon hkk (fun h9 => c7_ (by rw [ez6_, ez5_]; exact h9)) (by rw [← Dz11_]; exact o6) (by rw [← Dz11_]; exact o13) (by rw [← D1z8_, ← ez9_]; exact o14)
            have o15 : 0 ≤ z15_.toInt := by omega
            have o16 : z15_.toInt ≤ (σ.1 40).toInt := by omega
            have o17 : (12 - z15_.toInt).toNat < n39 := by omega
            exact ih39 τ13_ z15_ _ _ _ (show (12 - z15_.toInt).toNat < n39 from o17) hIτ13_ Xτ13_ o15 hvc N16_ o16 hP hD hS (lv_sub hl [1, 2, 0] rfl)
          · have tc10_ := (show 0 ≤ z9_.toInt from ti_nlt rfl rg_11 c10_)
            refine lv_iconst (v := 0) hx hb dX12_isChoice_72 rg_0 ?_
            rw [hQ]
            have E33 : τ.2.1 33 = σ.2.1 33 := (hxτ 33 rg_540).2.1
            have D1z8_ : z8_ = σ.2.1 33 kv.toNatClampNeg := by rw [ez8_, E33]
            have o18 : z8_.toInt ≤ 11 := by omega
            have o19 : 0 ≤ z9_.toInt := by omega
            have o20 : kv.toInt < (σ.1 40).toInt := by omega
            exact W.zret (v := 0) hx hb hr rfl (fun t ht hW => ⟨⟨0, τ, rfl, ⟨hIτ, hxτ, Or.inr ⟨rg_11, (fun ⟨on9, h9⟩ => OnP.two hon (ti_cl (x := kv) rfl hk0).symm (fun h8 => c7_ (by rw [ez6_, ez5_]; exact h8)) (by rw [← D1z8_]; exact o4) (by rw [← D1z8_]; exact o18) (by rw [← D1z8_, ← ez9_]; exact o19) (by have h7 := ti_cl (x := kv) rfl hk0; have h6 := ti_cl (x := σ.1 40) rfl (hI.1 40).1; have h5 := o20; omega) h9.2)⟩⟩, wEn_of hP (hK.sub [] rfl) hD ht hW⟩, hS.F ht⟩) hS.2.2 dX12_isChoice_73
        · have tc7_ := (show z6_.toInt = 0 from ti_eq rfl rg_11 c7_)
          refine lv_goto (tgt := 86) hx hb dX12_isChoice_55 rfl ?_
          obtain ⟨z17_, ez17_⟩ : ∃ y : Int32, y = kv + 1 := ⟨_, rfl⟩
          have o21 : -2147483648 ≤ kv.toInt + 1 := by omega
          have o22 : kv.toInt + 1 ≤ 2147483647 := by omega
          have tz17_ := ti_add ez17_ rfl rg_18 o21 o22
          refine lv_iinc (v := z17_) (lv' := [(2, .int z17_), (0, .ref h), (1, .int x)]) hx hb dX12_isChoice_86 hl (k := 2) rfl (iincp ez17_ rg_6) (Nat.le_of_ble_eq_true rfl) rfl (fun ls hl => ?_)
          refine lv_goto (tgt := 39) hx hb dX12_isChoice_89 rfl ?_
          have E33 : τ.2.1 33 = σ.2.1 33 := (hxτ 33 rg_540).2.1
          have hkk := (ti_cl (x := kv) rfl hk0).symm
          have o23 : z17_.toInt = kv.toInt + 1 := by omega
          have N18_ : OnP (σ.2.1 33) x z17_.toNatClampNeg ((τ).2.1 37) := by rw [cl_succ hk0 o23]; exact OnP.skip hon hkk (by rw [← ez5_, ← ez6_]; exact c7_)
          have o24 : 0 ≤ z17_.toInt := by omega
          have o25 : z17_.toInt ≤ (σ.1 40).toInt := by omega
          have o26 : (12 - z17_.toInt).toNat < n39 := by omega
          exact ih39 τ z17_ _ _ _ (show (12 - z17_.toInt).toNat < n39 from o26) hIτ hxτ o24 hvc N18_ o25 hP hD hS (lv_sub hl [1, 2, 0] rfl)
  have pt_18 : ∀ (n18 : Nat) (τ : MS) (kv : Int32) (H : Heap) (locs : List Loc) (ls : Array Slot), (12 - kv.toInt).toNat < n18 → (Inv τ) → (eqx [37] τ σ) → (0 ≤ kv.toInt) → (VC (σ.1 40) x) → (∀ i9, i9 < kv.toNatClampNeg → τ.2.1 37 i9 = -1) → va_P (dC, dI) vwCl (mW h ad cl τ) H → va_D A (mW h ad cl τ) → va_S A s.heap H locs → lv_has ls 3 [(0, .ref h), (1, .int x), (2, .int kv)] → W p l e (headSpec vs_n_isChoiceV rm_n_isChoiceV).room s m #[Value.ref h, Value.int x] below meth c H locs 0 0 Q (F0 m 18 ls []) := by
    intro n18
    induction n18 with
    | zero => intro τ kv H locs ls hn18 hIτ hxτ hk0 hvc hz hP hD hS hl; exact absurd hn18 (Nat.not_lt_zero _)
    | succ n18 ih18 =>
      intro τ kv H locs ls hn18 hIτ hxτ hk0 hvc hz hP hD hS hl
      have bτ_40 : 0 ≤ (τ.1 40).toInt ∧ (τ.1 40).toInt ≤ 12 := hIτ.1 40
      have qq19_ : (τ.1 40).toInt = ((σ.1 40) : Int32).toInt := congrArg Int32.toInt (((hxτ 40 rg_87).1))
      refine lv_iload_n hx hb dX12_isChoice_18 rfl (lv_at hl 2 rfl) ?_
      refine lv_bipush (v := 12) hx hb dX12_isChoice_19 rg_57 ?_
      refine lv_icmp_ge (tgt := 37) hx hb dX12_isChoice_21 rfl (fun c20_ => ?_) (fun c20_ => ?_)
      · have tc20_ := (show 12 ≤ kv.toInt from ti_le rg_58 rfl c20_)
        refine lv_iconst (v := 0) hx hb dX12_isChoice_37 rg_0 ?_
        refine lv_istore_n (lv' := [(2, .int 0), (0, .ref h), (1, .int x)]) hx hb dX12_isChoice_38 rfl hl (Nat.le_of_ble_eq_true rfl) rfl (fun ls hl => ?_)
        have o27 : 0 ≤ kv.toInt := by omega
        have o28 : 12 ≤ kv.toInt := by omega
        exact pt_39 _ τ 0 _ _ _ (Nat.lt_succ_self _) hIτ hxτ rg_56 hvc (OnP.z (fun i9 h9 => hz i9 (by have h8 := ti_cl (x := kv) rfl o27; have h7 := o28; omega))) (show (0 : Int32).toInt ≤ (σ.1 40).toInt from by rw [rg_11]; exact (hI.1 40).1) hP hD hS (lv_sub hl [1, 2, 0] rfl)
      · have tc20_ := (show kv.toInt < 12 from ti_nle rg_58 rfl c20_)
        refine lv_aload_n hx hb dX12_isChoice_24 rfl (lv_at hl 0 rfl) ?_
        refine va_get (D := (dC, dI)) (ci := 12) (v := .ref (ad 37)) (C := RX12) (T := TX12) (N := 59) hx hb hts hin12 hown hK hP 0 rfl rfl 37 (Nat.le_of_ble_eq_true rfl) (ho (.fieldLink RX12 94 "NearEnoughModel" "on" "[I") (List.mem_of_getElem? (i := 1) rfl)) (fun _ h9 => h9) rfl dX12_isChoice_25 ?_
        refine lv_iload_n hx hb dX12_isChoice_28 rfl (lv_at hl 2 rfl) ?_
        refine lv_iconst (v := (-1)) hx hb dX12_isChoice_29 rg_53 ?_
        have o29 : 0 ≤ kv.toInt := by omega
        have o30 : kv.toInt < ((12 : Nat) : Int) := by omega
        refine va_iast hx hb hK hP hD hS 27 26 rfl rfl (ti_inx o29 o30) dX12_isChoice_30 (fun H locs hP hD hS => ?_)
        rw [wS37] at hP hD
        obtain ⟨τ21_, eτ21_⟩ : ∃ x9 : MS, x9 = sA τ 37 (upd (τ.2.1 37) (Int32.toNatClampNeg kv) (-1)) := ⟨_, rfl⟩
        have hP : va_P (dC, dI) vwCl (mW h ad cl τ21_) H := by rw [eτ21_]; exact hP
        have hD : va_D A (mW h ad cl τ21_) := by rw [eτ21_]; exact hD
        have hIτ21_ : Inv τ21_ := by rw [eτ21_]; exact (Inv_sA1 hIτ (rgu (hIτ.2 37) rg_89))
        have Xτ21_ : eqx [37] τ21_ σ := (eqx.eq eτ21_ (eqx.sA hxτ rg_88))
        have qq22_ : (τ21_.1 40).toInt = ((σ.1 40) : Int32).toInt := congrArg Int32.toInt ((show τ21_.1 40 = (σ.1 40) from (congrArg (fun x9 : MS => x9.1 40) eτ21_).trans ((hxτ 40 rg_87).1)))
        obtain ⟨z23_, ez23_⟩ : ∃ y : Int32, y = kv + 1 := ⟨_, rfl⟩
        have o31 : -2147483648 ≤ kv.toInt + 1 := by omega
        have o32 : kv.toInt + 1 ≤ 2147483647 := by omega
        have tz23_ := ti_add ez23_ rfl rg_18 o31 o32
        refine lv_iinc (v := z23_) (lv' := [(2, .int z23_), (0, .ref h), (1, .int x)]) hx hb dX12_isChoice_31 hl (k := 2) rfl (iincp ez23_ rg_6) (Nat.le_of_ble_eq_true rfl) rfl (fun ls hl => ?_)
        refine lv_goto (tgt := 18) hx hb dX12_isChoice_34 rfl ?_
        have CN24_ : (τ21_).2.1 37 = (upd (τ.2.1 37) (Int32.toNatClampNeg kv) (-1)) := ((congrArg (fun x9 : MS => x9.2.1 37) eτ21_).trans (tAe.trans (congrArg (fun f9 => (upd f9 (Int32.toNatClampNeg kv) (-1))) rfl)))
        have o33 : z23_.toInt = kv.toInt + 1 := by omega
        have N24_ : ∀ i9, i9 < z23_.toNatClampNeg → (τ21_).2.1 37 i9 = -1 := fun i9 h9 => by rw [CN24_]; rw [cl_succ o29 o33] at h9; by_cases e9 : i9 = kv.toNatClampNeg; (subst e9; exact pk_us); (rw [pk_un e9]; exact hz i9 (by omega))
        have o34 : 0 ≤ z23_.toInt := by omega
        have o35 : (12 - z23_.toInt).toNat < n18 := by omega
        exact ih18 τ21_ z23_ _ _ _ (show (12 - z23_.toInt).toNat < n18 from o35) hIτ21_ Xτ21_ o34 hvc N24_ hP hD hS (lv_sub hl [1, 2, 0] rfl)
  refine zH (A := A) (ws := mW h ad cl σ) (fun H hP hS => ?_) hP
  have bσ_40 : 0 ≤ (σ.1 40).toInt ∧ (σ.1 40).toInt ≤ 12 := hI.1 40
  refine lv_iload_n hx hb dX12_isChoice_0 rfl (lv_at hl 1 rfl) ?_
  refine lv_if_lt (tgt := 14) hx hb dX12_isChoice_1 rfl (fun c25_ => ?_) (fun c25_ => ?_)
  · have tc25_ := (show x.toInt < 0 from ti_lt rfl rg_11 c25_)
    refine lv_iconst (v := 0) hx hb dX12_isChoice_14 rg_0 ?_
    rw [hQ]
    have o36 : ¬ 0 ≤ x.toInt := by omega
    exact W.zret (v := 0) hx hb hr rfl (fun t ht hW => ⟨⟨0, σ, rfl, ⟨hI, eqx.rf, Or.inr ⟨rg_11, (fun ⟨on9, h9⟩ => absurd h9.1.1 o36)⟩⟩, wEn_of hP (hK.sub [] rfl) hD ht hW⟩, hS.F ht⟩) hS.2.2 dX12_isChoice_15
  · have tc25_ := (show 0 ≤ x.toInt from ti_nlt rfl rg_11 c25_)
    refine lv_iload_n hx hb dX12_isChoice_4 rfl (lv_at hl 1 rfl) ?_
    refine lv_iconst (v := 1) hx hb dX12_isChoice_5 rg_6 ?_
    refine lv_aload_n hx hb dX12_isChoice_6 rfl (lv_at hl 0 rfl) ?_
    refine va_get (D := (dC, dI)) (ci := 12) (v := .int (σ.1 40)) (C := RX12) (T := TX12) (N := 59) hx hb hts hin12 hown hK hP 0 rfl rfl 40 (Nat.le_of_ble_eq_true rfl) (ho (.fieldLink RX12 252 "NearEnoughModel" "changes" "I") (List.mem_of_getElem? (i := 0) rfl)) (fun _ h9 => h9) rfl dX12_isChoice_7 ?_
    have bσ_40 : 0 ≤ (σ.1 40).toInt ∧ (σ.1 40).toInt ≤ 12 := hI.1 40
    refine lv_ishl hx hb dX12_isChoice_10 ?_
    refine lv_topi (fun z26_ ez26_ => ?_)
    refine lv_icmp_lt (tgt := 16) hx hb dX12_isChoice_11 rfl (fun c27_ => ?_) (fun c27_ => ?_)
    · have tc27_ := (show x.toInt < z26_.toInt from ti_lt rfl rfl c27_)
      refine lv_iconst (v := 0) hx hb dX12_isChoice_16 rg_0 ?_
      refine lv_istore_n (lv' := [(2, .int 0), (0, .ref h), (1, .int x)]) hx hb dX12_isChoice_17 rfl hl (Nat.le_of_ble_eq_true rfl) rfl (fun ls hl => ?_)
      have o37 : 0 ≤ x.toInt := by omega
      exact pt_18 _ σ 0 _ _ _ (Nat.lt_succ_self _) hI eqx.rf rg_56 ⟨o37, (by rw [← ez26_]; exact c27_)⟩ (fun i9 h9 => absurd h9 (by rw [show (0 : Int32).toNatClampNeg = 0 from by decide]; exact Nat.not_lt_zero _)) hP hD hS (lv_sub hl [1, 2, 0] rfl)
    · have tc27_ := (show z26_.toInt ≤ x.toInt from ti_nlt rfl rfl c27_)
      refine lv_iconst (v := 0) hx hb dX12_isChoice_14 rg_0 ?_
      rw [hQ]
      exact W.zret (v := 0) hx hb hr rfl (fun t ht hW => ⟨⟨0, σ, rfl, ⟨hI, eqx.rf, Or.inr ⟨rg_11, (fun ⟨on9, h9⟩ => absurd h9.1.2 (by rw [← ez26_]; exact c27_))⟩⟩, wEn_of hP (hK.sub [] rfl) hD ht hW⟩, hS.F ht⟩) hS.2.2 dX12_isChoice_15
def ow_n_bars : List Cond := [.fieldLink RX12 379 "NearEnoughModel" "spanLow" "J", .constantLong RX12 310 (-1000000000), .fieldLink RX12 382 "NearEnoughModel" "spanHigh" "J", .constantLong RX12 312 (1000000000), .fieldLink RX12 107 "NearEnoughModel" "low" "[J", .fieldLink RX12 110 "NearEnoughModel" "high0" "[J"]
def vs_n_bars : List Cond := .code yX12_bars cX12_bars 2 (some .int) :: (ow_n_bars ++ (([.methodLink RX12 321 yX12_steps, .instanceMethod yX12_steps, .selects RX12 yX12_steps yX12_steps, .initialized RX12] : List Cond) ++ (vs_n_steps ++ (([.methodLink RX12 420 yX12_show, .instanceMethod yX12_show, .selects RX12 yX12_show yX12_show, .initialized RX12] : List Cond) ++ (vs_n_show ++ (wsX120))))))
theorem vg_n_bars : vs_n_bars.all goodWord = true := by decide +kernel
theorem dd_n_bars : yX12_bars.cls = RX12 ∧ yX12_bars.cls ≠ "java/lang/invoke/MethodHandle" ∧ yX12_bars.cls ≠ "java/lang/invoke/VarHandle" ∧ (parseMethodDescriptor yX12_bars.desc).map (fun d => d.parameters.length) = some 0 := by decide +kernel
def rm_n_bars : Room := { frames := 5, cells := 0, slots := 0, locals := 138 }
theorem gd_n_bars_321_n_steps : GoodIn vs_n_bars (wsV RX12 321 RX12 yX12_steps vs_n_steps) := goodIn_app (goodIn_sub (fun w h => (List.mem_cons_of_mem _ (List.mem_append_right _ (List.mem_append_left _ h)))) (by decide +kernel)) (goodIn_sub (fun w h => (List.mem_cons_of_mem _ (List.mem_append_right _ (List.mem_append_right _ (List.mem_append_left _ h))))) vg_n_steps)
theorem gd_n_bars_420_n_show : GoodIn vs_n_bars (wsV RX12 420 RX12 yX12_show vs_n_show) := goodIn_app (goodIn_sub (fun w h => (List.mem_cons_of_mem _ (List.mem_append_right _ (List.mem_append_right _ (List.mem_append_right _ (List.mem_append_left _ h)))))) (by decide +kernel)) (goodIn_sub (fun w h => (List.mem_cons_of_mem _ (List.mem_append_right _ (List.mem_append_right _ (List.mem_append_right _ (List.mem_append_right _ (List.mem_append_left _ h))))))) vg_n_show)
set_option maxHeartbeats 4000000 in
set_option maxRecDepth 100000 in
theorem n_bars (l : Launch) (dC : Nat → ClassId) (dI : Nat → Nat → Nat) (h : Nat) (ad : Nat → Nat) (cl : Nat → ClassId) (sz : Nat) (σ : MS)  (hI : Inv σ) (hR : RelP σ (σ.1 29).toNatClampNeg) (hfit : ∀ i, i < 12 → FitC (σ.1 29).toNatClampNeg (cor σ) i (σ.2.1 37 i)) : Met l yX12_bars vs_n_bars rm_n_bars (va_Pc [.ref h] (wSt dC dI (mW h ad cl σ) (mT cl) sz)) (va_Qi (fun (r : Int32) (τ : MS) => Inv τ ∧ eqx [43, 44, 45, 46] τ σ ∧ ((r.toInt = -1 ∧ ShR (σ.1 29).toNatClampNeg (cor σ) (coJ σ) (σ.2.1 37) (σ.2.1 12 (σ.1 29).toNatClampNeg).toNatClampNeg (τ.2.2.1 43) (τ.2.2.1 44)) ∨ (0 ≤ r.toInt ∧ r.toInt < (σ.2.1 12 (σ.1 29).toNatClampNeg).toInt ∧ ShBad (σ.1 29).toNatClampNeg (cor σ) (coJ σ) (σ.2.1 37) r.toNatClampNeg (τ.2.2.1 43) (τ.2.2.1 44)))) (fun (τ : MS) => wEn dC dI (va_A (mW h ad cl σ) sz) (mW h ad cl τ) []) (va_A (mW h ad cl σ) sz)) 0 0 (va_A (mW h ad cl σ) sz) := by
  refine Met.ofW (cc := cX12_bars) (maxL := 2) (ret := (some .int)) (by decide) rfl ?_
  intro p e s m args below meth c s₁ B hml hv
  obtain ⟨rfl, hsz, hP, hK, hD0, hE⟩ := hv
  have hx := B.exec
  have hb := B.bytes
  have hr := B.returns
  have hts := atoms_spec (ws := vs_n_bars) B.pre
  have hown : s.vm.findClass RX12 = some m.cls := findClass_of_methodNamed B.named
  have hlocks := B.notSynchronized
  subst hsz
  have hD := hD0.self (sz := s.heap.size)
  generalize hAe : va_A (mW h ad cl σ) s.heap.size = A at hD ⊢
  have hA : ∀ q : Nat, s.heap.size ≤ q → A q := fun q h => by rw [← hAe]; exact Or.inr h
  have hl := lv_entry ([.ref h]) (n := 2) (Nat.le_of_ble_eq_true rfl)
  rw [lg_entry_eq]
  generalize (lg_sl ([.ref h]) ++ List.replicate (2 - (lg_sl ([.ref h])).length) Slot.unset).toArray = ls at hl ⊢
  have hl : lv_has ls 2 [(0, .ref h)] := hl
  have ho := fun w (h : w ∈ ow_n_bars) => hts w (List.mem_cons_of_mem _ (List.mem_append_left _ h))
  have hin12 : ∀ w ∈ u_ws RX12 TX12 59, w ∈ vs_n_bars := fun w h => (List.mem_cons_of_mem _ (List.mem_append_right _ (List.mem_append_right _ (List.mem_append_right _ (List.mem_append_right _ (List.mem_append_right _ h))))))
  refine zQ (fun Q hQ => ?_)
  have hn12 : 0 ≤ (σ.2.1 12 (σ.1 29).toNatClampNeg).toInt ∧ (σ.2.1 12 (σ.1 29).toNatClampNeg).toInt ≤ 12 := hI.2 12 _ (cl_lt (n := 2) (hI.1 29).1 (Int.lt_of_le_of_lt (hI.1 29).2 (by decide)))
  have pt_2 : ∀ (n2 : Nat) (τ : MS) (sv : Int32) (H : Heap) (locs : List Loc) (ls : Array Slot), (12 - sv.toInt).toNat < n2 → (Inv τ) → (eqx [43, 44, 45, 46] τ σ) → (0 ≤ sv.toInt) → (ShR (σ.1 29).toNatClampNeg (cor σ) (coJ σ) (σ.2.1 37) sv.toNatClampNeg (τ.2.2.1 43) (τ.2.2.1 44)) → (sv.toInt ≤ (σ.2.1 12 (σ.1 29).toNatClampNeg).toInt) → va_P (dC, dI) vwCl (mW h ad cl τ) H → va_D A (mW h ad cl τ) → va_S A s.heap H locs → lv_has ls 2 [(0, .ref h), (1, .int sv)] → W p l e (headSpec vs_n_bars rm_n_bars).room s m #[Value.ref h] below meth c H locs 0 0 Q (F0 m 2 ls []) := by
    intro n2
    induction n2 with
    | zero => intro τ sv H locs ls hn2 hIτ hxτ hs0 hsh hsn hP hD hS hl; exact absurd hn2 (Nat.not_lt_zero _)
    | succ n2 ih2 =>
      intro τ sv H locs ls hn2 hIτ hxτ hs0 hsh hsn hP hD hS hl
      have bτ_29 : 0 ≤ (τ.1 29).toInt ∧ (τ.1 29).toInt ≤ 1 := hIτ.1 29
      have qq1_ : (τ.1 29).toInt = ((σ.1 29) : Int32).toInt := congrArg Int32.toInt (((hxτ 29 rg_541).1))
      have E29 : τ.1 29 = σ.1 29 := (hxτ 29 rg_541).1
      have Ecor : cor τ = cor σ := cor_x hxτ rg_542
      have EJ : coJ τ = coJ σ := coJ_x hxτ rg_543
      have E37 : τ.2.1 37 = σ.2.1 37 := (hxτ 37 rg_544).2.1
      have E12 : (τ.2.1 12 (τ.1 29).toNatClampNeg).toInt = (σ.2.1 12 (σ.1 29).toNatClampNeg).toInt := by rw [E29, (hxτ 12 rg_545).2.1]
      refine lv_iload_n hx hb dX12_bars_2 rfl (lv_at hl 1 rfl) ?_
      refine lv_aload_n hx hb dX12_bars_3 rfl (lv_at hl 0 rfl) ?_
      refine zy_i (va_runV (As := []) (rest := [.int sv]) ⟨hx, hb, hml, hown, hts⟩ (n_steps l dC dI h ad cl H.size τ  hIτ) (cwV 0 hts gd_n_bars_321_n_steps rfl rfl rfl dd_n_steps ⟨Nat.le_of_ble_eq_true rfl, Nat.le_of_ble_eq_true rfl⟩) (preV hP hK hD hE (ci := 12) (q0 := 0) rfl rfl) rfl rfl hl.1 rfl (lv_room (Nat.le_of_ble_eq_true rfl)) dX12_bars_4 ⟨Nat.le_of_ble_eq_true rfl, Nat.le_of_ble_eq_true rfl⟩) hD hS hA (fun z3_ τ2_ H locs hq hP hD hS => ?_)
      obtain ⟨rfl, f4_, f5_, f6_⟩ := hq
      refine W.widen (k := 0) (n := 0) (Nat.le_of_ble_eq_true rfl) (Nat.le_of_ble_eq_true rfl) ?_
      refine lv_icmp_ge (tgt := 68) hx hb dX12_bars_7 rfl (fun c7_ => ?_) (fun c7_ => ?_)
      · have tc7_ := (show z3_.toInt ≤ sv.toInt from ti_le rfl rfl c7_)
        refine lv_iconst (v := (-1)) hx hb dX12_bars_68 rg_53 ?_
        rw [hQ]
        have o1 : (σ.2.1 12 (σ.1 29).toNatClampNeg).toInt = sv.toInt := by omega
        have A8_ : (σ.2.1 12 (σ.1 29).toNatClampNeg).toNatClampNeg = sv.toNatClampNeg := cl_eq o1
        exact W.iret (v := (-1)) hx hb hr (fun t ht hW => ⟨⟨(-1), τ, rfl, ⟨hIτ, hxτ, Or.inl ⟨rg_546, (by rw [A8_]; exact hsh)⟩⟩, wEn_of hP (hK.sub [] rfl) hD ht hW⟩, hS.F ht⟩) hS.2.2 dX12_bars_69
      · have tc7_ := (show sv.toInt < z3_.toInt from ti_nle rfl rfl c7_)
        refine lv_aload_n hx hb dX12_bars_10 rfl (lv_at hl 0 rfl) ?_
        refine lv_iload_n hx hb dX12_bars_11 rfl (lv_at hl 1 rfl) ?_
        have o2 : 0 ≤ sv.toInt := by omega
        have o3 : sv.toInt ≤ 11 := by omega
        have o4 : sv.toInt < (σ.2.1 12 (σ.1 29).toNatClampNeg).toInt := by omega
        have o5 : sv.toInt < ((12 : Nat) : Int) := by omega
        refine zy_i (va_runV (As := [.int sv]) (rest := []) ⟨hx, hb, hml, hown, hts⟩ (n_show l dC dI h ad cl H.size τ sv hIτ ⟨o2, o3⟩ (WkOk.x (show WkOk σ sv from ⟨hR, o2, o4⟩) hxτ rg_541 rg_547) (by rw [E29, Ecor, E37]; exact hfit _ (cl_lt (n := 12) o2 o5))) (cwV 1 hts gd_n_bars_420_n_show rfl rfl rfl dd_n_show ⟨Nat.le_of_ble_eq_true rfl, Nat.le_of_ble_eq_true rfl⟩) (preV hP hK hD hE (ci := 12) (q0 := 0) rfl rfl) rfl rfl hl.1 rfl (lv_room (Nat.le_of_ble_eq_true rfl)) dX12_bars_12 ⟨Nat.le_of_ble_eq_true rfl, Nat.le_of_ble_eq_true rfl⟩) hD hS hA (fun z10_ τ9_ H locs hq hP hD hS => ?_)
        obtain ⟨hI11_, hx12_, f13_⟩ := hq
        have Xτ9_ : eqx [43, 44, 45, 46] τ9_ σ := eqx.tr hx12_ hxτ rg_548
        have qq14_ : (τ9_.1 29).toInt = ((σ.1 29) : Int32).toInt := congrArg Int32.toInt ((show τ9_.1 29 = (σ.1 29) from ((hx12_ 29 rg_504).1).trans ((hxτ 29 rg_541).1)))
        refine W.widen (k := 0) (n := 0) (Nat.le_of_ble_eq_true rfl) (Nat.le_of_ble_eq_true rfl) ?_
        rw [E29, Ecor, EJ, E37] at f13_
        refine lv_if_eq (tgt := 40) hx hb dX12_bars_15 rfl (fun c15_ => ?_) (fun c15_ => ?_)
        · have tc15_ := (show z10_.toInt = 0 from ti_eq rfl rg_11 c15_)
          refine lv_iload_n hx hb dX12_bars_40 rfl (lv_at hl 1 rfl) ?_
          rw [hQ]
          have F43 : τ9_.2.2.1 43 = τ.2.2.1 43 := (hx12_ 43 rg_514).2.2.1
          have F44 : τ9_.2.2.1 44 = τ.2.2.1 44 := (hx12_ 44 rg_515).2.2.1
          have o6 : ¬ z10_.toInt = 1 := by omega
          have N16_ : ShBad (σ.1 29).toNatClampNeg (cor σ) (coJ σ) (σ.2.1 37) sv.toNatClampNeg (τ9_.2.2.1 43) (τ9_.2.2.1 44) := by rw [F43, F44]; exact ⟨hsh, fun h9 => by rcases f13_ with q | q; exact absurd q.1 o6; exact q.2 h9.1⟩
          exact W.iret (v := sv) hx hb hr (fun t ht hW => ⟨⟨sv, τ9_, rfl, ⟨hI11_, Xτ9_, Or.inr ⟨o2, o4, N16_⟩⟩, wEn_of hP (hK.sub [] rfl) hD ht hW⟩, hS.F ht⟩) hS.2.2 dX12_bars_41
        · have tc15_ := (show z10_.toInt ≠ 0 from ti_ne rfl rg_11 c15_)
          refine lv_aload_n hx hb dX12_bars_18 rfl (lv_at hl 0 rfl) ?_
          refine va_get (D := (dC, dI)) (ci := 12) (v := .long (τ9_.2.2.2 45)) (C := RX12) (T := TX12) (N := 59) hx hb hts hin12 hown hK hP 0 rfl rfl 45 (Nat.le_of_ble_eq_true rfl) (ho (.fieldLink RX12 379 "NearEnoughModel" "spanLow" "J") (List.mem_of_getElem? (i := 0) rfl)) (fun _ h9 => h9) rfl dX12_bars_19 ?_
          refine lv_ldc2 (v := (-1000000000)) hx hb hown (ho (.constantLong RX12 310 (-1000000000)) (List.mem_of_getElem? (i := 1) rfl)) dX12_bars_22 ?_
          refine W.lcmp hx hb dX12_bars_25 ?_
          refine lv_topi (fun z17_ ez17_ => ?_)
          refine lv_if_lt (tgt := 40) hx hb dX12_bars_26 rfl (fun c18_ => ?_) (fun c18_ => ?_)
          · have tc18_ := (show z17_.toInt < 0 from ti_lt rfl rg_11 c18_)
            have lc18_ : (τ9_.2.2.2 45) < (-1000000000) := (lg_cmp_lt (τ9_.2.2.2 45) (-1000000000)).mp (by rw [← ez17_]; exact c18_)
            refine lv_iload_n hx hb dX12_bars_40 rfl (lv_at hl 1 rfl) ?_
            rw [hQ]
            have F43 : τ9_.2.2.1 43 = τ.2.2.1 43 := (hx12_ 43 rg_514).2.2.1
            have F44 : τ9_.2.2.1 44 = τ.2.2.1 44 := (hx12_ 44 rg_515).2.2.1
            have N19_ : ShBad (σ.1 29).toNatClampNeg (cor σ) (coJ σ) (σ.2.1 37) sv.toNatClampNeg (τ9_.2.2.1 43) (τ9_.2.2.1 44) := by rw [F43, F44]; exact ⟨hsh, fun h9 => by rcases f13_ with q | q; (rw [← q.2.2.1] at h9; have h6 := lt64 lc18_; rw [b9a] at h6; omega); exact q.2 h9.1⟩
            exact W.iret (v := sv) hx hb hr (fun t ht hW => ⟨⟨sv, τ9_, rfl, ⟨hI11_, Xτ9_, Or.inr ⟨o2, o4, N19_⟩⟩, wEn_of hP (hK.sub [] rfl) hD ht hW⟩, hS.F ht⟩) hS.2.2 dX12_bars_41
          · have tc18_ := (show 0 ≤ z17_.toInt from ti_nlt rfl rg_11 c18_)
            have lc18_ : ¬ (τ9_.2.2.2 45) < (-1000000000) := fun h => c18_ (by rw [ez17_]; exact (lg_cmp_lt (τ9_.2.2.2 45) (-1000000000)).mpr h)
            refine lv_aload_n hx hb dX12_bars_29 rfl (lv_at hl 0 rfl) ?_
            refine va_get (D := (dC, dI)) (ci := 12) (v := .long (τ9_.2.2.2 46)) (C := RX12) (T := TX12) (N := 59) hx hb hts hin12 hown hK hP 0 rfl rfl 46 (Nat.le_of_ble_eq_true rfl) (ho (.fieldLink RX12 382 "NearEnoughModel" "spanHigh" "J") (List.mem_of_getElem? (i := 2) rfl)) (fun _ h9 => h9) rfl dX12_bars_30 ?_
            refine lv_ldc2 (v := (1000000000)) hx hb hown (ho (.constantLong RX12 312 (1000000000)) (List.mem_of_getElem? (i := 3) rfl)) dX12_bars_33 ?_
            refine W.lcmp hx hb dX12_bars_36 ?_
            refine lv_topi (fun z20_ ez20_ => ?_)
            refine lv_if_le (tgt := 42) hx hb dX12_bars_37 rfl (fun c21_ => ?_) (fun c21_ => ?_)
            · have tc21_ := (show z20_.toInt ≤ 0 from ti_le rfl rg_11 c21_)
              have lc21_ : (τ9_.2.2.2 46) ≤ 1000000000 := (lg_cmp_le (τ9_.2.2.2 46) 1000000000).mp (by rw [← ez20_]; exact c21_)
              refine lv_aload_n hx hb dX12_bars_42 rfl (lv_at hl 0 rfl) ?_
              refine va_get (D := (dC, dI)) (ci := 12) (v := .ref (ad 43)) (C := RX12) (T := TX12) (N := 59) hx hb hts hin12 hown hK hP 0 rfl rfl 43 (Nat.le_of_ble_eq_true rfl) (ho (.fieldLink RX12 107 "NearEnoughModel" "low" "[J") (List.mem_of_getElem? (i := 4) rfl)) (fun _ h9 => h9) rfl dX12_bars_43 ?_
              refine lv_iload_n hx hb dX12_bars_46 rfl (lv_at hl 1 rfl) ?_
              refine lv_aload_n hx hb dX12_bars_47 rfl (lv_at hl 0 rfl) ?_
              refine va_get (D := (dC, dI)) (ci := 12) (v := .long (τ9_.2.2.2 45)) (C := RX12) (T := TX12) (N := 59) hx hb hts hin12 hown hK hP 0 rfl rfl 45 (Nat.le_of_ble_eq_true rfl) (ho (.fieldLink RX12 379 "NearEnoughModel" "spanLow" "J") (List.mem_of_getElem? (i := 0) rfl)) (fun _ h9 => h9) rfl dX12_bars_48 ?_
              refine va_last hx hb hK hP hD hS 31 30 rfl rfl (ti_inx o2 o5) dX12_bars_51 (fun H locs hP hD hS => ?_)
              rw [wS43] at hP hD
              obtain ⟨τ22_, eτ22_⟩ : ∃ x9 : MS, x9 = sJ τ9_ 43 (vp_updL (τ9_.2.2.1 43) (Int32.toNatClampNeg sv) (τ9_.2.2.2 45)) := ⟨_, rfl⟩
              have hP : va_P (dC, dI) vwCl (mW h ad cl τ22_) H := by rw [eτ22_]; exact hP
              have hD : va_D A (mW h ad cl τ22_) := by rw [eτ22_]; exact hD
              have hIτ22_ : Inv τ22_ := by rw [eτ22_]; exact (Inv.sJ hI11_)
              have Xτ22_ : eqx [43, 44, 45, 46] τ22_ σ := (eqx.eq eτ22_ (eqx.sJ Xτ9_ rg_549))
              have qq23_ : (τ22_.1 29).toInt = ((σ.1 29) : Int32).toInt := congrArg Int32.toInt ((show τ22_.1 29 = (σ.1 29) from (congrArg (fun x9 : MS => x9.1 29) eτ22_).trans (show τ9_.1 29 = (σ.1 29) from ((hx12_ 29 rg_504).1).trans ((hxτ 29 rg_541).1))))
              refine lv_aload_n hx hb dX12_bars_52 rfl (lv_at hl 0 rfl) ?_
              refine va_get (D := (dC, dI)) (ci := 12) (v := .ref (ad 44)) (C := RX12) (T := TX12) (N := 59) hx hb hts hin12 hown hK hP 0 rfl rfl 44 (Nat.le_of_ble_eq_true rfl) (ho (.fieldLink RX12 110 "NearEnoughModel" "high0" "[J") (List.mem_of_getElem? (i := 5) rfl)) (fun _ h9 => h9) rfl dX12_bars_53 ?_
              refine lv_iload_n hx hb dX12_bars_56 rfl (lv_at hl 1 rfl) ?_
              refine lv_aload_n hx hb dX12_bars_57 rfl (lv_at hl 0 rfl) ?_
              refine va_get (D := (dC, dI)) (ci := 12) (v := .long (τ22_.2.2.2 46)) (C := RX12) (T := TX12) (N := 59) hx hb hts hin12 hown hK hP 0 rfl rfl 46 (Nat.le_of_ble_eq_true rfl) (ho (.fieldLink RX12 382 "NearEnoughModel" "spanHigh" "J") (List.mem_of_getElem? (i := 2) rfl)) (fun _ h9 => h9) rfl dX12_bars_58 ?_
              refine va_last hx hb hK hP hD hS 32 31 rfl rfl (ti_inx o2 o5) dX12_bars_61 (fun H locs hP hD hS => ?_)
              rw [wS44] at hP hD
              obtain ⟨τ24_, eτ24_⟩ : ∃ x9 : MS, x9 = sJ τ22_ 44 (vp_updL (τ22_.2.2.1 44) (Int32.toNatClampNeg sv) (τ22_.2.2.2 46)) := ⟨_, rfl⟩
              have hP : va_P (dC, dI) vwCl (mW h ad cl τ24_) H := by rw [eτ24_]; exact hP
              have hD : va_D A (mW h ad cl τ24_) := by rw [eτ24_]; exact hD
              have hIτ24_ : Inv τ24_ := by rw [eτ24_]; exact (Inv.sJ hIτ22_)
              have Xτ24_ : eqx [43, 44, 45, 46] τ24_ σ := (eqx.eq eτ24_ (eqx.sJ Xτ22_ rg_550))
              have qq25_ : (τ24_.1 29).toInt = ((σ.1 29) : Int32).toInt := congrArg Int32.toInt ((show τ24_.1 29 = (σ.1 29) from (congrArg (fun x9 : MS => x9.1 29) eτ24_).trans (show τ22_.1 29 = (σ.1 29) from (congrArg (fun x9 : MS => x9.1 29) eτ22_).trans (show τ9_.1 29 = (σ.1 29) from ((hx12_ 29 rg_504).1).trans ((hxτ 29 rg_541).1)))))
              obtain ⟨z26_, ez26_⟩ : ∃ y : Int32, y = sv + 1 := ⟨_, rfl⟩
              have o7 : -2147483648 ≤ sv.toInt + 1 := by omega
              have o8 : sv.toInt + 1 ≤ 2147483647 := by omega
              have tz26_ := ti_add ez26_ rfl rg_18 o7 o8
              refine lv_iinc (v := z26_) (lv' := [(1, .int z26_), (0, .ref h)]) hx hb dX12_bars_62 hl (k := 1) rfl (iincp ez26_ rg_6) (Nat.le_of_ble_eq_true rfl) rfl (fun ls hl => ?_)
              refine lv_goto (tgt := 2) hx hb dX12_bars_65 rfl ?_
              have F43 : τ9_.2.2.1 43 = τ.2.2.1 43 := (hx12_ 43 rg_514).2.2.1
              have F44 : τ9_.2.2.1 44 = τ.2.2.1 44 := (hx12_ 44 rg_515).2.2.1
              have A27_ : τ24_.2.2.1 43 = vp_updL (τ.2.2.1 43) (Int32.toNatClampNeg sv) (τ9_.2.2.2 45) := by rw [eτ24_, eτ22_]; show vp_updL (τ9_.2.2.1 43) _ _ = _; rw [F43]
              have A28_ : τ24_.2.2.1 44 = vp_updL (τ.2.2.1 44) (Int32.toNatClampNeg sv) (τ9_.2.2.2 46) := by rw [eτ24_, eτ22_]; show vp_updL (τ9_.2.2.1 44) _ (τ9_.2.2.2 46) = _; rw [F44]
              have o9 : z26_.toInt = sv.toInt + 1 := by omega
              have A29_ : (z26_ : Int32).toNatClampNeg = sv.toNatClampNeg + 1 := cl_succ hs0 o9
              have o10 : 0 ≤ z26_.toInt := by omega
              have h7_ := ti_cl (x := z26_) rfl o10
              have o11 : 0 ≤ (σ.2.1 12 (σ.1 29).toNatClampNeg).toInt := by omega
              have h8_ := ti_cl (x := σ.2.1 12 (σ.1 29).toNatClampNeg) rfl o11
              have A30_ : StT (σ.1 29).toNatClampNeg (cor σ) (sv.toNatClampNeg + 1) := hR.stT.mono (by rw [← A29_]; omega)
              have o12 : ¬ z10_.toInt = 0 := by omega
              have A32_ : ShR (σ.1 29).toNatClampNeg (cor σ) (coJ σ) (σ.2.1 37) z26_.toNatClampNeg (τ24_.2.2.1 43) (τ24_.2.2.1 44) := by rcases f13_ with q | q; (rw [A29_, A27_, A28_]; exact ShR.snoc A30_ (fun i9 h9 => hfit i9 (by rw [← A29_] at h9; omega)) hsh q.2.1 q.2.2.1 q.2.2.2 (by have h6 := nlt64 lc18_; rw [b9a] at h6; exact h6) (by have h6 := le64 lc21_; rw [b9b] at h6; exact h6)); exact absurd q.1 o12
              have o13 : z26_.toInt ≤ (σ.2.1 12 (σ.1 29).toNatClampNeg).toInt := by omega
              have o14 : (12 - z26_.toInt).toNat < n2 := by omega
              exact ih2 τ24_ z26_ _ _ _ (show (12 - z26_.toInt).toNat < n2 from o14) hIτ24_ Xτ24_ o10 A32_ o13 hP hD hS (lv_sub hl [1, 0] rfl)
            · have tc21_ := (show 0 < z20_.toInt from ti_nle rfl rg_11 c21_)
              have lc21_ : ¬ (τ9_.2.2.2 46) ≤ 1000000000 := fun h => c21_ (by rw [ez20_]; exact (lg_cmp_le (τ9_.2.2.2 46) 1000000000).mpr h)
              refine lv_iload_n hx hb dX12_bars_40 rfl (lv_at hl 1 rfl) ?_
              rw [hQ]
              have F43 : τ9_.2.2.1 43 = τ.2.2.1 43 := (hx12_ 43 rg_514).2.2.1
              have F44 : τ9_.2.2.1 44 = τ.2.2.1 44 := (hx12_ 44 rg_515).2.2.1
              have N33_ : ShBad (σ.1 29).toNatClampNeg (cor σ) (coJ σ) (σ.2.1 37) sv.toNatClampNeg (τ9_.2.2.1 43) (τ9_.2.2.1 44) := by rw [F43, F44]; exact ⟨hsh, fun h9 => by rcases f13_ with q | q; (rw [← q.2.2.2] at h9; have h6 := nle64 lc21_; rw [b9b] at h6; omega); exact q.2 h9.1⟩
              exact W.iret (v := sv) hx hb hr (fun t ht hW => ⟨⟨sv, τ9_, rfl, ⟨hI11_, Xτ9_, Or.inr ⟨o2, o4, N33_⟩⟩, wEn_of hP (hK.sub [] rfl) hD ht hW⟩, hS.F ht⟩) hS.2.2 dX12_bars_41
  refine zH (A := A) (ws := mW h ad cl σ) (fun H hP hS => ?_) hP
  have bσ_29 : 0 ≤ (σ.1 29).toInt ∧ (σ.1 29).toInt ≤ 1 := hI.1 29
  refine lv_iconst (v := 0) hx hb dX12_bars_0 rg_0 ?_
  refine lv_istore_n (lv' := [(1, .int 0), (0, .ref h)]) hx hb dX12_bars_1 rfl hl (Nat.le_of_ble_eq_true rfl) rfl (fun ls hl => ?_)
  exact pt_2 _ σ 0 _ _ _ (Nat.lt_succ_self _) hI eqx.rf rg_56 ShR.z (show (0 : Int32).toInt ≤ (σ.2.1 12 (σ.1 29).toNatClampNeg).toInt from by rw [rg_11]; exact hn12.1) hP hD hS (lv_sub hl [1, 0] rfl)

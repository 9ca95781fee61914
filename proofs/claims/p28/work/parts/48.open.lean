theorem dX12_isOpen_0 : decode cX12_isOpen 0 = .ok (.aload_n 0, 1) := by decide +kernel
theorem dX12_isOpen_1 : decode cX12_isOpen 1 = .ok (.iload_n 1, 1) := by decide +kernel
theorem dX12_isOpen_2 : decode cX12_isOpen 2 = .ok (.invokevirtual 423, 3) := by decide +kernel
theorem dX12_isOpen_5 : decode cX12_isOpen 5 = .ok (.ifCond .eq 14, 3) := by decide +kernel
theorem dX12_isOpen_19 : decode cX12_isOpen 19 = .ok (.iconst 0, 1) := by decide +kernel
theorem dX12_isOpen_20 : decode cX12_isOpen 20 = .ok (.ireturn, 1) := by decide +kernel
theorem dX12_isOpen_8 : decode cX12_isOpen 8 = .ok (.aload_n 0, 1) := by decide +kernel
theorem dX12_isOpen_9 : decode cX12_isOpen 9 = .ok (.invokevirtual 426, 3) := by decide +kernel
theorem dX12_isOpen_12 : decode cX12_isOpen 12 = .ok (.ifCond .ge 7, 3) := by decide +kernel
theorem dX12_isOpen_15 : decode cX12_isOpen 15 = .ok (.iconst 1, 1) := by decide +kernel
theorem dX12_isOpen_16 : decode cX12_isOpen 16 = .ok (.goto 4, 3) := by decide +kernel
theorem rg_551 : ∀ q, q ∈ [37] → q ∈ [37, 43, 44, 45, 46] := by decide
theorem rg_552 : 29 ∉ [37] := by decide
theorem rg_553 : ∀ p ∈ [37], ¬ ((11 ≤ p ∧ p ≤ 24) ∨ (33 ≤ p ∧ p ≤ 36)) := by intro p h; simp at h; omega
theorem rg_554 : ∀ p ∈ [37], ¬ (p = 27 ∨ p = 28) := by intro p h; simp at h; omega
theorem rg_555 : 12 ∉ [37] := by decide
theorem rg_556 : ∀ q, 11 ≤ q → q ≤ 22 → q ∉ [37] := by intro q h1 h2 h; simp at h; omega
theorem rg_557 : ∀ q, q ∈ [43, 44, 45, 46] → q ∈ [37, 43, 44, 45, 46] := by decide
def ow_n_isOpen : List Cond := []
def vs_n_isOpen : List Cond := .code yX12_isOpen cX12_isOpen 2 (some .boolean) :: (ow_n_isOpen ++ (([.methodLink RX12 423 yX12_isChoice, .instanceMethod yX12_isChoice, .selects RX12 yX12_isChoice yX12_isChoice, .initialized RX12] : List Cond) ++ (vs_n_isChoiceV ++ (([.methodLink RX12 426 yX12_bars, .instanceMethod yX12_bars, .selects RX12 yX12_bars yX12_bars, .initialized RX12] : List Cond) ++ (vs_n_bars)))))
theorem vg_n_isOpen : vs_n_isOpen.all goodWord = true := by decide +kernel
theorem dd_n_isOpen : yX12_isOpen.cls = RX12 ∧ yX12_isOpen.cls ≠ "java/lang/invoke/MethodHandle" ∧ yX12_isOpen.cls ≠ "java/lang/invoke/VarHandle" ∧ (parseMethodDescriptor yX12_isOpen.desc).map (fun d => d.parameters.length) = some 1 := by decide +kernel
def rm_n_isOpen : Room := { frames := 6, cells := 0, slots := 0, locals := 159 }
theorem gd_n_isOpen_423_n_isChoiceV : GoodIn vs_n_isOpen (wsV RX12 423 RX12 yX12_isChoice vs_n_isChoiceV) := goodIn_app (goodIn_sub (fun w h => (List.mem_cons_of_mem _ (List.mem_append_right _ (List.mem_append_left _ h)))) (by decide +kernel)) (goodIn_sub (fun w h => (List.mem_cons_of_mem _ (List.mem_append_right _ (List.mem_append_right _ (List.mem_append_left _ h))))) vg_n_isChoiceV)
theorem gd_n_isOpen_426_n_bars : GoodIn vs_n_isOpen (wsV RX12 426 RX12 yX12_bars vs_n_bars) := goodIn_app (goodIn_sub (fun w h => (List.mem_cons_of_mem _ (List.mem_append_right _ (List.mem_append_right _ (List.mem_append_right _ (List.mem_append_left _ h)))))) (by decide +kernel)) (goodIn_sub (fun w h => (List.mem_cons_of_mem _ (List.mem_append_right _ (List.mem_append_right _ (List.mem_append_right _ (List.mem_append_right _ h)))))) vg_n_bars)
set_option maxHeartbeats 4000000 in
set_option maxRecDepth 100000 in
theorem n_isOpen (l : Launch) (dC : Nat → ClassId) (dI : Nat → Nat → Nat) (h : Nat) (ad : Nat → Nat) (cl : Nat → ClassId) (sz : Nat) (σ : MS) (x : Int32) (hI : Inv σ) (hR : RelP σ (σ.1 29).toNatClampNeg) (hC : ChR σ) : Met l yX12_isOpen vs_n_isOpen rm_n_isOpen (va_Pc [.ref h, .int x] (wSt dC dI (mW h ad cl σ) (mT cl) sz)) (va_Qi (fun (r : Int32) (τ : MS) => Inv τ ∧ eqx [37, 43, 44, 45, 46] τ σ ∧ ((r.toInt = 1 ∧ Opn σ x (τ.2.1 37) (τ.2.2.1 43) (τ.2.2.1 44)) ∨ (r.toInt = 0 ∧ NoOpen σ x))) (fun (τ : MS) => wEn dC dI (va_A (mW h ad cl σ) sz) (mW h ad cl τ) []) (va_A (mW h ad cl σ) sz)) 0 0 (va_A (mW h ad cl σ) sz) := by
  refine Met.ofW (cc := cX12_isOpen) (maxL := 2) (ret := (some .boolean)) (by decide) rfl ?_
  intro p e s m args below meth c s₁ B hml hv
  obtain ⟨rfl, hsz, hP, hK, hD0, hE⟩ := hv
  have hx := B.exec
  have hb := B.bytes
  have hr := B.returns
  have hts := atoms_spec (ws := vs_n_isOpen) B.pre
  have hown : s.vm.findClass RX12 = some m.cls := findClass_of_methodNamed B.named
  have hlocks := B.notSynchronized
  subst hsz
  have hD := hD0.self (sz := s.heap.size)
  generalize hAe : va_A (mW h ad cl σ) s.heap.size = A at hD ⊢
  have hA : ∀ q : Nat, s.heap.size ≤ q → A q := fun q h => by rw [← hAe]; exact Or.inr h
  have hl := lv_entry ([.ref h, .int x]) (n := 2) (Nat.le_of_ble_eq_true rfl)
  rw [lg_entry_eq]
  generalize (lg_sl ([.ref h, .int x]) ++ List.replicate (2 - (lg_sl ([.ref h, .int x])).length) Slot.unset).toArray = ls at hl ⊢
  have hl : lv_has ls 2 [(0, .ref h), (1, .int x)] := hl
  have ho := fun w (h : w ∈ ow_n_isOpen) => hts w (List.mem_cons_of_mem _ (List.mem_append_left _ h))
  refine zQ (fun Q hQ => ?_)
  refine zH (A := A) (ws := mW h ad cl σ) (fun H hP hS => ?_) hP
  refine lv_aload_n hx hb dX12_isOpen_0 rfl (lv_at hl 0 rfl) ?_
  refine lv_iload_n hx hb dX12_isOpen_1 rfl (lv_at hl 1 rfl) ?_
  refine zy_i (va_runV (As := [.int x]) (rest := []) ⟨hx, hb, hml, hown, hts⟩ (n_isChoiceV l dC dI h ad cl H.size σ x hI) (cwV 1 hts gd_n_isOpen_423_n_isChoiceV rfl rfl rfl dd_n_isChoiceV ⟨Nat.le_of_ble_eq_true rfl, Nat.le_of_ble_eq_true rfl⟩) (preV hP hK hD hE (ci := 12) (q0 := 0) rfl rfl) rfl rfl hl.1 rfl (lv_room (Nat.le_of_ble_eq_true rfl)) dX12_isOpen_2 ⟨Nat.le_of_ble_eq_true rfl, Nat.le_of_ble_eq_true rfl⟩) hD hS hA (fun z2_ τ1_ H locs hq hP hD hS => ?_)
  obtain ⟨hI3_, hx4_, f5_⟩ := hq
  have Xτ1_ : eqx [37, 43, 44, 45, 46] τ1_ σ := eqx.tr hx4_ eqx.rf rg_551
  refine W.widen (k := 0) (n := 0) (Nat.le_of_ble_eq_true rfl) (Nat.le_of_ble_eq_true rfl) ?_
  have E29 : τ1_.1 29 = σ.1 29 := (hx4_ 29 rg_552).1
  have Ecor : cor τ1_ = cor σ := cor_x hx4_ rg_553
  have EJ : coJ τ1_ = coJ σ := coJ_x hx4_ rg_554
  have E12 : τ1_.2.1 12 = σ.2.1 12 := (hx4_ 12 rg_555).2.1
  refine lv_if_eq (tgt := 19) hx hb dX12_isOpen_5 rfl (fun c6_ => ?_) (fun c6_ => ?_)
  · have tc6_ := (show z2_.toInt = 0 from ti_eq rfl rg_11 c6_)
    refine lv_iconst (v := 0) hx hb dX12_isOpen_19 rg_0 ?_
    rw [hQ]
    have o1 : ¬ z2_.toInt = 1 := by omega
    exact W.zret (v := 0) hx hb hr rfl (fun t ht hW => ⟨⟨0, τ1_, rfl, ⟨hI3_, Xτ1_, Or.inr ⟨rg_11, Or.inl (by rcases f5_ with q | q; exact absurd q.1 o1; exact q.2)⟩⟩, wEn_of hP (hK.sub [] rfl) hD ht hW⟩, hS.F ht⟩) hS.2.2 dX12_isOpen_20
  · have tc6_ := (show z2_.toInt ≠ 0 from ti_ne rfl rg_11 c6_)
    refine lv_aload_n hx hb dX12_isOpen_8 rfl (lv_at hl 0 rfl) ?_
    have o2 : ¬ z2_.toInt = 0 := by omega
    have hon : OnR σ x (τ1_.2.1 37) := by rcases f5_ with q | q; exact q.2; exact absurd q.1 o2
    refine zy_i (va_runV (As := []) (rest := []) ⟨hx, hb, hml, hown, hts⟩ (n_bars l dC dI h ad cl H.size τ1_  hI3_ (by rw [E29]; exact RelP.eqs hR (fun p9 h1 h2 => (hx4_ p9 (rg_556 p9 h1 h2)).2.1)) (by rw [E29, Ecor]; exact OnR.fit hI hC hon)) (cwV 0 hts gd_n_isOpen_426_n_bars rfl rfl rfl dd_n_bars ⟨Nat.le_of_ble_eq_true rfl, Nat.le_of_ble_eq_true rfl⟩) (preV hP hK hD hE (ci := 12) (q0 := 0) rfl rfl) rfl rfl hl.1 rfl (lv_room (Nat.le_of_ble_eq_true rfl)) dX12_isOpen_9 ⟨Nat.le_of_ble_eq_true rfl, Nat.le_of_ble_eq_true rfl⟩) hD hS hA (fun z8_ τ7_ H locs hq hP hD hS => ?_)
    obtain ⟨hI9_, hx10_, f11_⟩ := hq
    have Xτ7_ : eqx [37, 43, 44, 45, 46] τ7_ σ := eqx.tr hx10_ Xτ1_ rg_557
    refine W.widen (k := 0) (n := 0) (Nat.le_of_ble_eq_true rfl) (Nat.le_of_ble_eq_true rfl) ?_
    rw [E29, Ecor, EJ, E12] at f11_
    have E37 : τ7_.2.1 37 = τ1_.2.1 37 := (hx10_ 37 rg_544).2.1
    refine lv_if_ge (tgt := 19) hx hb dX12_isOpen_12 rfl (fun c12_ => ?_) (fun c12_ => ?_)
    · have tc12_ := (show 0 ≤ z8_.toInt from ti_le rg_11 rfl c12_)
      refine lv_iconst (v := 0) hx hb dX12_isOpen_19 rg_0 ?_
      rw [hQ]
      have o3 : ¬ z8_.toInt = -1 := by omega
      exact W.zret (v := 0) hx hb hr rfl (fun t ht hW => ⟨⟨0, τ7_, rfl, ⟨hI9_, Xτ7_, Or.inr ⟨rg_11, Or.inr (by rcases f11_ with q | q; exact absurd q.1 o3; exact ⟨_, _, _, _, hon, (by have h8 := ti_cl (x := z8_) rfl q.1; have h7 := ti_cl (x := σ.2.1 12 (σ.1 29).toNatClampNeg) rfl (by have h6 := q.1; have h5 := q.2.1; omega); have h6 := q.2.1; omega), q.2.2⟩)⟩⟩, wEn_of hP (hK.sub [] rfl) hD ht hW⟩, hS.F ht⟩) hS.2.2 dX12_isOpen_20
    · have tc12_ := (show z8_.toInt < 0 from ti_nle rg_11 rfl c12_)
      refine lv_iconst (v := 1) hx hb dX12_isOpen_15 rg_6 ?_
      refine lv_goto (tgt := 20) hx hb dX12_isOpen_16 rfl ?_
      rw [hQ]
      have o4 : ¬ 0 ≤ z8_.toInt := by omega
      exact W.zret (v := 1) hx hb hr rfl (fun t ht hW => ⟨⟨1, τ7_, rfl, ⟨hI9_, Xτ7_, Or.inl ⟨rg_18, (by rw [E37]; exact hon), (by rw [E37]; rcases f11_ with q | q; exact q.2; exact absurd q.1 o4)⟩⟩, wEn_of hP (hK.sub [] rfl) hD ht hW⟩, hS.F ht⟩) hS.2.2 dX12_isOpen_20

theorem dX12_theStep_0 : decode cX12_theStep 0 = .ok (.aload_n 0, 1) := by decide +kernel
theorem dX12_theStep_1 : decode cX12_theStep 1 = .ok (.invokevirtual 224, 3) := by decide +kernel
theorem dX12_theStep_4 : decode cX12_theStep 4 = .ok (.ifCond .ne 5, 3) := by decide +kernel
theorem dX12_theStep_9 : decode cX12_theStep 9 = .ok (.aload_n 0, 1) := by decide +kernel
theorem dX12_theStep_10 : decode cX12_theStep 10 = .ok (.invokevirtual 285, 3) := by decide +kernel
theorem dX12_theStep_13 : decode cX12_theStep 13 = .ok (.istore_n 1, 1) := by decide +kernel
theorem dX12_theStep_14 : decode cX12_theStep 14 = .ok (.aload_n 0, 1) := by decide +kernel
theorem dX12_theStep_15 : decode cX12_theStep 15 = .ok (.getfield 199, 3) := by decide +kernel
theorem dX12_theStep_18 : decode cX12_theStep 18 = .ok (.iconst 2, 1) := by decide +kernel
theorem dX12_theStep_19 : decode cX12_theStep 19 = .ok (.if_icmp .eq 10, 3) := by decide +kernel
theorem dX12_theStep_29 : decode cX12_theStep 29 = .ok (.iload_n 1, 1) := by decide +kernel
theorem dX12_theStep_30 : decode cX12_theStep 30 = .ok (.ifCond .ge 12, 3) := by decide +kernel
theorem dX12_theStep_42 : decode cX12_theStep 42 = .ok (.iload_n 1, 1) := by decide +kernel
theorem dX12_theStep_43 : decode cX12_theStep 43 = .ok (.ireturn, 1) := by decide +kernel
theorem dX12_theStep_33 : decode cX12_theStep 33 = .ok (.aload_n 0, 1) := by decide +kernel
theorem dX12_theStep_34 : decode cX12_theStep 34 = .ok (.iconst 5, 1) := by decide +kernel
theorem dX12_theStep_35 : decode cX12_theStep 35 = .ok (.aload_n 0, 1) := by decide +kernel
theorem dX12_theStep_36 : decode cX12_theStep 36 = .ok (.getfield 192, 3) := by decide +kernel
theorem dX12_theStep_39 : decode cX12_theStep 39 = .ok (.invokevirtual 220, 3) := by decide +kernel
theorem dX12_theStep_22 : decode cX12_theStep 22 = .ok (.aload_n 0, 1) := by decide +kernel
theorem dX12_theStep_23 : decode cX12_theStep 23 = .ok (.invokevirtual 231, 3) := by decide +kernel
theorem dX12_theStep_26 : decode cX12_theStep 26 = .ok (.goto 16, 3) := by decide +kernel
theorem dX12_theStep_7 : decode cX12_theStep 7 = .ok (.iconst 0, 1) := by decide +kernel
theorem dX12_theStep_8 : decode cX12_theStep 8 = .ok (.ireturn, 1) := by decide +kernel
theorem dX12_aStep_0 : decode cX12_aStep 0 = .ok (.aload_n 0, 1) := by decide +kernel
theorem dX12_aStep_1 : decode cX12_aStep 1 = .ok (.invokevirtual 298, 3) := by decide +kernel
theorem dX12_aStep_4 : decode cX12_aStep 4 = .ok (.istore_n 1, 1) := by decide +kernel
theorem dX12_aStep_5 : decode cX12_aStep 5 = .ok (.aload_n 0, 1) := by decide +kernel
theorem dX12_aStep_6 : decode cX12_aStep 6 = .ok (.invokevirtual 224, 3) := by decide +kernel
theorem dX12_aStep_9 : decode cX12_aStep 9 = .ok (.ifCond .eq 7, 3) := by decide +kernel
theorem dX12_aStep_16 : decode cX12_aStep 16 = .ok (.iload_n 1, 1) := by decide +kernel
theorem dX12_aStep_17 : decode cX12_aStep 17 = .ok (.ireturn, 1) := by decide +kernel
theorem dX12_aStep_12 : decode cX12_aStep 12 = .ok (.aload_n 0, 1) := by decide +kernel
theorem dX12_aStep_13 : decode cX12_aStep 13 = .ok (.invokevirtual 228, 3) := by decide +kernel
theorem dX12_aRow_0 : decode cX12_aRow 0 = .ok (.aload_n 0, 1) := by decide +kernel
theorem dX12_aRow_1 : decode cX12_aRow 1 = .ok (.invokevirtual 224, 3) := by decide +kernel
theorem dX12_aRow_4 : decode cX12_aRow 4 = .ok (.ifCond .ne 5, 3) := by decide +kernel
theorem dX12_aRow_9 : decode cX12_aRow 9 = .ok (.aload_n 0, 1) := by decide +kernel
theorem dX12_aRow_10 : decode cX12_aRow 10 = .ok (.invokevirtual 282, 3) := by decide +kernel
theorem dX12_aRow_13 : decode cX12_aRow 13 = .ok (.istore_n 1, 1) := by decide +kernel
theorem dX12_aRow_14 : decode cX12_aRow 14 = .ok (.aload_n 0, 1) := by decide +kernel
theorem dX12_aRow_15 : decode cX12_aRow 15 = .ok (.getfield 199, 3) := by decide +kernel
theorem dX12_aRow_18 : decode cX12_aRow 18 = .ok (.iconst 2, 1) := by decide +kernel
theorem dX12_aRow_19 : decode cX12_aRow 19 = .ok (.if_icmp .eq 10, 3) := by decide +kernel
theorem dX12_aRow_29 : decode cX12_aRow 29 = .ok (.iload_n 1, 1) := by decide +kernel
theorem dX12_aRow_30 : decode cX12_aRow 30 = .ok (.ifCond .ge 12, 3) := by decide +kernel
theorem dX12_aRow_42 : decode cX12_aRow 42 = .ok (.aload_n 0, 1) := by decide +kernel
theorem dX12_aRow_43 : decode cX12_aRow 43 = .ok (.invokevirtual 224, 3) := by decide +kernel
theorem dX12_aRow_46 : decode cX12_aRow 46 = .ok (.ifCond .eq 7, 3) := by decide +kernel
theorem dX12_aRow_53 : decode cX12_aRow 53 = .ok (.iload_n 1, 1) := by decide +kernel
theorem dX12_aRow_54 : decode cX12_aRow 54 = .ok (.ireturn, 1) := by decide +kernel
theorem dX12_aRow_49 : decode cX12_aRow 49 = .ok (.aload_n 0, 1) := by decide +kernel
theorem dX12_aRow_50 : decode cX12_aRow 50 = .ok (.invokevirtual 228, 3) := by decide +kernel
theorem dX12_aRow_33 : decode cX12_aRow 33 = .ok (.aload_n 0, 1) := by decide +kernel
theorem dX12_aRow_34 : decode cX12_aRow 34 = .ok (.iconst 5, 1) := by decide +kernel
theorem dX12_aRow_35 : decode cX12_aRow 35 = .ok (.aload_n 0, 1) := by decide +kernel
theorem dX12_aRow_36 : decode cX12_aRow 36 = .ok (.getfield 192, 3) := by decide +kernel
theorem dX12_aRow_39 : decode cX12_aRow 39 = .ok (.invokevirtual 220, 3) := by decide +kernel
theorem dX12_aRow_22 : decode cX12_aRow 22 = .ok (.aload_n 0, 1) := by decide +kernel
theorem dX12_aRow_23 : decode cX12_aRow 23 = .ok (.invokevirtual 231, 3) := by decide +kernel
theorem dX12_aRow_26 : decode cX12_aRow 26 = .ok (.goto 16, 3) := by decide +kernel
theorem dX12_aRow_7 : decode cX12_aRow 7 = .ok (.iconst 0, 1) := by decide +kernel
theorem dX12_aRow_8 : decode cX12_aRow 8 = .ok (.ireturn, 1) := by decide +kernel

def ow_n_theStep : List Cond := [.fieldLink RX12 199 "NearEnoughModel" "token" "I", .fieldLink RX12 192 "NearEnoughModel" "at" "I"]
def vs_n_theStep : List Cond := .code yX12_theStep cX12_theStep 2 (some .int) :: (ow_n_theStep ++ (([.methodLink RX12 224 yX12_isGood, .instanceMethod yX12_isGood, .selects RX12 yX12_isGood yX12_isGood, .initialized RX12] : List Cond) ++ (vs_n_isGood ++ (([.methodLink RX12 285 yX12_stepNamed, .instanceMethod yX12_stepNamed, .selects RX12 yX12_stepNamed yX12_stepNamed, .initialized RX12] : List Cond) ++ (vs_n_stepNamed ++ (([.methodLink RX12 220 yX12_fails, .instanceMethod yX12_fails, .selects RX12 yX12_fails yX12_fails, .initialized RX12] : List Cond) ++ (vs_n_fails ++ (([.methodLink RX12 231 yX12_wrong, .instanceMethod yX12_wrong, .selects RX12 yX12_wrong yX12_wrong, .initialized RX12] : List Cond) ++ (vs_n_wrong ++ (wsX120))))))))))
theorem vg_n_theStep : vs_n_theStep.all goodWord = true := by decide +kernel
theorem dd_n_theStep : yX12_theStep.cls = RX12 ∧ yX12_theStep.cls ≠ "java/lang/invoke/MethodHandle" ∧ yX12_theStep.cls ≠ "java/lang/invoke/VarHandle" ∧ (parseMethodDescriptor yX12_theStep.desc).map (fun d => d.parameters.length) = some 0 := by decide +kernel
def rm_n_theStep : Room := { frames := 2, cells := 0, slots := 0, locals := 42 }
theorem gd_n_theStep_224_n_isGood : GoodIn vs_n_theStep (wsV RX12 224 RX12 yX12_isGood vs_n_isGood) := goodIn_app (goodIn_sub (fun w h => (List.mem_cons_of_mem _ (List.mem_append_right _ (List.mem_append_left _ h)))) (by decide +kernel)) (goodIn_sub (fun w h => (List.mem_cons_of_mem _ (List.mem_append_right _ (List.mem_append_right _ (List.mem_append_left _ h))))) vg_n_isGood)
theorem gd_n_theStep_285_n_stepNamed : GoodIn vs_n_theStep (wsV RX12 285 RX12 yX12_stepNamed vs_n_stepNamed) := goodIn_app (goodIn_sub (fun w h => (List.mem_cons_of_mem _ (List.mem_append_right _ (List.mem_append_right _ (List.mem_append_right _ (List.mem_append_left _ h)))))) (by decide +kernel)) (goodIn_sub (fun w h => (List.mem_cons_of_mem _ (List.mem_append_right _ (List.mem_append_right _ (List.mem_append_right _ (List.mem_append_right _ (List.mem_append_left _ h))))))) vg_n_stepNamed)
theorem gd_n_theStep_220_n_fails : GoodIn vs_n_theStep (wsV RX12 220 RX12 yX12_fails vs_n_fails) := goodIn_app (goodIn_sub (fun w h => (List.mem_cons_of_mem _ (List.mem_append_right _ (List.mem_append_right _ (List.mem_append_right _ (List.mem_append_right _ (List.mem_append_right _ (List.mem_append_left _ h)))))))) (by decide +kernel)) (goodIn_sub (fun w h => (List.mem_cons_of_mem _ (List.mem_append_right _ (List.mem_append_right _ (List.mem_append_right _ (List.mem_append_right _ (List.mem_append_right _ (List.mem_append_right _ (List.mem_append_left _ h))))))))) vg_n_fails)
theorem gd_n_theStep_231_n_wrong : GoodIn vs_n_theStep (wsV RX12 231 RX12 yX12_wrong vs_n_wrong) := goodIn_app (goodIn_sub (fun w h => (List.mem_cons_of_mem _ (List.mem_append_right _ (List.mem_append_right _ (List.mem_append_right _ (List.mem_append_right _ (List.mem_append_right _ (List.mem_append_right _ (List.mem_append_right _ (List.mem_append_left _ h)))))))))) (by decide +kernel)) (goodIn_sub (fun w h => (List.mem_cons_of_mem _ (List.mem_append_right _ (List.mem_append_right _ (List.mem_append_right _ (List.mem_append_right _ (List.mem_append_right _ (List.mem_append_right _ (List.mem_append_right _ (List.mem_append_right _ (List.mem_append_left _ h))))))))))) vg_n_wrong)
set_option maxHeartbeats 4000000 in
set_option maxRecDepth 100000 in
theorem n_theStep (l : Launch) (dC : Nat → ClassId) (dI : Nat → Nat → Nat) (h : Nat) (ad : Nat → Nat) (cl : Nat → ClassId) (sz : Nat) (σ : MS)  (hI : Inv σ) : Met l yX12_theStep vs_n_theStep rm_n_theStep (va_Pc [.ref h] (wSt dC dI (mW h ad cl σ) (mT cl) sz)) (va_Qi (fun (r : Int32) (τ : MS) => Inv τ ∧ eqx [4, 5] τ σ ∧ -1 ≤ r.toInt ∧ r.toInt ≤ 11 ∧ When τ (0 ≤ r.toInt ∧ r.toInt < (σ.2.1 12 (σ.1 30).toNatClampNeg).toInt) ∧ Mo τ σ) (fun (τ : MS) => wEn dC dI (va_A (mW h ad cl σ) sz) (mW h ad cl τ) []) (va_A (mW h ad cl σ) sz)) 0 0 (va_A (mW h ad cl σ) sz) := by
  refine Met.ofW (cc := cX12_theStep) (maxL := 2) (ret := (some .int)) (by decide) rfl ?_
  intro p e s m args below meth c s₁ B hml hv
  obtain ⟨rfl, hsz, hP, hK, hD0, hE⟩ := hv
  have hx := B.exec
  have hb := B.bytes
  have hr := B.returns
  have hts := atoms_spec (ws := vs_n_theStep) B.pre
  have hown : s.vm.findClass RX12 = some m.cls := findClass_of_methodNamed B.named
  have hlocks := B.notSynchronized
  subst hsz
  have hD := hD0.self (sz := s.heap.size)
  generalize hAe : va_A (mW h ad cl σ) s.heap.size = A at hD ⊢
  have hA : ∀ q : Nat, s.heap.size ≤ q → A q := fun q h => by rw [← hAe]; exact Or.inr h
  have hl := lv_entry ([.ref h]) (n := 2) (Nat.le_of_ble_eq_true rfl)
  rw [lg_entry_eq]
  generalize (lg_sl ([.ref h]) ++ List.replicate (2 - (lg_sl ([.ref h])).length) Slot.unset).toArray = ls at hl ⊢
  have hl : lv_has ls 2 [(0, .ref h)] := hl
  have ho := fun w (h : w ∈ ow_n_theStep) => hts w (List.mem_cons_of_mem _ (List.mem_append_left _ h))
  have hin12 : ∀ w ∈ u_ws RX12 TX12 59, w ∈ vs_n_theStep := fun w h => (List.mem_cons_of_mem _ (List.mem_append_right _ (List.mem_append_right _ (List.mem_append_right _ (List.mem_append_right _ (List.mem_append_right _ (List.mem_append_right _ (List.mem_append_right _ (List.mem_append_right _ (List.mem_append_right _ h))))))))))
  refine zQ (fun Q hQ => ?_)
  refine zH (A := A) (ws := mW h ad cl σ) (fun H hP hS => ?_) hP
  have bσ_4 : 0 ≤ (σ.1 4).toInt ∧ (σ.1 4).toInt ≤ 7 := hI.1 4
  refine lv_aload_n hx hb dX12_theStep_0 rfl (lv_at hl 0 rfl) ?_
  refine zy_i (va_runV (As := []) (rest := []) ⟨hx, hb, hml, hown, hts⟩ (n_isGood l dC dI h ad cl H.size σ  hI) (cwV 0 hts gd_n_theStep_224_n_isGood rfl rfl rfl dd_n_isGood ⟨Nat.le_of_ble_eq_true rfl, Nat.le_of_ble_eq_true rfl⟩) (preV hP hK hD hE (ci := 12) (q0 := 0) rfl rfl) rfl rfl hl.1 rfl (lv_room (Nat.le_of_ble_eq_true rfl)) dX12_theStep_1 ⟨Nat.le_of_ble_eq_true rfl, Nat.le_of_ble_eq_true rfl⟩) hD hS hA (fun z2 τ1 H locs hq hP hD hS => ?_)
  obtain ⟨rfl, f3⟩ := hq
  refine W.widen (k := 0) (n := 0) (Nat.le_of_ble_eq_true rfl) (Nat.le_of_ble_eq_true rfl) ?_
  refine lv_if_ne (tgt := 9) hx hb dX12_theStep_4 rfl (fun c4 => ?_) (fun c4 => ?_)
  · have tc4 := (show z2.toInt ≠ 0 from ti_ne rfl rg_11 c4)
    refine lv_aload_n hx hb dX12_theStep_9 rfl (lv_at hl 0 rfl) ?_
    refine zy_i (va_runV (As := []) (rest := []) ⟨hx, hb, hml, hown, hts⟩ (n_stepNamed l dC dI h ad cl H.size σ  hI) (cwV 0 hts gd_n_theStep_285_n_stepNamed rfl rfl rfl dd_n_stepNamed ⟨Nat.le_of_ble_eq_true rfl, Nat.le_of_ble_eq_true rfl⟩) (preV hP hK hD hE (ci := 12) (q0 := 0) rfl rfl) rfl rfl hl.1 rfl (lv_room (Nat.le_of_ble_eq_true rfl)) dX12_theStep_10 ⟨Nat.le_of_ble_eq_true rfl, Nat.le_of_ble_eq_true rfl⟩) hD hS hA (fun z6 τ5 H locs hq hP hD hS => ?_)
    obtain ⟨rfl, f7, f8, f9⟩ := hq
    refine W.widen (k := 0) (n := 0) (Nat.le_of_ble_eq_true rfl) (Nat.le_of_ble_eq_true rfl) ?_
    refine lv_istore_n (lv' := [(1, .int z6), (0, .ref h)]) hx hb dX12_theStep_13 rfl hl (Nat.le_of_ble_eq_true rfl) rfl (fun ls hl => ?_)
    refine lv_aload_n hx hb dX12_theStep_14 rfl (lv_at hl 1 rfl) ?_
    refine va_get (D := (dC, dI)) (ci := 12) (v := .int (σ.1 8)) (C := RX12) (T := TX12) (N := 59) hx hb hts hin12 hown hK hP 0 rfl rfl 8 (Nat.le_of_ble_eq_true rfl) (ho (.fieldLink RX12 199 "NearEnoughModel" "token" "I") (List.mem_of_getElem? (i := 0) rfl)) (fun _ h9 => h9) rfl dX12_theStep_15 ?_
    have bσ_8 : 0 ≤ (σ.1 8).toInt ∧ (σ.1 8).toInt ≤ 5 := hI.1 8
    refine lv_iconst (v := 2) hx hb dX12_theStep_18 rg_19 ?_
    refine lv_icmp_eq (tgt := 29) hx hb dX12_theStep_19 rfl (fun c10 => ?_) (fun c10 => ?_)
    · have tc10 := (show (σ.1 8).toInt = 2 from ti_eq rfl rg_20 c10)
      refine lv_iload_n hx hb dX12_theStep_29 rfl (lv_at hl 0 rfl) ?_
      refine lv_if_ge (tgt := 42) hx hb dX12_theStep_30 rfl (fun c11 => ?_) (fun c11 => ?_)
      · have tc11 := (show 0 ≤ z6.toInt from ti_le rg_11 rfl c11)
        refine lv_iload_n hx hb dX12_theStep_42 rfl (lv_at hl 0 rfl) ?_
        rw [hQ]
        exact W.iret (v := z6) hx hb hr (fun t ht hW => ⟨⟨z6, σ, rfl, ⟨hI, eqx.rf, (by omega), (by omega), (fun h9 => (by have h8 : (σ.1 4).toInt = 0 := h9; omega)), Mo.rf⟩, wEn_of hP (hK.sub [] rfl) hD ht hW⟩, hS.F ht⟩) hS.2.2 dX12_theStep_43
      · have tc11 := (show z6.toInt < 0 from ti_nle rg_11 rfl c11)
        refine lv_aload_n hx hb dX12_theStep_33 rfl (lv_at hl 1 rfl) ?_
        refine lv_iconst (v := 5) hx hb dX12_theStep_34 rg_14 ?_
        refine lv_aload_n hx hb dX12_theStep_35 rfl (lv_at hl 1 rfl) ?_
        refine va_get (D := (dC, dI)) (ci := 12) (v := .int (σ.1 6)) (C := RX12) (T := TX12) (N := 59) hx hb hts hin12 hown hK hP 0 rfl rfl 6 (Nat.le_of_ble_eq_true rfl) (ho (.fieldLink RX12 192 "NearEnoughModel" "at" "I") (List.mem_of_getElem? (i := 1) rfl)) (fun _ h9 => h9) rfl dX12_theStep_36 ?_
        have bσ_6 : 0 ≤ (σ.1 6).toInt ∧ (σ.1 6).toInt ≤ 1000 := hI.1 6
        have kk12 : (5 : Int32).toInt = 5 := rg_15
        have o1 : 0 ≤ (5 : Int32).toInt := by omega
        have o2 : (5 : Int32).toInt ≤ 7 := by omega
        refine zy_v (va_runV (As := [.int 5, .int (σ.1 6)]) (rest := []) ⟨hx, hb, hml, hown, hts⟩ (n_fails l dC dI h ad cl H.size σ 5 (σ.1 6) hI ⟨o1, o2⟩) (cwV 2 hts gd_n_theStep_220_n_fails rfl rfl rfl dd_n_fails ⟨Nat.le_of_ble_eq_true rfl, Nat.le_of_ble_eq_true rfl⟩) (preV hP hK hD hE (ci := 12) (q0 := 0) rfl rfl) rfl rfl hl.1 rfl (lv_room (Nat.le_of_ble_eq_true rfl)) dX12_theStep_39 ⟨Nat.le_of_ble_eq_true rfl, Nat.le_of_ble_eq_true rfl⟩) hD hS hA (fun τ13 H locs hq hP hD hS => ?_)
        obtain ⟨hI15, hx16, f17, mo18⟩ := hq
        have Xτ13 : eqx [4, 5] τ13 σ := eqx.tr hx16 eqx.rf rg_21
        have Mτ13 : Mo τ13 σ := Mo.tr mo18 (fun h9 => Mo.rf h9)
        refine W.widen (k := 0) (n := 0) (Nat.le_of_ble_eq_true rfl) (Nat.le_of_ble_eq_true rfl) ?_
        refine lv_iload_n hx hb dX12_theStep_42 rfl (lv_at hl 0 rfl) ?_
        rw [hQ]
        exact W.iret (v := z6) hx hb hr (fun t ht hW => ⟨⟨z6, τ13, rfl, ⟨hI15, Xτ13, (by omega), (by omega), (fun h9 => (by have h8 : (τ13.1 4).toInt = 0 := h9; omega)), Mτ13⟩, wEn_of hP (hK.sub [] rfl) hD ht hW⟩, hS.F ht⟩) hS.2.2 dX12_theStep_43
    · have tc10 := (show (σ.1 8).toInt ≠ 2 from ti_ne rfl rg_20 c10)
      refine lv_aload_n hx hb dX12_theStep_22 rfl (lv_at hl 1 rfl) ?_
      refine zy_v (va_runV (As := []) (rest := []) ⟨hx, hb, hml, hown, hts⟩ (n_wrong l dC dI h ad cl H.size σ  hI) (cwV 0 hts gd_n_theStep_231_n_wrong rfl rfl rfl dd_n_wrong ⟨Nat.le_of_ble_eq_true rfl, Nat.le_of_ble_eq_true rfl⟩) (preV hP hK hD hE (ci := 12) (q0 := 0) rfl rfl) rfl rfl hl.1 rfl (lv_room (Nat.le_of_ble_eq_true rfl)) dX12_theStep_23 ⟨Nat.le_of_ble_eq_true rfl, Nat.le_of_ble_eq_true rfl⟩) hD hS hA (fun τ19 H locs hq hP hD hS => ?_)
      obtain ⟨hI21, hx22, f23, mo24⟩ := hq
      have Xτ19 : eqx [4, 5] τ19 σ := eqx.tr hx22 eqx.rf rg_21
      have Mτ19 : Mo τ19 σ := Mo.tr mo24 (fun h9 => Mo.rf h9)
      refine W.widen (k := 0) (n := 0) (Nat.le_of_ble_eq_true rfl) (Nat.le_of_ble_eq_true rfl) ?_
      refine lv_goto (tgt := 42) hx hb dX12_theStep_26 rfl ?_
      refine lv_iload_n hx hb dX12_theStep_42 rfl (lv_at hl 0 rfl) ?_
      rw [hQ]
      exact W.iret (v := z6) hx hb hr (fun t ht hW => ⟨⟨z6, τ19, rfl, ⟨hI21, Xτ19, (by omega), (by omega), (fun h9 => (by have h8 : (τ19.1 4).toInt = 0 := h9; omega)), Mτ19⟩, wEn_of hP (hK.sub [] rfl) hD ht hW⟩, hS.F ht⟩) hS.2.2 dX12_theStep_43
  · have tc4 := (show z2.toInt = 0 from ti_eq rfl rg_11 c4)
    refine lv_iconst (v := 0) hx hb dX12_theStep_7 rg_0 ?_
    rw [hQ]
    exact W.iret (v := 0) hx hb hr (fun t ht hW => ⟨⟨0, σ, rfl, ⟨hI, eqx.rf, (by have k9 : (0 : Int32).toInt = 0 := (by decide); omega), (by have k9 : (0 : Int32).toInt = 0 := (by decide); omega), (fun h9 => (by have h8 : (σ.1 4).toInt = 0 := h9; have k9 : (0 : Int32).toInt = 0 := (by decide); omega)), Mo.rf⟩, wEn_of hP (hK.sub [] rfl) hD ht hW⟩, hS.F ht⟩) hS.2.2 dX12_theStep_8
def ow_n_aStep : List Cond := []
def vs_n_aStep : List Cond := .code yX12_aStep cX12_aStep 2 (some .int) :: (ow_n_aStep ++ (([.methodLink RX12 298 yX12_theStep, .instanceMethod yX12_theStep, .selects RX12 yX12_theStep yX12_theStep, .initialized RX12] : List Cond) ++ (vs_n_theStep ++ (([.methodLink RX12 224 yX12_isGood, .instanceMethod yX12_isGood, .selects RX12 yX12_isGood yX12_isGood, .initialized RX12] : List Cond) ++ (vs_n_isGood ++ (([.methodLink RX12 228 yX12_next, .instanceMethod yX12_next, .selects RX12 yX12_next yX12_next, .initialized RX12] : List Cond) ++ (vs_n_next)))))))
theorem vg_n_aStep : vs_n_aStep.all goodWord = true := by decide +kernel
theorem dd_n_aStep : yX12_aStep.cls = RX12 ∧ yX12_aStep.cls ≠ "java/lang/invoke/MethodHandle" ∧ yX12_aStep.cls ≠ "java/lang/invoke/VarHandle" ∧ (parseMethodDescriptor yX12_aStep.desc).map (fun d => d.parameters.length) = some 0 := by decide +kernel
def rm_n_aStep : Room := { frames := 3, cells := 0, slots := 0, locals := 63 }
theorem gd_n_aStep_298_n_theStep : GoodIn vs_n_aStep (wsV RX12 298 RX12 yX12_theStep vs_n_theStep) := goodIn_app (goodIn_sub (fun w h => (List.mem_cons_of_mem _ (List.mem_append_right _ (List.mem_append_left _ h)))) (by decide +kernel)) (goodIn_sub (fun w h => (List.mem_cons_of_mem _ (List.mem_append_right _ (List.mem_append_right _ (List.mem_append_left _ h))))) vg_n_theStep)
theorem gd_n_aStep_224_n_isGood : GoodIn vs_n_aStep (wsV RX12 224 RX12 yX12_isGood vs_n_isGood) := goodIn_app (goodIn_sub (fun w h => (List.mem_cons_of_mem _ (List.mem_append_right _ (List.mem_append_right _ (List.mem_append_right _ (List.mem_append_left _ h)))))) (by decide +kernel)) (goodIn_sub (fun w h => (List.mem_cons_of_mem _ (List.mem_append_right _ (List.mem_append_right _ (List.mem_append_right _ (List.mem_append_right _ (List.mem_append_left _ h))))))) vg_n_isGood)
theorem gd_n_aStep_228_n_next : GoodIn vs_n_aStep (wsV RX12 228 RX12 yX12_next vs_n_next) := goodIn_app (goodIn_sub (fun w h => (List.mem_cons_of_mem _ (List.mem_append_right _ (List.mem_append_right _ (List.mem_append_right _ (List.mem_append_right _ (List.mem_append_right _ (List.mem_append_left _ h)))))))) (by decide +kernel)) (goodIn_sub (fun w h => (List.mem_cons_of_mem _ (List.mem_append_right _ (List.mem_append_right _ (List.mem_append_right _ (List.mem_append_right _ (List.mem_append_right _ (List.mem_append_right _ h)))))))) vg_n_next)
set_option maxHeartbeats 4000000 in
set_option maxRecDepth 100000 in
theorem n_aStep (l : Launch) (dC : Nat → ClassId) (dI : Nat → Nat → Nat) (h : Nat) (ad : Nat → Nat) (cl : Nat → ClassId) (sz : Nat) (σ : MS)  (hI : Inv σ) (hes : Es σ) : Met l yX12_aStep vs_n_aStep rm_n_aStep (va_Pc [.ref h] (wSt dC dI (mW h ad cl σ) (mT cl) sz)) (va_Qi (fun (r : Int32) (τ : MS) => Inv τ ∧ eqx [6, 7, 8, 9, 10, 4, 5] τ σ ∧ -1 ≤ r.toInt ∧ r.toInt ≤ 11 ∧ When τ (0 ≤ r.toInt ∧ r.toInt < (σ.2.1 12 (σ.1 30).toNatClampNeg).toInt) ∧ Mo τ σ ∧ Lx τ σ) (fun (τ : MS) => wEn dC dI (va_A (mW h ad cl σ) sz) (mW h ad cl τ) []) (va_A (mW h ad cl σ) sz)) 0 0 (va_A (mW h ad cl σ) sz) := by
  refine Met.ofW (cc := cX12_aStep) (maxL := 2) (ret := (some .int)) (by decide) rfl ?_
  intro p e s m args below meth c s₁ B hml hv
  obtain ⟨rfl, hsz, hP, hK, hD0, hE⟩ := hv
  have hx := B.exec
  have hb := B.bytes
  have hr := B.returns
  have hts := atoms_spec (ws := vs_n_aStep) B.pre
  have hown : s.vm.findClass RX12 = some m.cls := findClass_of_methodNamed B.named
  have hlocks := B.notSynchronized
  subst hsz
  have hD := hD0.self (sz := s.heap.size)
  generalize hAe : va_A (mW h ad cl σ) s.heap.size = A at hD ⊢
  have hA : ∀ q : Nat, s.heap.size ≤ q → A q := fun q h => by rw [← hAe]; exact Or.inr h
  have hl := lv_entry ([.ref h]) (n := 2) (Nat.le_of_ble_eq_true rfl)
  rw [lg_entry_eq]
  generalize (lg_sl ([.ref h]) ++ List.replicate (2 - (lg_sl ([.ref h])).length) Slot.unset).toArray = ls at hl ⊢
  have hl : lv_has ls 2 [(0, .ref h)] := hl
  have ho := fun w (h : w ∈ ow_n_aStep) => hts w (List.mem_cons_of_mem _ (List.mem_append_left _ h))
  refine zQ (fun Q hQ => ?_)
  refine zH (A := A) (ws := mW h ad cl σ) (fun H hP hS => ?_) hP
  have bσ_4 : 0 ≤ (σ.1 4).toInt ∧ (σ.1 4).toInt ≤ 7 := hI.1 4
  refine lv_aload_n hx hb dX12_aStep_0 rfl (lv_at hl 0 rfl) ?_
  refine zy_i (va_runV (As := []) (rest := []) ⟨hx, hb, hml, hown, hts⟩ (n_theStep l dC dI h ad cl H.size σ  hI) (cwV 0 hts gd_n_aStep_298_n_theStep rfl rfl rfl dd_n_theStep ⟨Nat.le_of_ble_eq_true rfl, Nat.le_of_ble_eq_true rfl⟩) (preV hP hK hD hE (ci := 12) (q0 := 0) rfl rfl) rfl rfl hl.1 rfl (lv_room (Nat.le_of_ble_eq_true rfl)) dX12_aStep_1 ⟨Nat.le_of_ble_eq_true rfl, Nat.le_of_ble_eq_true rfl⟩) hD hS hA (fun z2 τ1 H locs hq hP hD hS => ?_)
  obtain ⟨hI3, hx4, f5, f6, f7, mo8⟩ := hq
  have Xτ1 : eqx [6, 7, 8, 9, 10, 4, 5] τ1 σ := eqx.tr hx4 eqx.rf rg_46
  have Mτ1 : Mo τ1 σ := Mo.tr mo8 (fun h9 => Mo.rf h9)
  have Lτ1 : Lx τ1 σ := Lx.tr (Lx.of hx4 (Lx.es (Lx.rf hes)) rg_47 rg_48 rg_49) (Lx.rf hes)
  refine W.widen (k := 0) (n := 0) (Nat.le_of_ble_eq_true rfl) (Nat.le_of_ble_eq_true rfl) ?_
  refine lv_istore_n (lv' := [(1, .int z2), (0, .ref h)]) hx hb dX12_aStep_4 rfl hl (Nat.le_of_ble_eq_true rfl) rfl (fun ls hl => ?_)
  refine lv_aload_n hx hb dX12_aStep_5 rfl (lv_at hl 1 rfl) ?_
  refine zy_i (va_runV (As := []) (rest := []) ⟨hx, hb, hml, hown, hts⟩ (n_isGood l dC dI h ad cl H.size τ1  hI3) (cwV 0 hts gd_n_aStep_224_n_isGood rfl rfl rfl dd_n_isGood ⟨Nat.le_of_ble_eq_true rfl, Nat.le_of_ble_eq_true rfl⟩) (preV hP hK hD hE (ci := 12) (q0 := 0) rfl rfl) rfl rfl hl.1 rfl (lv_room (Nat.le_of_ble_eq_true rfl)) dX12_aStep_6 ⟨Nat.le_of_ble_eq_true rfl, Nat.le_of_ble_eq_true rfl⟩) hD hS hA (fun z10 τ9 H locs hq hP hD hS => ?_)
  obtain ⟨rfl, f11⟩ := hq
  refine W.widen (k := 0) (n := 0) (Nat.le_of_ble_eq_true rfl) (Nat.le_of_ble_eq_true rfl) ?_
  refine lv_if_eq (tgt := 16) hx hb dX12_aStep_9 rfl (fun c12 => ?_) (fun c12 => ?_)
  · have tc12 := (show z10.toInt = 0 from ti_eq rfl rg_11 c12)
    refine lv_iload_n hx hb dX12_aStep_16 rfl (lv_at hl 0 rfl) ?_
    rw [hQ]
    exact W.iret (v := z2) hx hb hr (fun t ht hW => ⟨⟨z2, τ1, rfl, ⟨hI3, Xτ1, (by omega), (by omega), (fun h9 => f7 (Mo.rf h9)), Mτ1, Lτ1⟩, wEn_of hP (hK.sub [] rfl) hD ht hW⟩, hS.F ht⟩) hS.2.2 dX12_aStep_17
  · have tc12 := (show z10.toInt ≠ 0 from ti_ne rfl rg_11 c12)
    refine lv_aload_n hx hb dX12_aStep_12 rfl (lv_at hl 1 rfl) ?_
    refine zy_v (va_runV (As := []) (rest := []) ⟨hx, hb, hml, hown, hts⟩ (n_next l dC dI h ad cl H.size τ1  hI3 (Lx.es Lτ1)) (cwV 0 hts gd_n_aStep_228_n_next rfl rfl rfl dd_n_next ⟨Nat.le_of_ble_eq_true rfl, Nat.le_of_ble_eq_true rfl⟩) (preV hP hK hD hE (ci := 12) (q0 := 0) rfl rfl) rfl rfl hl.1 rfl (lv_room (Nat.le_of_ble_eq_true rfl)) dX12_aStep_13 ⟨Nat.le_of_ble_eq_true rfl, Nat.le_of_ble_eq_true rfl⟩) hD hS hA (fun τ13 H locs hq hP hD hS => ?_)
    obtain ⟨hI15, hx16, f17, lx18⟩ := hq
    have Xτ13 : eqx [6, 7, 8, 9, 10, 4, 5] τ13 σ := eqx.tr hx16 Xτ1 rg_50
    have Mτ13 : Mo τ13 σ := Mo.tr (Mo.of hx16 rg_51) (fun h9 => Mτ1 h9)
    have Lτ13 : Lx τ13 σ := Lx.tr lx18 Lτ1
    have qq19 : (τ13.1 4).toInt = ((τ1.1 4) : Int32).toInt := congrArg Int32.toInt ((show τ13.1 4 = (τ1.1 4) from ((hx16 4 rg_51).1).trans rfl))
    refine W.widen (k := 0) (n := 0) (Nat.le_of_ble_eq_true rfl) (Nat.le_of_ble_eq_true rfl) ?_
    refine lv_iload_n hx hb dX12_aStep_16 rfl (lv_at hl 0 rfl) ?_
    rw [hQ]
    have qq20 : (τ13.1 4).toInt = ((τ1.1 4) : Int32).toInt := congrArg Int32.toInt ((show τ13.1 4 = (τ1.1 4) from ((hx16 4 rg_51).1).trans rfl))
    exact W.iret (v := z2) hx hb hr (fun t ht hW => ⟨⟨z2, τ13, rfl, ⟨hI15, Xτ13, (by omega), (by omega), (fun h9 => f7 ((Mo.tr (Mo.of hx16 rg_51) (fun h9 => Mo.rf h9)) h9)), Mτ13, Lτ13⟩, wEn_of hP (hK.sub [] rfl) hD ht hW⟩, hS.F ht⟩) hS.2.2 dX12_aStep_17
def ow_n_aRow : List Cond := [.fieldLink RX12 199 "NearEnoughModel" "token" "I", .fieldLink RX12 192 "NearEnoughModel" "at" "I"]
def vs_n_aRow : List Cond := .code yX12_aRow cX12_aRow 2 (some .int) :: (ow_n_aRow ++ (([.methodLink RX12 224 yX12_isGood, .instanceMethod yX12_isGood, .selects RX12 yX12_isGood yX12_isGood, .initialized RX12] : List Cond) ++ (vs_n_isGood ++ (([.methodLink RX12 282 yX12_rowNamed, .instanceMethod yX12_rowNamed, .selects RX12 yX12_rowNamed yX12_rowNamed, .initialized RX12] : List Cond) ++ (vs_n_rowNamed ++ (([.methodLink RX12 228 yX12_next, .instanceMethod yX12_next, .selects RX12 yX12_next yX12_next, .initialized RX12] : List Cond) ++ (vs_n_next ++ (([.methodLink RX12 220 yX12_fails, .instanceMethod yX12_fails, .selects RX12 yX12_fails yX12_fails, .initialized RX12] : List Cond) ++ (vs_n_fails ++ (([.methodLink RX12 231 yX12_wrong, .instanceMethod yX12_wrong, .selects RX12 yX12_wrong yX12_wrong, .initialized RX12] : List Cond) ++ (vs_n_wrong ++ (wsX120))))))))))))
theorem vg_n_aRow : vs_n_aRow.all goodWord = true := by decide +kernel
theorem dd_n_aRow : yX12_aRow.cls = RX12 ∧ yX12_aRow.cls ≠ "java/lang/invoke/MethodHandle" ∧ yX12_aRow.cls ≠ "java/lang/invoke/VarHandle" ∧ (parseMethodDescriptor yX12_aRow.desc).map (fun d => d.parameters.length) = some 0 := by decide +kernel
def rm_n_aRow : Room := { frames := 2, cells := 0, slots := 0, locals := 44 }
theorem gd_n_aRow_224_n_isGood : GoodIn vs_n_aRow (wsV RX12 224 RX12 yX12_isGood vs_n_isGood) := goodIn_app (goodIn_sub (fun w h => (List.mem_cons_of_mem _ (List.mem_append_right _ (List.mem_append_left _ h)))) (by decide +kernel)) (goodIn_sub (fun w h => (List.mem_cons_of_mem _ (List.mem_append_right _ (List.mem_append_right _ (List.mem_append_left _ h))))) vg_n_isGood)
theorem gd_n_aRow_282_n_rowNamed : GoodIn vs_n_aRow (wsV RX12 282 RX12 yX12_rowNamed vs_n_rowNamed) := goodIn_app (goodIn_sub (fun w h => (List.mem_cons_of_mem _ (List.mem_append_right _ (List.mem_append_right _ (List.mem_append_right _ (List.mem_append_left _ h)))))) (by decide +kernel)) (goodIn_sub (fun w h => (List.mem_cons_of_mem _ (List.mem_append_right _ (List.mem_append_right _ (List.mem_append_right _ (List.mem_append_right _ (List.mem_append_left _ h))))))) vg_n_rowNamed)
theorem gd_n_aRow_228_n_next : GoodIn vs_n_aRow (wsV RX12 228 RX12 yX12_next vs_n_next) := goodIn_app (goodIn_sub (fun w h => (List.mem_cons_of_mem _ (List.mem_append_right _ (List.mem_append_right _ (List.mem_append_right _ (List.mem_append_right _ (List.mem_append_right _ (List.mem_append_left _ h)))))))) (by decide +kernel)) (goodIn_sub (fun w h => (List.mem_cons_of_mem _ (List.mem_append_right _ (List.mem_append_right _ (List.mem_append_right _ (List.mem_append_right _ (List.mem_append_right _ (List.mem_append_right _ (List.mem_append_left _ h))))))))) vg_n_next)
theorem gd_n_aRow_220_n_fails : GoodIn vs_n_aRow (wsV RX12 220 RX12 yX12_fails vs_n_fails) := goodIn_app (goodIn_sub (fun w h => (List.mem_cons_of_mem _ (List.mem_append_right _ (List.mem_append_right _ (List.mem_append_right _ (List.mem_append_right _ (List.mem_append_right _ (List.mem_append_right _ (List.mem_append_right _ (List.mem_append_left _ h)))))))))) (by decide +kernel)) (goodIn_sub (fun w h => (List.mem_cons_of_mem _ (List.mem_append_right _ (List.mem_append_right _ (List.mem_append_right _ (List.mem_append_right _ (List.mem_append_right _ (List.mem_append_right _ (List.mem_append_right _ (List.mem_append_right _ (List.mem_append_left _ h))))))))))) vg_n_fails)
theorem gd_n_aRow_231_n_wrong : GoodIn vs_n_aRow (wsV RX12 231 RX12 yX12_wrong vs_n_wrong) := goodIn_app (goodIn_sub (fun w h => (List.mem_cons_of_mem _ (List.mem_append_right _ (List.mem_append_right _ (List.mem_append_right _ (List.mem_append_right _ (List.mem_append_right _ (List.mem_append_right _ (List.mem_append_right _ (List.mem_append_right _ (List.mem_append_right _ (List.mem_append_left _ h)))))))))))) (by decide +kernel)) (goodIn_sub (fun w h => (List.mem_cons_of_mem _ (List.mem_append_right _ (List.mem_append_right _ (List.mem_append_right _ (List.mem_append_right _ (List.mem_append_right _ (List.mem_append_right _ (List.mem_append_right _ (List.mem_append_right _ (List.mem_append_right _ (List.mem_append_right _ (List.mem_append_left _ h))))))))))))) vg_n_wrong)
set_option maxHeartbeats 4000000 in
set_option maxRecDepth 100000 in
theorem n_aRow (l : Launch) (dC : Nat → ClassId) (dI : Nat → Nat → Nat) (h : Nat) (ad : Nat → Nat) (cl : Nat → ClassId) (sz : Nat) (σ : MS)  (hI : Inv σ) (hes : Es σ) : Met l yX12_aRow vs_n_aRow rm_n_aRow (va_Pc [.ref h] (wSt dC dI (mW h ad cl σ) (mT cl) sz)) (va_Qi (fun (r : Int32) (τ : MS) => Inv τ ∧ eqx [6, 7, 8, 9, 10, 4, 5] τ σ ∧ -1 ≤ r.toInt ∧ r.toInt ≤ 1 ∧ When τ (0 ≤ r.toInt ∧ r.toInt < (σ.2.1 11 (σ.1 30).toNatClampNeg).toInt) ∧ Mo τ σ ∧ Lx τ σ) (fun (τ : MS) => wEn dC dI (va_A (mW h ad cl σ) sz) (mW h ad cl τ) []) (va_A (mW h ad cl σ) sz)) 0 0 (va_A (mW h ad cl σ) sz) := by
  refine Met.ofW (cc := cX12_aRow) (maxL := 2) (ret := (some .int)) (by decide) rfl ?_
  intro p e s m args below meth c s₁ B hml hv
  obtain ⟨rfl, hsz, hP, hK, hD0, hE⟩ := hv
  have hx := B.exec
  have hb := B.bytes
  have hr := B.returns
  have hts := atoms_spec (ws := vs_n_aRow) B.pre
  have hown : s.vm.findClass RX12 = some m.cls := findClass_of_methodNamed B.named
  have hlocks := B.notSynchronized
  subst hsz
  have hD := hD0.self (sz := s.heap.size)
  generalize hAe : va_A (mW h ad cl σ) s.heap.size = A at hD ⊢
  have hA : ∀ q : Nat, s.heap.size ≤ q → A q := fun q h => by rw [← hAe]; exact Or.inr h
  have hl := lv_entry ([.ref h]) (n := 2) (Nat.le_of_ble_eq_true rfl)
  rw [lg_entry_eq]
  generalize (lg_sl ([.ref h]) ++ List.replicate (2 - (lg_sl ([.ref h])).length) Slot.unset).toArray = ls at hl ⊢
  have hl : lv_has ls 2 [(0, .ref h)] := hl
  have ho := fun w (h : w ∈ ow_n_aRow) => hts w (List.mem_cons_of_mem _ (List.mem_append_left _ h))
  have hin12 : ∀ w ∈ u_ws RX12 TX12 59, w ∈ vs_n_aRow := fun w h => (List.mem_cons_of_mem _ (List.mem_append_right _ (List.mem_append_right _ (List.mem_append_right _ (List.mem_append_right _ (List.mem_append_right _ (List.mem_append_right _ (List.mem_append_right _ (List.mem_append_right _ (List.mem_append_right _ (List.mem_append_right _ (List.mem_append_right _ h))))))))))))
  refine zQ (fun Q hQ => ?_)
  refine zH (A := A) (ws := mW h ad cl σ) (fun H hP hS => ?_) hP
  have bσ_4 : 0 ≤ (σ.1 4).toInt ∧ (σ.1 4).toInt ≤ 7 := hI.1 4
  refine lv_aload_n hx hb dX12_aRow_0 rfl (lv_at hl 0 rfl) ?_
  refine zy_i (va_runV (As := []) (rest := []) ⟨hx, hb, hml, hown, hts⟩ (n_isGood l dC dI h ad cl H.size σ  hI) (cwV 0 hts gd_n_aRow_224_n_isGood rfl rfl rfl dd_n_isGood ⟨Nat.le_of_ble_eq_true rfl, Nat.le_of_ble_eq_true rfl⟩) (preV hP hK hD hE (ci := 12) (q0 := 0) rfl rfl) rfl rfl hl.1 rfl (lv_room (Nat.le_of_ble_eq_true rfl)) dX12_aRow_1 ⟨Nat.le_of_ble_eq_true rfl, Nat.le_of_ble_eq_true rfl⟩) hD hS hA (fun z2 τ1 H locs hq hP hD hS => ?_)
  obtain ⟨rfl, f3⟩ := hq
  refine W.widen (k := 0) (n := 0) (Nat.le_of_ble_eq_true rfl) (Nat.le_of_ble_eq_true rfl) ?_
  refine lv_if_ne (tgt := 9) hx hb dX12_aRow_4 rfl (fun c4 => ?_) (fun c4 => ?_)
  · have tc4 := (show z2.toInt ≠ 0 from ti_ne rfl rg_11 c4)
    refine lv_aload_n hx hb dX12_aRow_9 rfl (lv_at hl 0 rfl) ?_
    refine zy_i (va_runV (As := []) (rest := []) ⟨hx, hb, hml, hown, hts⟩ (n_rowNamed l dC dI h ad cl H.size σ  hI) (cwV 0 hts gd_n_aRow_282_n_rowNamed rfl rfl rfl dd_n_rowNamed ⟨Nat.le_of_ble_eq_true rfl, Nat.le_of_ble_eq_true rfl⟩) (preV hP hK hD hE (ci := 12) (q0 := 0) rfl rfl) rfl rfl hl.1 rfl (lv_room (Nat.le_of_ble_eq_true rfl)) dX12_aRow_10 ⟨Nat.le_of_ble_eq_true rfl, Nat.le_of_ble_eq_true rfl⟩) hD hS hA (fun z6 τ5 H locs hq hP hD hS => ?_)
    obtain ⟨rfl, f7, f8, f9⟩ := hq
    refine W.widen (k := 0) (n := 0) (Nat.le_of_ble_eq_true rfl) (Nat.le_of_ble_eq_true rfl) ?_
    refine lv_istore_n (lv' := [(1, .int z6), (0, .ref h)]) hx hb dX12_aRow_13 rfl hl (Nat.le_of_ble_eq_true rfl) rfl (fun ls hl => ?_)
    refine lv_aload_n hx hb dX12_aRow_14 rfl (lv_at hl 1 rfl) ?_
    refine va_get (D := (dC, dI)) (ci := 12) (v := .int (σ.1 8)) (C := RX12) (T := TX12) (N := 59) hx hb hts hin12 hown hK hP 0 rfl rfl 8 (Nat.le_of_ble_eq_true rfl) (ho (.fieldLink RX12 199 "NearEnoughModel" "token" "I") (List.mem_of_getElem? (i := 0) rfl)) (fun _ h9 => h9) rfl dX12_aRow_15 ?_
    have bσ_8 : 0 ≤ (σ.1 8).toInt ∧ (σ.1 8).toInt ≤ 5 := hI.1 8
    refine lv_iconst (v := 2) hx hb dX12_aRow_18 rg_19 ?_
    refine lv_icmp_eq (tgt := 29) hx hb dX12_aRow_19 rfl (fun c10 => ?_) (fun c10 => ?_)
    · have tc10 := (show (σ.1 8).toInt = 2 from ti_eq rfl rg_20 c10)
      refine lv_iload_n hx hb dX12_aRow_29 rfl (lv_at hl 0 rfl) ?_
      refine lv_if_ge (tgt := 42) hx hb dX12_aRow_30 rfl (fun c11 => ?_) (fun c11 => ?_)
      · have tc11 := (show 0 ≤ z6.toInt from ti_le rg_11 rfl c11)
        refine lv_aload_n hx hb dX12_aRow_42 rfl (lv_at hl 1 rfl) ?_
        refine zy_i (va_runV (As := []) (rest := []) ⟨hx, hb, hml, hown, hts⟩ (n_isGood l dC dI h ad cl H.size σ  hI) (cwV 0 hts gd_n_aRow_224_n_isGood rfl rfl rfl dd_n_isGood ⟨Nat.le_of_ble_eq_true rfl, Nat.le_of_ble_eq_true rfl⟩) (preV hP hK hD hE (ci := 12) (q0 := 0) rfl rfl) rfl rfl hl.1 rfl (lv_room (Nat.le_of_ble_eq_true rfl)) dX12_aRow_43 ⟨Nat.le_of_ble_eq_true rfl, Nat.le_of_ble_eq_true rfl⟩) hD hS hA (fun z13 τ12 H locs hq hP hD hS => ?_)
        obtain ⟨rfl, f14⟩ := hq
        refine W.widen (k := 0) (n := 0) (Nat.le_of_ble_eq_true rfl) (Nat.le_of_ble_eq_true rfl) ?_
        refine lv_if_eq (tgt := 53) hx hb dX12_aRow_46 rfl (fun c15 => ?_) (fun c15 => ?_)
        · have tc15 := (show z13.toInt = 0 from ti_eq rfl rg_11 c15)
          refine lv_iload_n hx hb dX12_aRow_53 rfl (lv_at hl 0 rfl) ?_
          rw [hQ]
          exact W.iret (v := z6) hx hb hr (fun t ht hW => ⟨⟨z6, σ, rfl, ⟨hI, eqx.rf, (by omega), (by omega), (fun h9 => (by have h8 : (σ.1 4).toInt = 0 := h9; omega)), Mo.rf, (Lx.rf hes)⟩, wEn_of hP (hK.sub [] rfl) hD ht hW⟩, hS.F ht⟩) hS.2.2 dX12_aRow_54
        · have tc15 := (show z13.toInt ≠ 0 from ti_ne rfl rg_11 c15)
          refine lv_aload_n hx hb dX12_aRow_49 rfl (lv_at hl 1 rfl) ?_
          refine zy_v (va_runV (As := []) (rest := []) ⟨hx, hb, hml, hown, hts⟩ (n_next l dC dI h ad cl H.size σ  hI (Lx.es (Lx.rf hes))) (cwV 0 hts gd_n_aRow_228_n_next rfl rfl rfl dd_n_next ⟨Nat.le_of_ble_eq_true rfl, Nat.le_of_ble_eq_true rfl⟩) (preV hP hK hD hE (ci := 12) (q0 := 0) rfl rfl) rfl rfl hl.1 rfl (lv_room (Nat.le_of_ble_eq_true rfl)) dX12_aRow_50 ⟨Nat.le_of_ble_eq_true rfl, Nat.le_of_ble_eq_true rfl⟩) hD hS hA (fun τ16 H locs hq hP hD hS => ?_)
          obtain ⟨hI18, hx19, f20, lx21⟩ := hq
          have Xτ16 : eqx [6, 7, 8, 9, 10, 4, 5] τ16 σ := eqx.tr hx19 eqx.rf rg_50
          have Mτ16 : Mo τ16 σ := Mo.tr (Mo.of hx19 rg_51) (fun h9 => Mo.rf h9)
          have Lτ16 : Lx τ16 σ := Lx.tr lx21 (Lx.rf hes)
          have qq22 : (τ16.1 4).toInt = ((σ.1 4) : Int32).toInt := congrArg Int32.toInt ((show τ16.1 4 = (σ.1 4) from ((hx19 4 rg_51).1).trans rfl))
          refine W.widen (k := 0) (n := 0) (Nat.le_of_ble_eq_true rfl) (Nat.le_of_ble_eq_true rfl) ?_
          refine lv_iload_n hx hb dX12_aRow_53 rfl (lv_at hl 0 rfl) ?_
          rw [hQ]
          have qq23 : (τ16.1 4).toInt = ((σ.1 4) : Int32).toInt := congrArg Int32.toInt ((show τ16.1 4 = (σ.1 4) from ((hx19 4 rg_51).1).trans rfl))
          exact W.iret (v := z6) hx hb hr (fun t ht hW => ⟨⟨z6, τ16, rfl, ⟨hI18, Xτ16, (by omega), (by omega), (fun h9 => (by have h8 : (τ16.1 4).toInt = 0 := h9; omega)), Mτ16, Lτ16⟩, wEn_of hP (hK.sub [] rfl) hD ht hW⟩, hS.F ht⟩) hS.2.2 dX12_aRow_54
      · have tc11 := (show z6.toInt < 0 from ti_nle rg_11 rfl c11)
        refine lv_aload_n hx hb dX12_aRow_33 rfl (lv_at hl 1 rfl) ?_
        refine lv_iconst (v := 5) hx hb dX12_aRow_34 rg_14 ?_
        refine lv_aload_n hx hb dX12_aRow_35 rfl (lv_at hl 1 rfl) ?_
        refine va_get (D := (dC, dI)) (ci := 12) (v := .int (σ.1 6)) (C := RX12) (T := TX12) (N := 59) hx hb hts hin12 hown hK hP 0 rfl rfl 6 (Nat.le_of_ble_eq_true rfl) (ho (.fieldLink RX12 192 "NearEnoughModel" "at" "I") (List.mem_of_getElem? (i := 1) rfl)) (fun _ h9 => h9) rfl dX12_aRow_36 ?_
        have bσ_6 : 0 ≤ (σ.1 6).toInt ∧ (σ.1 6).toInt ≤ 1000 := hI.1 6
        have kk24 : (5 : Int32).toInt = 5 := rg_15
        have o1 : 0 ≤ (5 : Int32).toInt := by omega
        have o2 : (5 : Int32).toInt ≤ 7 := by omega
        refine zy_v (va_runV (As := [.int 5, .int (σ.1 6)]) (rest := []) ⟨hx, hb, hml, hown, hts⟩ (n_fails l dC dI h ad cl H.size σ 5 (σ.1 6) hI ⟨o1, o2⟩) (cwV 2 hts gd_n_aRow_220_n_fails rfl rfl rfl dd_n_fails ⟨Nat.le_of_ble_eq_true rfl, Nat.le_of_ble_eq_true rfl⟩) (preV hP hK hD hE (ci := 12) (q0 := 0) rfl rfl) rfl rfl hl.1 rfl (lv_room (Nat.le_of_ble_eq_true rfl)) dX12_aRow_39 ⟨Nat.le_of_ble_eq_true rfl, Nat.le_of_ble_eq_true rfl⟩) hD hS hA (fun τ25 H locs hq hP hD hS => ?_)
        obtain ⟨hI27, hx28, f29, mo30⟩ := hq
        have Xτ25 : eqx [6, 7, 8, 9, 10, 4, 5] τ25 σ := eqx.tr hx28 eqx.rf rg_46
        have Mτ25 : Mo τ25 σ := Mo.tr mo30 (fun h9 => Mo.rf h9)
        have Lτ25 : Lx τ25 σ := Lx.tr (Lx.of hx28 (Lx.es (Lx.rf hes)) rg_47 rg_48 rg_49) (Lx.rf hes)
        refine W.widen (k := 0) (n := 0) (Nat.le_of_ble_eq_true rfl) (Nat.le_of_ble_eq_true rfl) ?_
        refine lv_aload_n hx hb dX12_aRow_42 rfl (lv_at hl 1 rfl) ?_
        refine zy_i (va_runV (As := []) (rest := []) ⟨hx, hb, hml, hown, hts⟩ (n_isGood l dC dI h ad cl H.size τ25  hI27) (cwV 0 hts gd_n_aRow_224_n_isGood rfl rfl rfl dd_n_isGood ⟨Nat.le_of_ble_eq_true rfl, Nat.le_of_ble_eq_true rfl⟩) (preV hP hK hD hE (ci := 12) (q0 := 0) rfl rfl) rfl rfl hl.1 rfl (lv_room (Nat.le_of_ble_eq_true rfl)) dX12_aRow_43 ⟨Nat.le_of_ble_eq_true rfl, Nat.le_of_ble_eq_true rfl⟩) hD hS hA (fun z32 τ31 H locs hq hP hD hS => ?_)
        obtain ⟨rfl, f33⟩ := hq
        refine W.widen (k := 0) (n := 0) (Nat.le_of_ble_eq_true rfl) (Nat.le_of_ble_eq_true rfl) ?_
        refine lv_if_eq (tgt := 53) hx hb dX12_aRow_46 rfl (fun c34 => ?_) (fun c34 => ?_)
        · have tc34 := (show z32.toInt = 0 from ti_eq rfl rg_11 c34)
          refine lv_iload_n hx hb dX12_aRow_53 rfl (lv_at hl 0 rfl) ?_
          rw [hQ]
          exact W.iret (v := z6) hx hb hr (fun t ht hW => ⟨⟨z6, τ25, rfl, ⟨hI27, Xτ25, (by omega), (by omega), (fun h9 => (by have h8 : (τ25.1 4).toInt = 0 := h9; omega)), Mτ25, Lτ25⟩, wEn_of hP (hK.sub [] rfl) hD ht hW⟩, hS.F ht⟩) hS.2.2 dX12_aRow_54
        · have tc34 := (show z32.toInt ≠ 0 from ti_ne rfl rg_11 c34)
          refine lv_aload_n hx hb dX12_aRow_49 rfl (lv_at hl 1 rfl) ?_
          refine zy_v (va_runV (As := []) (rest := []) ⟨hx, hb, hml, hown, hts⟩ (n_next l dC dI h ad cl H.size τ25  hI27 (Lx.es Lτ25)) (cwV 0 hts gd_n_aRow_228_n_next rfl rfl rfl dd_n_next ⟨Nat.le_of_ble_eq_true rfl, Nat.le_of_ble_eq_true rfl⟩) (preV hP hK hD hE (ci := 12) (q0 := 0) rfl rfl) rfl rfl hl.1 rfl (lv_room (Nat.le_of_ble_eq_true rfl)) dX12_aRow_50 ⟨Nat.le_of_ble_eq_true rfl, Nat.le_of_ble_eq_true rfl⟩) hD hS hA (fun τ35 H locs hq hP hD hS => ?_)
          obtain ⟨hI37, hx38, f39, lx40⟩ := hq
          have Xτ35 : eqx [6, 7, 8, 9, 10, 4, 5] τ35 σ := eqx.tr hx38 Xτ25 rg_50
          have Mτ35 : Mo τ35 σ := Mo.tr (Mo.of hx38 rg_51) (fun h9 => Mτ25 h9)
          have Lτ35 : Lx τ35 σ := Lx.tr lx40 Lτ25
          have qq41 : (τ35.1 4).toInt = ((τ25.1 4) : Int32).toInt := congrArg Int32.toInt ((show τ35.1 4 = (τ25.1 4) from ((hx38 4 rg_51).1).trans rfl))
          refine W.widen (k := 0) (n := 0) (Nat.le_of_ble_eq_true rfl) (Nat.le_of_ble_eq_true rfl) ?_
          refine lv_iload_n hx hb dX12_aRow_53 rfl (lv_at hl 0 rfl) ?_
          rw [hQ]
          have qq42 : (τ35.1 4).toInt = ((τ25.1 4) : Int32).toInt := congrArg Int32.toInt ((show τ35.1 4 = (τ25.1 4) from ((hx38 4 rg_51).1).trans rfl))
          exact W.iret (v := z6) hx hb hr (fun t ht hW => ⟨⟨z6, τ35, rfl, ⟨hI37, Xτ35, (by omega), (by omega), (fun h9 => (by have h8 : (τ35.1 4).toInt = 0 := h9; omega)), Mτ35, Lτ35⟩, wEn_of hP (hK.sub [] rfl) hD ht hW⟩, hS.F ht⟩) hS.2.2 dX12_aRow_54
    · have tc10 := (show (σ.1 8).toInt ≠ 2 from ti_ne rfl rg_20 c10)
      refine lv_aload_n hx hb dX12_aRow_22 rfl (lv_at hl 1 rfl) ?_
      refine zy_v (va_runV (As := []) (rest := []) ⟨hx, hb, hml, hown, hts⟩ (n_wrong l dC dI h ad cl H.size σ  hI) (cwV 0 hts gd_n_aRow_231_n_wrong rfl rfl rfl dd_n_wrong ⟨Nat.le_of_ble_eq_true rfl, Nat.le_of_ble_eq_true rfl⟩) (preV hP hK hD hE (ci := 12) (q0 := 0) rfl rfl) rfl rfl hl.1 rfl (lv_room (Nat.le_of_ble_eq_true rfl)) dX12_aRow_23 ⟨Nat.le_of_ble_eq_true rfl, Nat.le_of_ble_eq_true rfl⟩) hD hS hA (fun τ43 H locs hq hP hD hS => ?_)
      obtain ⟨hI45, hx46, f47, mo48⟩ := hq
      have Xτ43 : eqx [6, 7, 8, 9, 10, 4, 5] τ43 σ := eqx.tr hx46 eqx.rf rg_46
      have Mτ43 : Mo τ43 σ := Mo.tr mo48 (fun h9 => Mo.rf h9)
      have Lτ43 : Lx τ43 σ := Lx.tr (Lx.of hx46 (Lx.es (Lx.rf hes)) rg_47 rg_48 rg_49) (Lx.rf hes)
      refine W.widen (k := 0) (n := 0) (Nat.le_of_ble_eq_true rfl) (Nat.le_of_ble_eq_true rfl) ?_
      refine lv_goto (tgt := 42) hx hb dX12_aRow_26 rfl ?_
      refine lv_aload_n hx hb dX12_aRow_42 rfl (lv_at hl 1 rfl) ?_
      refine zy_i (va_runV (As := []) (rest := []) ⟨hx, hb, hml, hown, hts⟩ (n_isGood l dC dI h ad cl H.size τ43  hI45) (cwV 0 hts gd_n_aRow_224_n_isGood rfl rfl rfl dd_n_isGood ⟨Nat.le_of_ble_eq_true rfl, Nat.le_of_ble_eq_true rfl⟩) (preV hP hK hD hE (ci := 12) (q0 := 0) rfl rfl) rfl rfl hl.1 rfl (lv_room (Nat.le_of_ble_eq_true rfl)) dX12_aRow_43 ⟨Nat.le_of_ble_eq_true rfl, Nat.le_of_ble_eq_true rfl⟩) hD hS hA (fun z50 τ49 H locs hq hP hD hS => ?_)
      obtain ⟨rfl, f51⟩ := hq
      refine W.widen (k := 0) (n := 0) (Nat.le_of_ble_eq_true rfl) (Nat.le_of_ble_eq_true rfl) ?_
      refine lv_if_eq (tgt := 53) hx hb dX12_aRow_46 rfl (fun c52 => ?_) (fun c52 => ?_)
      · have tc52 := (show z50.toInt = 0 from ti_eq rfl rg_11 c52)
        refine lv_iload_n hx hb dX12_aRow_53 rfl (lv_at hl 0 rfl) ?_
        rw [hQ]
        exact W.iret (v := z6) hx hb hr (fun t ht hW => ⟨⟨z6, τ43, rfl, ⟨hI45, Xτ43, (by omega), (by omega), (fun h9 => (by have h8 : (τ43.1 4).toInt = 0 := h9; omega)), Mτ43, Lτ43⟩, wEn_of hP (hK.sub [] rfl) hD ht hW⟩, hS.F ht⟩) hS.2.2 dX12_aRow_54
      · have tc52 := (show z50.toInt ≠ 0 from ti_ne rfl rg_11 c52)
        refine lv_aload_n hx hb dX12_aRow_49 rfl (lv_at hl 1 rfl) ?_
        refine zy_v (va_runV (As := []) (rest := []) ⟨hx, hb, hml, hown, hts⟩ (n_next l dC dI h ad cl H.size τ43  hI45 (Lx.es Lτ43)) (cwV 0 hts gd_n_aRow_228_n_next rfl rfl rfl dd_n_next ⟨Nat.le_of_ble_eq_true rfl, Nat.le_of_ble_eq_true rfl⟩) (preV hP hK hD hE (ci := 12) (q0 := 0) rfl rfl) rfl rfl hl.1 rfl (lv_room (Nat.le_of_ble_eq_true rfl)) dX12_aRow_50 ⟨Nat.le_of_ble_eq_true rfl, Nat.le_of_ble_eq_true rfl⟩) hD hS hA (fun τ53 H locs hq hP hD hS => ?_)
        obtain ⟨hI55, hx56, f57, lx58⟩ := hq
        have Xτ53 : eqx [6, 7, 8, 9, 10, 4, 5] τ53 σ := eqx.tr hx56 Xτ43 rg_50
        have Mτ53 : Mo τ53 σ := Mo.tr (Mo.of hx56 rg_51) (fun h9 => Mτ43 h9)
        have Lτ53 : Lx τ53 σ := Lx.tr lx58 Lτ43
        have qq59 : (τ53.1 4).toInt = ((τ43.1 4) : Int32).toInt := congrArg Int32.toInt ((show τ53.1 4 = (τ43.1 4) from ((hx56 4 rg_51).1).trans rfl))
        refine W.widen (k := 0) (n := 0) (Nat.le_of_ble_eq_true rfl) (Nat.le_of_ble_eq_true rfl) ?_
        refine lv_iload_n hx hb dX12_aRow_53 rfl (lv_at hl 0 rfl) ?_
        rw [hQ]
        have qq60 : (τ53.1 4).toInt = ((τ43.1 4) : Int32).toInt := congrArg Int32.toInt ((show τ53.1 4 = (τ43.1 4) from ((hx56 4 rg_51).1).trans rfl))
        exact W.iret (v := z6) hx hb hr (fun t ht hW => ⟨⟨z6, τ53, rfl, ⟨hI55, Xτ53, (by omega), (by omega), (fun h9 => (by have h8 : (τ53.1 4).toInt = 0 := h9; omega)), Mτ53, Lτ53⟩, wEn_of hP (hK.sub [] rfl) hD ht hW⟩, hS.F ht⟩) hS.2.2 dX12_aRow_54
  · have tc4 := (show z2.toInt = 0 from ti_eq rfl rg_11 c4)
    refine lv_iconst (v := 0) hx hb dX12_aRow_7 rg_0 ?_
    rw [hQ]
    exact W.iret (v := 0) hx hb hr (fun t ht hW => ⟨⟨0, σ, rfl, ⟨hI, eqx.rf, (by have k9 : (0 : Int32).toInt = 0 := (by decide); omega), (by have k9 : (0 : Int32).toInt = 0 := (by decide); omega), (fun h9 => (by have h8 : (σ.1 4).toInt = 0 := h9; have k9 : (0 : Int32).toInt = 0 := (by decide); omega)), Mo.rf, (Lx.rf hes)⟩, wEn_of hP (hK.sub [] rfl) hD ht hW⟩, hS.F ht⟩) hS.2.2 dX12_aRow_8

theorem dX12_farOn_0 : decode cX12_farOn 0 = .ok (.aload_n 0, 1) := by decide +kernel
theorem dX12_farOn_1 : decode cX12_farOn 1 = .ok (.aload_n 0, 1) := by decide +kernel
theorem dX12_farOn_2 : decode cX12_farOn 2 = .ok (.getfield 76, 3) := by decide +kernel
theorem dX12_farOn_5 : decode cX12_farOn 5 = .ok (.bipush 12, 2) := by decide +kernel
theorem dX12_farOn_7 : decode cX12_farOn 7 = .ok (.iload_n 2, 1) := by decide +kernel
theorem dX12_farOn_8 : decode cX12_farOn 8 = .ok (.imul, 1) := by decide +kernel
theorem dX12_farOn_9 : decode cX12_farOn 9 = .ok (.invokevirtual 375, 3) := by decide +kernel
theorem dX12_farOn_12 : decode cX12_farOn 12 = .ok (.aload_n 0, 1) := by decide +kernel
theorem dX12_farOn_13 : decode cX12_farOn 13 = .ok (.getfield 54, 3) := by decide +kernel
theorem dX12_farOn_16 : decode cX12_farOn 16 = .ok (.iconst 4, 1) := by decide +kernel
theorem dX12_farOn_17 : decode cX12_farOn 17 = .ok (.aload_n 0, 1) := by decide +kernel
theorem dX12_farOn_18 : decode cX12_farOn 18 = .ok (.getfield 240, 3) := by decide +kernel
theorem dX12_farOn_21 : decode cX12_farOn 21 = .ok (.imul, 1) := by decide +kernel
theorem dX12_farOn_22 : decode cX12_farOn 22 = .ok (.iload_n 1, 1) := by decide +kernel
theorem dX12_farOn_23 : decode cX12_farOn 23 = .ok (.iadd, 1) := by decide +kernel
theorem dX12_farOn_24 : decode cX12_farOn 24 = .ok (.iaload, 1) := by decide +kernel
theorem dX12_farOn_25 : decode cX12_farOn 25 = .ok (.istore_n 3, 1) := by decide +kernel
theorem dX12_farOn_26 : decode cX12_farOn 26 = .ok (.aload_n 0, 1) := by decide +kernel
theorem dX12_farOn_27 : decode cX12_farOn 27 = .ok (.getfield 101, 3) := by decide +kernel
theorem dX12_farOn_30 : decode cX12_farOn 30 = .ok (.iload_n 3, 1) := by decide +kernel
theorem dX12_farOn_31 : decode cX12_farOn 31 = .ok (.laload, 1) := by decide +kernel
theorem dX12_farOn_32 : decode cX12_farOn 32 = .ok (.aload_n 0, 1) := by decide +kernel
theorem dX12_farOn_33 : decode cX12_farOn 33 = .ok (.getfield 104, 3) := by decide +kernel
theorem dX12_farOn_36 : decode cX12_farOn 36 = .ok (.iload_n 3, 1) := by decide +kernel
theorem dX12_farOn_37 : decode cX12_farOn 37 = .ok (.laload, 1) := by decide +kernel
theorem dX12_farOn_38 : decode cX12_farOn 38 = .ok (.lcmp, 1) := by decide +kernel
theorem dX12_farOn_39 : decode cX12_farOn 39 = .ok (.ifCond .ge 19, 3) := by decide +kernel
theorem dX12_farOn_58 : decode cX12_farOn 58 = .ok (.aload_n 0, 1) := by decide +kernel
theorem dX12_farOn_59 : decode cX12_farOn 59 = .ok (.getfield 101, 3) := by decide +kernel
theorem dX12_farOn_62 : decode cX12_farOn 62 = .ok (.iload_n 3, 1) := by decide +kernel
theorem dX12_farOn_63 : decode cX12_farOn 63 = .ok (.laload, 1) := by decide +kernel
theorem dX12_farOn_64 : decode cX12_farOn 64 = .ok (.aload_n 0, 1) := by decide +kernel
theorem dX12_farOn_65 : decode cX12_farOn 65 = .ok (.getfield 104, 3) := by decide +kernel
theorem dX12_farOn_68 : decode cX12_farOn 68 = .ok (.iload_n 3, 1) := by decide +kernel
theorem dX12_farOn_69 : decode cX12_farOn 69 = .ok (.laload, 1) := by decide +kernel
theorem dX12_farOn_70 : decode cX12_farOn 70 = .ok (.lsub, 1) := by decide +kernel
theorem dX12_farOn_71 : decode cX12_farOn 71 = .ok (.lreturn, 1) := by decide +kernel
theorem dX12_farOn_42 : decode cX12_farOn 42 = .ok (.aload_n 0, 1) := by decide +kernel
theorem dX12_farOn_43 : decode cX12_farOn 43 = .ok (.getfield 104, 3) := by decide +kernel
theorem dX12_farOn_46 : decode cX12_farOn 46 = .ok (.iload_n 3, 1) := by decide +kernel
theorem dX12_farOn_47 : decode cX12_farOn 47 = .ok (.laload, 1) := by decide +kernel
theorem dX12_farOn_48 : decode cX12_farOn 48 = .ok (.aload_n 0, 1) := by decide +kernel
theorem dX12_farOn_49 : decode cX12_farOn 49 = .ok (.getfield 101, 3) := by decide +kernel
theorem dX12_farOn_52 : decode cX12_farOn 52 = .ok (.iload_n 3, 1) := by decide +kernel
theorem dX12_farOn_53 : decode cX12_farOn 53 = .ok (.laload, 1) := by decide +kernel
theorem dX12_farOn_54 : decode cX12_farOn 54 = .ok (.lsub, 1) := by decide +kernel
theorem dX12_farOn_55 : decode cX12_farOn 55 = .ok (.goto 16, 3) := by decide +kernel
theorem rg_566 : ∀ q, q ∈ [42, 41] → q ∈ [42, 41] := by decide
theorem rg_567 : 22 ∉ [42, 41] := by decide
def ow_n_farOn : List Cond := [.fieldLink RX12 76 "NearEnoughModel" "numbers" "[I", .fieldLink RX12 54 "NearEnoughModel" "eStep" "[I", .fieldLink RX12 240 "NearEnoughModel" "bank" "I", .fieldLink RX12 101 "NearEnoughModel" "came" "[J", .fieldLink RX12 104 "NearEnoughModel" "plain" "[J"]
def vs_n_farOn : List Cond := .code yX12_farOn cX12_farOn 4 (some .long) :: (ow_n_farOn ++ (([.methodLink RX12 375 yX12_run, .instanceMethod yX12_run, .selects RX12 yX12_run yX12_run, .initialized RX12] : List Cond) ++ (vs_n_run_n ++ (wsX120))))
theorem vg_n_farOn : vs_n_farOn.all goodWord = true := by decide +kernel
theorem dd_n_farOn : yX12_farOn.cls = RX12 ∧ yX12_farOn.cls ≠ "java/lang/invoke/MethodHandle" ∧ yX12_farOn.cls ≠ "java/lang/invoke/VarHandle" ∧ (parseMethodDescriptor yX12_farOn.desc).map (fun d => d.parameters.length) = some 2 := by decide +kernel
def rm_n_farOn : Room := { frames := 5, cells := 0, slots := 0, locals := 138 }
theorem gd_n_farOn_375_n_run_n : GoodIn vs_n_farOn (wsV RX12 375 RX12 yX12_run vs_n_run_n) := goodIn_app (goodIn_sub (fun w h => (List.mem_cons_of_mem _ (List.mem_append_right _ (List.mem_append_left _ h)))) (by decide +kernel)) (goodIn_sub (fun w h => (List.mem_cons_of_mem _ (List.mem_append_right _ (List.mem_append_right _ (List.mem_append_left _ h))))) vg_n_run_n)
set_option maxHeartbeats 4000000 in
set_option maxRecDepth 100000 in
theorem n_farOn (l : Launch) (dC : Nat → ClassId) (dI : Nat → Nat → Nat) (h : Nat) (ad : Nat → Nat) (cl : Nat → ClassId) (sz : Nat) (σ : MS) (x : Int32) (y : Int32) (hI : Inv σ) (hR : RelP σ (σ.1 29).toNatClampNeg) (hon : OnOk σ) (he : EndOk σ x) (hsh : 0 ≤ y.toInt ∧ y.toInt ≤ 39) : Met l yX12_farOn vs_n_farOn rm_n_farOn (va_Pc [.ref h, .int x, .int y] (wSt dC dI (mW h ad cl σ) (mT cl) sz)) (va_Ql (fun (r : Int64) (τ : MS) => Inv τ ∧ eqx [42, 41] τ σ ∧ FarP σ τ x y r) (fun (τ : MS) => wEn dC dI (va_A (mW h ad cl σ) sz) (mW h ad cl τ) []) (va_A (mW h ad cl σ) sz)) 0 0 (va_A (mW h ad cl σ) sz) := by
  refine Met.ofW (cc := cX12_farOn) (maxL := 4) (ret := (some .long)) (by decide) rfl ?_
  intro p e s m args below meth c s₁ B hml hv
  obtain ⟨rfl, hsz, hP, hK, hD0, hE⟩ := hv
  have hx := B.exec
  have hb := B.bytes
  have hr := B.returns
  have hts := atoms_spec (ws := vs_n_farOn) B.pre
  have hown : s.vm.findClass RX12 = some m.cls := findClass_of_methodNamed B.named
  have hlocks := B.notSynchronized
  subst hsz
  have hD := hD0.self (sz := s.heap.size)
  generalize hAe : va_A (mW h ad cl σ) s.heap.size = A at hD ⊢
  have hA : ∀ q : Nat, s.heap.size ≤ q → A q := fun q h => by rw [← hAe]; exact Or.inr h
  have hl := lv_entry ([.ref h, .int x, .int y]) (n := 4) (Nat.le_of_ble_eq_true rfl)
  rw [lg_entry_eq]
  generalize (lg_sl ([.ref h, .int x, .int y]) ++ List.replicate (4 - (lg_sl ([.ref h, .int x, .int y])).length) Slot.unset).toArray = ls at hl ⊢
  have hl : lv_has ls 4 [(0, .ref h), (1, .int x), (2, .int y)] := hl
  have ho := fun w (h : w ∈ ow_n_farOn) => hts w (List.mem_cons_of_mem _ (List.mem_append_left _ h))
  have hin12 : ∀ w ∈ u_ws RX12 TX12 59, w ∈ vs_n_farOn := fun w h => (List.mem_cons_of_mem _ (List.mem_append_right _ (List.mem_append_right _ (List.mem_append_right _ h))))
  refine zQ (fun Q hQ => ?_)
  have he0 := he
  unfold EndOk at he0
  refine zH (A := A) (ws := mW h ad cl σ) (fun H hP hS => ?_) hP
  have bσ_29 : 0 ≤ (σ.1 29).toInt ∧ (σ.1 29).toInt ≤ 1 := hI.1 29
  refine lv_aload_n hx hb dX12_farOn_0 rfl (lv_at hl 0 rfl) ?_
  refine lv_aload_n hx hb dX12_farOn_1 rfl (lv_at hl 0 rfl) ?_
  refine va_get (D := (dC, dI)) (ci := 12) (v := .ref (ad 31)) (C := RX12) (T := TX12) (N := 59) hx hb hts hin12 hown hK hP 0 rfl rfl 31 (Nat.le_of_ble_eq_true rfl) (ho (.fieldLink RX12 76 "NearEnoughModel" "numbers" "[I") (List.mem_of_getElem? (i := 0) rfl)) (fun _ h9 => h9) rfl dX12_farOn_2 ?_
  refine lv_bipush (v := 12) hx hb dX12_farOn_5 rg_57 ?_
  refine lv_iload_n hx hb dX12_farOn_7 rfl (lv_at hl 2 rfl) ?_
  refine lv_imul hx hb dX12_farOn_8 ?_
  refine lv_topi (fun z1_ ez1_ => ?_)
  have o1 : -2147483648 ≤ 12 * y.toInt := by omega
  have o2 : 12 * y.toInt ≤ 2147483647 := by omega
  have tz1_ : z1_.toInt = 12 * y.toInt := ti_mul ez1_ rg_58 rfl o1 o2
  have o3 : 0 ≤ z1_.toInt := by omega
  have o4 : z1_.toInt ≤ 468 := by omega
  have o5 : z1_.toInt = 0 ∨ 12 ≤ z1_.toInt := by omega
  refine zy_v (va_runV (As := [.ref (ad 31), .int z1_]) (rest := []) ⟨hx, hb, hml, hown, hts⟩ (n_run_n l dC dI h ad cl H.size σ z1_ hI ⟨o3, o4⟩ (show z1_.toInt = 0 ∨ 12 ≤ z1_.toInt from o5) hR hon) (cwV 2 hts gd_n_farOn_375_n_run_n rfl rfl rfl dd_n_run_n ⟨Nat.le_of_ble_eq_true rfl, Nat.le_of_ble_eq_true rfl⟩) (preV hP hK hD hE (ci := 12) (q0 := 0) rfl rfl) rfl rfl hl.1 rfl (lv_room (Nat.le_of_ble_eq_true rfl)) dX12_farOn_9 ⟨Nat.le_of_ble_eq_true rfl, Nat.le_of_ble_eq_true rfl⟩) hD hS hA (fun τ2_ H locs hq hP hD hS => ?_)
  obtain ⟨hI4_, hx5_, f6_, f7_⟩ := hq
  have Xτ2_ : eqx [42, 41] τ2_ σ := eqx.tr hx5_ eqx.rf rg_566
  have qq8_ : (τ2_.1 29).toInt = ((σ.1 29) : Int32).toInt := congrArg Int32.toInt ((show τ2_.1 29 = (σ.1 29) from ((hx5_ 29 rg_483).1).trans rfl))
  refine W.widen (k := 0) (n := 0) (Nat.le_of_ble_eq_true rfl) (Nat.le_of_ble_eq_true rfl) ?_
  refine lv_aload_n hx hb dX12_farOn_12 rfl (lv_at hl 0 rfl) ?_
  refine va_get (D := (dC, dI)) (ci := 12) (v := .ref (ad 22)) (C := RX12) (T := TX12) (N := 59) hx hb hts hin12 hown hK hP 0 rfl rfl 22 (Nat.le_of_ble_eq_true rfl) (ho (.fieldLink RX12 54 "NearEnoughModel" "eStep" "[I") (List.mem_of_getElem? (i := 1) rfl)) (fun _ h9 => h9) rfl dX12_farOn_13 ?_
  refine lv_iconst (v := 4) hx hb dX12_farOn_16 rg_31 ?_
  refine lv_aload_n hx hb dX12_farOn_17 rfl (lv_at hl 0 rfl) ?_
  refine va_get (D := (dC, dI)) (ci := 12) (v := .int (τ2_.1 29)) (C := RX12) (T := TX12) (N := 59) hx hb hts hin12 hown hK hP 0 rfl rfl 29 (Nat.le_of_ble_eq_true rfl) (ho (.fieldLink RX12 240 "NearEnoughModel" "bank" "I") (List.mem_of_getElem? (i := 2) rfl)) (fun _ h9 => h9) rfl dX12_farOn_18 ?_
  refine zi (v := (σ.1 29)) (show τ2_.1 29 = (σ.1 29) from ((hx5_ 29 rg_483).1).trans rfl) ?_
  have bb9_ : 0 ≤ (σ.1 29).toInt ∧ (σ.1 29).toInt ≤ 1 := by have h9 := hI4_.1 29; rw [show (τ2_.1 29) = (σ.1 29) from (show τ2_.1 29 = (σ.1 29) from ((hx5_ 29 rg_483).1).trans rfl)] at h9; exact h9
  refine lv_imul hx hb dX12_farOn_21 ?_
  refine lv_topi (fun z10_ ez10_ => ?_)
  have o6 : -2147483648 ≤ 4 * (σ.1 29).toInt := by omega
  have o7 : 4 * (σ.1 29).toInt ≤ 2147483647 := by omega
  have tz10_ : z10_.toInt = 4 * (σ.1 29).toInt := ti_mul ez10_ rg_32 rfl o6 o7
  refine lv_iload_n hx hb dX12_farOn_22 rfl (lv_at hl 1 rfl) ?_
  refine lv_iadd hx hb dX12_farOn_23 ?_
  refine lv_topi (fun z11_ ez11_ => ?_)
  have o8 : -2147483648 ≤ z10_.toInt + x.toInt := by omega
  have o9 : z10_.toInt + x.toInt ≤ 2147483647 := by omega
  have tz11_ : z11_.toInt = z10_.toInt + x.toInt := ti_add ez11_ rfl rfl o8 o9
  have o10 : 0 ≤ z11_.toInt := by omega
  have o11 : z11_.toInt < ((8 : Nat) : Int) := by omega
  refine va_iald hx hb hK hP 14 13 rfl rfl (ti_inx o10 o11) dX12_farOn_24 ?_
  refine lv_topi (fun z12_ ez12_ => ?_)
  have gz12_ : z12_.toInt = ((σ.2.1 22) (Int32.toNatClampNeg z11_)).toInt := congrArg Int32.toInt (ez12_.trans (congrFun (((hx5_ 22 rg_567).2.1).trans rfl) (Int32.toNatClampNeg z11_)))
  have bz12_ : (-1) ≤ z12_.toInt ∧ z12_.toInt ≤ 11 := by rw [ez12_]; exact (hI4_.2 22) _ (cl_lt (n := 8) o10 o11)
  have EQ14_ : z12_ = σ.2.1 22 (Int32.toNatClampNeg z11_) := ez12_.trans (congrFun (((hx5_ 22 rg_567).2.1).trans rfl) (Int32.toNatClampNeg z11_))
  have o12 : z11_.toInt = 4 * (σ.1 29).toInt + x.toInt := by omega
  have EN13_ := end_ld hI hR he o12 EQ14_
  refine lv_istore_n (lv' := [(3, .int z12_), (0, .ref h), (1, .int x), (2, .int y)]) hx hb dX12_farOn_25 rfl hl (Nat.le_of_ble_eq_true rfl) rfl (fun ls hl => ?_)
  refine lv_aload_n hx hb dX12_farOn_26 rfl (lv_at hl 1 rfl) ?_
  refine va_get (D := (dC, dI)) (ci := 12) (v := .ref (ad 41)) (C := RX12) (T := TX12) (N := 59) hx hb hts hin12 hown hK hP 0 rfl rfl 41 (Nat.le_of_ble_eq_true rfl) (ho (.fieldLink RX12 101 "NearEnoughModel" "came" "[J") (List.mem_of_getElem? (i := 3) rfl)) (fun _ h9 => h9) rfl dX12_farOn_27 ?_
  refine lv_iload_n hx hb dX12_farOn_30 rfl (lv_at hl 0 rfl) ?_
  have o13 : 0 ≤ z12_.toInt := by omega
  have o14 : z12_.toInt < ((12 : Nat) : Int) := by omega
  refine va_lald hx hb hK hP 29 28 rfl rfl (ti_inx o13 o14) dX12_farOn_31 ?_
  refine lv_topl (fun y15_ ey15_ => ?_)
  refine lv_aload_n hx hb dX12_farOn_32 rfl (lv_at hl 1 rfl) ?_
  refine va_get (D := (dC, dI)) (ci := 12) (v := .ref (ad 42)) (C := RX12) (T := TX12) (N := 59) hx hb hts hin12 hown hK hP 0 rfl rfl 42 (Nat.le_of_ble_eq_true rfl) (ho (.fieldLink RX12 104 "NearEnoughModel" "plain" "[J") (List.mem_of_getElem? (i := 4) rfl)) (fun _ h9 => h9) rfl dX12_farOn_33 ?_
  refine lv_iload_n hx hb dX12_farOn_36 rfl (lv_at hl 0 rfl) ?_
  refine va_lald hx hb hK hP 30 29 rfl rfl (ti_inx o13 o14) dX12_farOn_37 ?_
  refine lv_topl (fun y16_ ey16_ => ?_)
  refine W.lcmp hx hb dX12_farOn_38 ?_
  refine lv_topi (fun z17_ ez17_ => ?_)
  refine lv_if_ge (tgt := 58) hx hb dX12_farOn_39 rfl (fun c18_ => ?_) (fun c18_ => ?_)
  · have tc18_ := (show 0 ≤ z17_.toInt from ti_le rg_11 rfl c18_)
    have lc18_ : y16_ ≤ y15_ := (lg_cmp_ge y15_ y16_).mp (by rw [← ez17_]; exact c18_)
    refine lv_aload_n hx hb dX12_farOn_58 rfl (lv_at hl 1 rfl) ?_
    refine va_get (D := (dC, dI)) (ci := 12) (v := .ref (ad 41)) (C := RX12) (T := TX12) (N := 59) hx hb hts hin12 hown hK hP 0 rfl rfl 41 (Nat.le_of_ble_eq_true rfl) (ho (.fieldLink RX12 101 "NearEnoughModel" "came" "[J") (List.mem_of_getElem? (i := 3) rfl)) (fun _ h9 => h9) rfl dX12_farOn_59 ?_
    refine lv_iload_n hx hb dX12_farOn_62 rfl (lv_at hl 0 rfl) ?_
    refine va_lald hx hb hK hP 29 28 rfl rfl (ti_inx o13 o14) dX12_farOn_63 ?_
    refine lv_topl (fun y19_ ey19_ => ?_)
    refine lv_aload_n hx hb dX12_farOn_64 rfl (lv_at hl 1 rfl) ?_
    refine va_get (D := (dC, dI)) (ci := 12) (v := .ref (ad 42)) (C := RX12) (T := TX12) (N := 59) hx hb hts hin12 hown hK hP 0 rfl rfl 42 (Nat.le_of_ble_eq_true rfl) (ho (.fieldLink RX12 104 "NearEnoughModel" "plain" "[J") (List.mem_of_getElem? (i := 4) rfl)) (fun _ h9 => h9) rfl dX12_farOn_65 ?_
    refine lv_iload_n hx hb dX12_farOn_68 rfl (lv_at hl 0 rfl) ?_
    refine va_lald hx hb hK hP 30 29 rfl rfl (ti_inx o13 o14) dX12_farOn_69 ?_
    refine lv_topl (fun y20_ ey20_ => ?_)
    refine lv_lsub hx hb dX12_farOn_70 ?_
    refine lv_topl (fun y21_ ey21_ => ?_)
    rw [hQ]
    have FX22_ : z12_.toNatClampNeg = eX σ x := end_ix hI he o12 EQ14_
    rw [ez1_] at f6_ f7_
    have LT24_ : ¬ (τ2_.2.2.1 41 (eX σ x) < τ2_.2.2.1 42 (eX σ x)) := by rw [← FX22_, ← ey15_, ← ey16_]; exact Int64.not_lt.mpr lc18_
    have FR23_ : FarP σ τ2_ x y y21_ := ⟨f6_, f7_, by rw [if_neg LT24_]; simp only [ez10_, ez11_, ey15_, ey16_, ez17_, ey19_, ey20_, ey21_, FX22_]⟩
    exact W.lret (v := y21_) hx hb hr (fun t ht hW => ⟨⟨y21_, τ2_, rfl, ⟨hI4_, Xτ2_, FR23_⟩, wEn_of hP (hK.sub [] rfl) hD ht hW⟩, hS.F ht⟩) hS.2.2 dX12_farOn_71
  · have tc18_ := (show z17_.toInt < 0 from ti_nle rg_11 rfl c18_)
    have lc18_ : ¬ y16_ ≤ y15_ := fun h => c18_ (by rw [ez17_]; exact (lg_cmp_ge y15_ y16_).mpr h)
    refine lv_aload_n hx hb dX12_farOn_42 rfl (lv_at hl 1 rfl) ?_
    refine va_get (D := (dC, dI)) (ci := 12) (v := .ref (ad 42)) (C := RX12) (T := TX12) (N := 59) hx hb hts hin12 hown hK hP 0 rfl rfl 42 (Nat.le_of_ble_eq_true rfl) (ho (.fieldLink RX12 104 "NearEnoughModel" "plain" "[J") (List.mem_of_getElem? (i := 4) rfl)) (fun _ h9 => h9) rfl dX12_farOn_43 ?_
    refine lv_iload_n hx hb dX12_farOn_46 rfl (lv_at hl 0 rfl) ?_
    refine va_lald hx hb hK hP 30 29 rfl rfl (ti_inx o13 o14) dX12_farOn_47 ?_
    refine lv_topl (fun y25_ ey25_ => ?_)
    refine lv_aload_n hx hb dX12_farOn_48 rfl (lv_at hl 1 rfl) ?_
    refine va_get (D := (dC, dI)) (ci := 12) (v := .ref (ad 41)) (C := RX12) (T := TX12) (N := 59) hx hb hts hin12 hown hK hP 0 rfl rfl 41 (Nat.le_of_ble_eq_true rfl) (ho (.fieldLink RX12 101 "NearEnoughModel" "came" "[J") (List.mem_of_getElem? (i := 3) rfl)) (fun _ h9 => h9) rfl dX12_farOn_49 ?_
    refine lv_iload_n hx hb dX12_farOn_52 rfl (lv_at hl 0 rfl) ?_
    refine va_lald hx hb hK hP 29 28 rfl rfl (ti_inx o13 o14) dX12_farOn_53 ?_
    refine lv_topl (fun y26_ ey26_ => ?_)
    refine lv_lsub hx hb dX12_farOn_54 ?_
    refine lv_topl (fun y27_ ey27_ => ?_)
    refine lv_goto (tgt := 71) hx hb dX12_farOn_55 rfl ?_
    rw [hQ]
    have FX28_ : z12_.toNatClampNeg = eX σ x := end_ix hI he o12 EQ14_
    rw [ez1_] at f6_ f7_
    have LT30_ : (τ2_.2.2.1 41 (eX σ x) < τ2_.2.2.1 42 (eX σ x)) := by rw [← FX28_, ← ey15_, ← ey16_]; exact Int64.not_le.mp lc18_
    have FR29_ : FarP σ τ2_ x y y27_ := ⟨f6_, f7_, by rw [if_pos LT30_]; simp only [ez10_, ez11_, ey15_, ey16_, ez17_, ey25_, ey26_, ey27_, FX28_]⟩
    exact W.lret (v := y27_) hx hb hr (fun t ht hW => ⟨⟨y27_, τ2_, rfl, ⟨hI4_, Xτ2_, FR29_⟩, wEn_of hP (hK.sub [] rfl) hD ht hW⟩, hS.F ht⟩) hS.2.2 dX12_farOn_71

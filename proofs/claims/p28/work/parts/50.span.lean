

def ow_n_laySpanV : List Cond := [.fieldLink RX12 39 "NearEnoughModel" "sKind" "[I", .fieldLink RX12 243 "NearEnoughModel" "rb" "I", .fieldLink RX12 42 "NearEnoughModel" "sA" "[I", .fieldLink RX12 70 "NearEnoughModel" "sLeast" "[J", .fieldLink RX12 33 "NearEnoughModel" "rLeast" "[I", .fieldLink RX12 73 "NearEnoughModel" "sMost" "[J", .fieldLink RX12 36 "NearEnoughModel" "rMost" "[I", .fieldLink RX12 30 "NearEnoughModel" "rHas" "[I", .fieldLink RX12 45 "NearEnoughModel" "sB" "[I", .fieldLink RX12 48 "NearEnoughModel" "sC" "[I"]
def vs_n_laySpanV : List Cond := .code yX12_laySpan cX12_laySpan 12 none :: (ow_n_laySpanV ++ (([.methodLink RX12 314 yX12_lesser, .static yX12_lesser, .initialized yX12_lesser.cls] : List Cond) ++ (vs_n_lesserV ++ (([.methodLink RX12 318 yX12_greater, .static yX12_greater, .initialized yX12_greater.cls] : List Cond) ++ (vs_n_greaterV ++ (wsX120))))))
theorem vg_n_laySpanV : vs_n_laySpanV.all goodWord = true := by decide +kernel
theorem dd_n_laySpanV : yX12_laySpan.cls = RX12 ∧ yX12_laySpan.cls ≠ "java/lang/invoke/MethodHandle" ∧ yX12_laySpan.cls ≠ "java/lang/invoke/VarHandle" ∧ (parseMethodDescriptor yX12_laySpan.desc).map (fun d => d.parameters.length) = some 1 := by decide +kernel
def rm_n_laySpanV : Room := { frames := 1, cells := 0, slots := 0, locals := 23 }
theorem gd_n_laySpanV_314_n_lesserV : GoodIn vs_n_laySpanV (va_wsS RX12 314 yX12_lesser vs_n_lesserV) := goodIn_app (goodIn_sub (fun w h => (List.mem_cons_of_mem _ (List.mem_append_right _ (List.mem_append_left _ h)))) (by decide +kernel)) (goodIn_sub (fun w h => (List.mem_cons_of_mem _ (List.mem_append_right _ (List.mem_append_right _ (List.mem_append_left _ h))))) vg_n_lesserV)
theorem gd_n_laySpanV_318_n_greaterV : GoodIn vs_n_laySpanV (va_wsS RX12 318 yX12_greater vs_n_greaterV) := goodIn_app (goodIn_sub (fun w h => (List.mem_cons_of_mem _ (List.mem_append_right _ (List.mem_append_right _ (List.mem_append_right _ (List.mem_append_left _ h)))))) (by decide +kernel)) (goodIn_sub (fun w h => (List.mem_cons_of_mem _ (List.mem_append_right _ (List.mem_append_right _ (List.mem_append_right _ (List.mem_append_right _ (List.mem_append_left _ h))))))) vg_n_greaterV)
set_option maxHeartbeats 4000000 in
set_option maxRecDepth 100000 in
theorem n_laySpanV (l : Launch) (dC : Nat → ClassId) (dI : Nat → Nat → Nat) (h : Nat) (ad : Nat → Nat) (cl : Nat → ClassId) (sz : Nat) (σ : MS) (x : Int32) (hI : Inv σ) (hx0 : 0 ≤ x.toInt ∧ x.toInt ≤ 23) (hst : StOk (σ.2.1 17 x.toNatClampNeg).toInt (σ.2.1 18 x.toNatClampNeg).toInt (σ.2.1 19 x.toNatClampNeg).toInt (σ.2.1 20 x.toNatClampNeg).toInt (σ.2.1 21 x.toNatClampNeg).toInt 2 12) : Met l yX12_laySpan vs_n_laySpanV rm_n_laySpanV (va_Pc [.ref h, .int x] (wSt dC dI (mW h ad cl σ) (mT cl) sz)) (va_Qv (fun (τ : MS) => Inv τ ∧ eqx [27, 28] τ σ ∧ ∃ v w : Int64, τ.2.2.1 27 = vp_updL (σ.2.2.1 27) (Int32.toNatClampNeg x) v ∧ τ.2.2.1 28 = vp_updL (σ.2.2.1 28) (Int32.toNatClampNeg x) w ∧ SpnV (σ.1 30).toNatClampNeg (Int32.toNatClampNeg x) σ.2.1 σ.2.2.1 v w) (fun (τ : MS) => wEn dC dI (va_A (mW h ad cl σ) sz) (mW h ad cl τ) []) (va_A (mW h ad cl σ) sz)) 0 0 (va_A (mW h ad cl σ) sz) := by
  refine Met.ofW (cc := cX12_laySpan) (maxL := 12) (ret := none) (by decide) rfl ?_
  intro p e s m args below meth c s₁ B hml hv
  obtain ⟨rfl, hsz, hP, hK, hD0, hE⟩ := hv
  have hx := B.exec
  have hb := B.bytes
  have hr := B.returns
  have hts := atoms_spec (ws := vs_n_laySpanV) B.pre
  have hown : s.vm.findClass RX12 = some m.cls := findClass_of_methodNamed B.named
  have hlocks := B.notSynchronized
  subst hsz
  have hD := hD0.self (sz := s.heap.size)
  generalize hAe : va_A (mW h ad cl σ) s.heap.size = A at hD ⊢
  have hA : ∀ q : Nat, s.heap.size ≤ q → A q := fun q h => by rw [← hAe]; exact Or.inr h
  have hl := lv_entry ([.ref h, .int x]) (n := 12) (Nat.le_of_ble_eq_true rfl)
  rw [lg_entry_eq]
  generalize (lg_sl ([.ref h, .int x]) ++ List.replicate (12 - (lg_sl ([.ref h, .int x])).length) Slot.unset).toArray = ls at hl ⊢
  have hl : lv_has ls 12 [(0, .ref h), (1, .int x)] := hl
  have ho := fun w (h : w ∈ ow_n_laySpanV) => hts w (List.mem_cons_of_mem _ (List.mem_append_left _ h))
  have hin12 : ∀ w ∈ u_ws RX12 TX12 59, w ∈ vs_n_laySpanV := fun w h => (List.mem_cons_of_mem _ (List.mem_append_right _ (List.mem_append_right _ (List.mem_append_right _ (List.mem_append_right _ (List.mem_append_right _ h))))))
  refine zQ (fun Q hQ => ?_)
  refine zH (A := A) (ws := mW h ad cl σ) (fun H hP hS => ?_) hP
  have bσ_30 : 0 ≤ (σ.1 30).toInt ∧ (σ.1 30).toInt ≤ 1 := hI.1 30
  unfold StOk at hst
  refine lv_aload_n hx hb dX12_laySpan_0 rfl (lv_at hl 0 rfl) ?_
  refine va_get (D := (dC, dI)) (ci := 12) (v := .ref (ad 17)) (C := RX12) (T := TX12) (N := 59) hx hb hts hin12 hown hK hP 0 rfl rfl 17 (Nat.le_of_ble_eq_true rfl) (ho (.fieldLink RX12 39 "NearEnoughModel" "sKind" "[I") (List.mem_of_getElem? (i := 0) rfl)) (fun _ h9 => h9) rfl dX12_laySpan_1 ?_
  refine lv_iload_n hx hb dX12_laySpan_4 rfl (lv_at hl 1 rfl) ?_
  have o1 : 0 ≤ x.toInt := by omega
  have o2 : x.toInt < ((24 : Nat) : Int) := by omega
  refine va_iald hx hb hK hP 9 8 rfl rfl (ti_inx o1 o2) dX12_laySpan_5 ?_
  refine lv_topi (fun z1_ ez1_ => ?_)
  have gz1_ : z1_.toInt = ((σ.2.1 17) (Int32.toNatClampNeg x)).toInt := congrArg Int32.toInt (ez1_.trans (congrFun rfl (Int32.toNatClampNeg x)))
  have bz1_ : 0 ≤ z1_.toInt ∧ z1_.toInt ≤ 7 := by rw [ez1_]; exact (hI.2 17) _ (cl_lt (n := 24) o1 o2)
  refine lv_istore_n (lv' := [(2, .int z1_), (0, .ref h), (1, .int x)]) hx hb dX12_laySpan_6 rfl hl (Nat.le_of_ble_eq_true rfl) rfl (fun ls hl => ?_)
  refine lv_iload_n hx hb dX12_laySpan_7 rfl (lv_at hl 0 rfl) ?_
  refine lv_iconst (v := 1) hx hb dX12_laySpan_8 rg_6 ?_
  refine lv_icmp_le (tgt := 18) hx hb dX12_laySpan_9 rfl (fun c2_ => ?_) (fun c2_ => ?_)
  · have tc2_ := (show z1_.toInt ≤ 1 from ti_le rfl rg_18 c2_)
    refine lv_iconst (v := 2) hx hb dX12_laySpan_18 rg_19 ?_
    refine lv_aload_n hx hb dX12_laySpan_19 rfl (lv_at hl 1 rfl) ?_
    refine va_get (D := (dC, dI)) (ci := 12) (v := .int (σ.1 30)) (C := RX12) (T := TX12) (N := 59) hx hb hts hin12 hown hK hP 0 rfl rfl 30 (Nat.le_of_ble_eq_true rfl) (ho (.fieldLink RX12 243 "NearEnoughModel" "rb" "I") (List.mem_of_getElem? (i := 1) rfl)) (fun _ h9 => h9) rfl dX12_laySpan_20 ?_
    have bσ_30 : 0 ≤ (σ.1 30).toInt ∧ (σ.1 30).toInt ≤ 1 := hI.1 30
    refine lv_imul hx hb dX12_laySpan_23 ?_
    refine lv_topi (fun z3_ ez3_ => ?_)
    have o3 : -2147483648 ≤ 2 * (σ.1 30).toInt := by omega
    have o4 : 2 * (σ.1 30).toInt ≤ 2147483647 := by omega
    have tz3_ : z3_.toInt = 2 * (σ.1 30).toInt := ti_mul ez3_ rg_20 rfl o3 o4
    refine lv_aload_n hx hb dX12_laySpan_24 rfl (lv_at hl 1 rfl) ?_
    refine va_get (D := (dC, dI)) (ci := 12) (v := .ref (ad 18)) (C := RX12) (T := TX12) (N := 59) hx hb hts hin12 hown hK hP 0 rfl rfl 18 (Nat.le_of_ble_eq_true rfl) (ho (.fieldLink RX12 42 "NearEnoughModel" "sA" "[I") (List.mem_of_getElem? (i := 2) rfl)) (fun _ h9 => h9) rfl dX12_laySpan_25 ?_
    refine lv_iload_n hx hb dX12_laySpan_28 rfl (lv_at hl 2 rfl) ?_
    refine va_iald hx hb hK hP 10 9 rfl rfl (ti_inx o1 o2) dX12_laySpan_29 ?_
    refine lv_topi (fun z4_ ez4_ => ?_)
    have gz4_ : z4_.toInt = ((σ.2.1 18) (Int32.toNatClampNeg x)).toInt := congrArg Int32.toInt (ez4_.trans (congrFun rfl (Int32.toNatClampNeg x)))
    have bz4_ : (-1) ≤ z4_.toInt ∧ z4_.toInt ≤ 11 := by rw [ez4_]; exact (hI.2 18) _ (cl_lt (n := 24) o1 o2)
    refine lv_iadd hx hb dX12_laySpan_30 ?_
    refine lv_topi (fun z5_ ez5_ => ?_)
    have o5 : -2147483648 ≤ z3_.toInt + z4_.toInt := by omega
    have o6 : z3_.toInt + z4_.toInt ≤ 2147483647 := by omega
    have tz5_ : z5_.toInt = z3_.toInt + z4_.toInt := ti_add ez5_ rfl rfl o5 o6
    have o7 : 0 ≤ z4_.toInt := by omega
    have o8 : z5_.toInt = 2 * (σ.1 30).toInt + z4_.toInt := by omega
    have Xz5_ : z5_.toNatClampNeg = 2 * (σ.1 30).toNatClampNeg + (σ.2.1 18 (Int32.toNatClampNeg x)).toNatClampNeg := by rw [← ez4_]; exact row_x (hI.1 30).1 o7 o8
    refine lv_istore_n (lv' := [(3, .int z5_), (2, .int z1_), (0, .ref h), (1, .int x)]) hx hb dX12_laySpan_31 rfl hl (Nat.le_of_ble_eq_true rfl) rfl (fun ls hl => ?_)
    refine lv_iload_n hx hb dX12_laySpan_32 rfl (lv_at hl 1 rfl) ?_
    refine lv_if_ne (tgt := 46) hx hb dX12_laySpan_33 rfl (fun c6_ => ?_) (fun c6_ => ?_)
    · have tc6_ := (show z1_.toInt ≠ 0 from ti_ne rfl rg_11 c6_)
      refine lv_lconst (v := 1) hx hb dX12_laySpan_46 (by decide) ?_
      refine lv_lstore (lv' := [(4, .long 1), (3, .int z5_), (2, .int z1_), (0, .ref h), (1, .int x)]) hx hb dX12_laySpan_47 hl (Nat.le_of_ble_eq_true rfl) rfl (fun ls hl => ?_)
      refine lv_aload_n hx hb dX12_laySpan_49 rfl (lv_at hl 3 rfl) ?_
      refine va_get (D := (dC, dI)) (ci := 12) (v := .ref (ad 27)) (C := RX12) (T := TX12) (N := 59) hx hb hts hin12 hown hK hP 0 rfl rfl 27 (Nat.le_of_ble_eq_true rfl) (ho (.fieldLink RX12 70 "NearEnoughModel" "sLeast" "[J") (List.mem_of_getElem? (i := 3) rfl)) (fun _ h9 => h9) rfl dX12_laySpan_50 ?_
      refine lv_iload_n hx hb dX12_laySpan_53 rfl (lv_at hl 4 rfl) ?_
      refine lv_lload hx hb dX12_laySpan_54 (lv_at hl 0 rfl) ?_
      refine lv_aload_n hx hb dX12_laySpan_56 rfl (lv_at hl 3 rfl) ?_
      refine va_get (D := (dC, dI)) (ci := 12) (v := .ref (ad 15)) (C := RX12) (T := TX12) (N := 59) hx hb hts hin12 hown hK hP 0 rfl rfl 15 (Nat.le_of_ble_eq_true rfl) (ho (.fieldLink RX12 33 "NearEnoughModel" "rLeast" "[I") (List.mem_of_getElem? (i := 4) rfl)) (fun _ h9 => h9) rfl dX12_laySpan_57 ?_
      refine lv_iload_n hx hb dX12_laySpan_60 rfl (lv_at hl 1 rfl) ?_
      have o9 : 0 ≤ z5_.toInt := by omega
      have o10 : z5_.toInt < ((4 : Nat) : Int) := by omega
      refine va_iald hx hb hK hP 7 6 rfl rfl (ti_inx o9 o10) dX12_laySpan_61 ?_
      refine lv_topi (fun z7_ ez7_ => ?_)
      have gz7_ : z7_.toInt = ((σ.2.1 15) (Int32.toNatClampNeg z5_)).toInt := congrArg Int32.toInt (ez7_.trans (congrFun rfl (Int32.toNatClampNeg z5_)))
      refine lv_i2l hx hb dX12_laySpan_62 rfl ?_
      refine lv_topl (fun y8_ ey8_ => ?_)
      refine lv_lmul hx hb dX12_laySpan_63 ?_
      refine lv_topl (fun y9_ ey9_ => ?_)
      refine va_last hx hb hK hP hD hS 19 18 rfl rfl (ti_inx o1 o2) dX12_laySpan_64 (fun H locs hP hD hS => ?_)
      rw [wS27] at hP hD
      obtain ⟨τ10_, eτ10_⟩ : ∃ x9 : MS, x9 = sJ σ 27 (vp_updL (σ.2.2.1 27) (Int32.toNatClampNeg x) y9_) := ⟨_, rfl⟩
      have hP : va_P (dC, dI) vwCl (mW h ad cl τ10_) H := by rw [eτ10_]; exact hP
      have hD : va_D A (mW h ad cl τ10_) := by rw [eτ10_]; exact hD
      have hIτ10_ : Inv τ10_ := by rw [eτ10_]; exact (Inv.sJ hI)
      have Xτ10_ : eqx [27, 28] τ10_ σ := (eqx.eq eτ10_ (eqx.sJ eqx.rf rg_169))
      have qq11_ : (τ10_.1 30).toInt = ((σ.1 30) : Int32).toInt := congrArg Int32.toInt ((show τ10_.1 30 = (σ.1 30) from (congrArg (fun x9 : MS => x9.1 30) eτ10_).trans rfl))
      refine lv_aload_n hx hb dX12_laySpan_65 rfl (lv_at hl 3 rfl) ?_
      refine va_get (D := (dC, dI)) (ci := 12) (v := .ref (ad 28)) (C := RX12) (T := TX12) (N := 59) hx hb hts hin12 hown hK hP 0 rfl rfl 28 (Nat.le_of_ble_eq_true rfl) (ho (.fieldLink RX12 73 "NearEnoughModel" "sMost" "[J") (List.mem_of_getElem? (i := 5) rfl)) (fun _ h9 => h9) rfl dX12_laySpan_66 ?_
      refine lv_iload_n hx hb dX12_laySpan_69 rfl (lv_at hl 4 rfl) ?_
      refine lv_lload hx hb dX12_laySpan_70 (lv_at hl 0 rfl) ?_
      refine lv_aload_n hx hb dX12_laySpan_72 rfl (lv_at hl 3 rfl) ?_
      refine va_get (D := (dC, dI)) (ci := 12) (v := .ref (ad 16)) (C := RX12) (T := TX12) (N := 59) hx hb hts hin12 hown hK hP 0 rfl rfl 16 (Nat.le_of_ble_eq_true rfl) (ho (.fieldLink RX12 36 "NearEnoughModel" "rMost" "[I") (List.mem_of_getElem? (i := 6) rfl)) (fun _ h9 => h9) rfl dX12_laySpan_73 ?_
      refine lv_iload_n hx hb dX12_laySpan_76 rfl (lv_at hl 1 rfl) ?_
      refine va_iald hx hb hK hP 8 7 rfl rfl (ti_inx o9 o10) dX12_laySpan_77 ?_
      refine lv_topi (fun z12_ ez12_ => ?_)
      have gz12_ : z12_.toInt = ((σ.2.1 16) (Int32.toNatClampNeg z5_)).toInt := congrArg Int32.toInt (ez12_.trans (congrFun ((congrArg (fun x9 : MS => x9.2.1 16) eτ10_).trans (tJ.trans rfl)) (Int32.toNatClampNeg z5_)))
      refine lv_i2l hx hb dX12_laySpan_78 rfl ?_
      refine lv_topl (fun y13_ ey13_ => ?_)
      refine lv_lmul hx hb dX12_laySpan_79 ?_
      refine lv_topl (fun y14_ ey14_ => ?_)
      refine va_last hx hb hK hP hD hS 20 19 rfl rfl (ti_inx o1 o2) dX12_laySpan_80 (fun H locs hP hD hS => ?_)
      rw [wS28] at hP hD
      obtain ⟨τ15_, eτ15_⟩ : ∃ x9 : MS, x9 = sJ τ10_ 28 (vp_updL (τ10_.2.2.1 28) (Int32.toNatClampNeg x) y14_) := ⟨_, rfl⟩
      have hP : va_P (dC, dI) vwCl (mW h ad cl τ15_) H := by rw [eτ15_]; exact hP
      have hD : va_D A (mW h ad cl τ15_) := by rw [eτ15_]; exact hD
      have hIτ15_ : Inv τ15_ := by rw [eτ15_]; exact (Inv.sJ hIτ10_)
      have Xτ15_ : eqx [27, 28] τ15_ σ := (eqx.eq eτ15_ (eqx.sJ Xτ10_ rg_170))
      have qq16_ : (τ15_.1 30).toInt = ((σ.1 30) : Int32).toInt := congrArg Int32.toInt ((show τ15_.1 30 = (σ.1 30) from (congrArg (fun x9 : MS => x9.1 30) eτ15_).trans (show τ10_.1 30 = (σ.1 30) from (congrArg (fun x9 : MS => x9.1 30) eτ10_).trans rfl)))
      rw [hQ]
      have A17_ : τ15_.2.2.1 27 = vp_updL (σ.2.2.1 27) (Int32.toNatClampNeg x) y9_ := by rw [eτ15_, eτ10_]; rfl
      have A18_ : τ15_.2.2.1 28 = vp_updL (σ.2.2.1 28) (Int32.toNatClampNeg x) y14_ := by rw [eτ15_, eτ10_]; rfl
      have o11 : (σ.2.1 17 (Int32.toNatClampNeg x)).toInt = 1 ∨ (σ.2.1 17 (Int32.toNatClampNeg x)).toInt = 6 := by omega
      have E1_ : ∀ p9, τ10_.2.1 p9 = σ.2.1 p9 := fun p9 => by rw [eτ10_]; rfl
      have N19_ : SpnV (σ.1 30).toNatClampNeg (Int32.toNatClampNeg x) σ.2.1 σ.2.2.1 y9_ y14_ := sv_1 o11 (by simp only [lo4, hi4, E1_, ez1_, ez3_, ez4_, ez7_, ey8_, ey9_, ez12_, ey13_, ey14_, Xz5_]) (by simp only [lo4, hi4, E1_, ez1_, ez3_, ez4_, ez7_, ey8_, ey9_, ez12_, ey13_, ey14_, Xz5_])
      exact W.vret hx hb hr (fun t ht hW => ⟨⟨τ15_, rfl, ⟨hIτ15_, Xτ15_, ⟨y9_, y14_, A17_, A18_, N19_⟩⟩, wEn_of hP (hK.sub [] rfl) hD ht hW⟩, hS.F ht⟩) hS.2.2 dX12_laySpan_81
    · have tc6_ := (show z1_.toInt = 0 from ti_eq rfl rg_11 c6_)
      refine lv_aload_n hx hb dX12_laySpan_36 rfl (lv_at hl 2 rfl) ?_
      refine va_get (D := (dC, dI)) (ci := 12) (v := .ref (ad 14)) (C := RX12) (T := TX12) (N := 59) hx hb hts hin12 hown hK hP 0 rfl rfl 14 (Nat.le_of_ble_eq_true rfl) (ho (.fieldLink RX12 30 "NearEnoughModel" "rHas" "[I") (List.mem_of_getElem? (i := 7) rfl)) (fun _ h9 => h9) rfl dX12_laySpan_37 ?_
      refine lv_iload_n hx hb dX12_laySpan_40 rfl (lv_at hl 0 rfl) ?_
      have o12 : 0 ≤ z5_.toInt := by omega
      have o13 : z5_.toInt < ((4 : Nat) : Int) := by omega
      refine va_iald hx hb hK hP 6 5 rfl rfl (ti_inx o12 o13) dX12_laySpan_41 ?_
      refine lv_topi (fun z20_ ez20_ => ?_)
      have gz20_ : z20_.toInt = ((σ.2.1 14) (Int32.toNatClampNeg z5_)).toInt := congrArg Int32.toInt (ez20_.trans (congrFun rfl (Int32.toNatClampNeg z5_)))
      have bz20_ : 0 ≤ z20_.toInt ∧ z20_.toInt ≤ 6 := by rw [ez20_]; exact (hI.2 14) _ (cl_lt (n := 4) o12 o13)
      refine lv_i2l hx hb dX12_laySpan_42 rfl ?_
      refine lv_topl (fun y21_ ey21_ => ?_)
      refine lv_goto (tgt := 47) hx hb dX12_laySpan_43 rfl ?_
      refine lv_lstore (lv' := [(4, .long y21_), (3, .int z5_), (2, .int z1_), (0, .ref h), (1, .int x)]) hx hb dX12_laySpan_47 hl (Nat.le_of_ble_eq_true rfl) rfl (fun ls hl => ?_)
      refine lv_aload_n hx hb dX12_laySpan_49 rfl (lv_at hl 3 rfl) ?_
      refine va_get (D := (dC, dI)) (ci := 12) (v := .ref (ad 27)) (C := RX12) (T := TX12) (N := 59) hx hb hts hin12 hown hK hP 0 rfl rfl 27 (Nat.le_of_ble_eq_true rfl) (ho (.fieldLink RX12 70 "NearEnoughModel" "sLeast" "[J") (List.mem_of_getElem? (i := 3) rfl)) (fun _ h9 => h9) rfl dX12_laySpan_50 ?_
      refine lv_iload_n hx hb dX12_laySpan_53 rfl (lv_at hl 4 rfl) ?_
      refine lv_lload hx hb dX12_laySpan_54 (lv_at hl 0 rfl) ?_
      refine lv_aload_n hx hb dX12_laySpan_56 rfl (lv_at hl 3 rfl) ?_
      refine va_get (D := (dC, dI)) (ci := 12) (v := .ref (ad 15)) (C := RX12) (T := TX12) (N := 59) hx hb hts hin12 hown hK hP 0 rfl rfl 15 (Nat.le_of_ble_eq_true rfl) (ho (.fieldLink RX12 33 "NearEnoughModel" "rLeast" "[I") (List.mem_of_getElem? (i := 4) rfl)) (fun _ h9 => h9) rfl dX12_laySpan_57 ?_
      refine lv_iload_n hx hb dX12_laySpan_60 rfl (lv_at hl 1 rfl) ?_
      refine va_iald hx hb hK hP 7 6 rfl rfl (ti_inx o12 o13) dX12_laySpan_61 ?_
      refine lv_topi (fun z22_ ez22_ => ?_)
      have gz22_ : z22_.toInt = ((σ.2.1 15) (Int32.toNatClampNeg z5_)).toInt := congrArg Int32.toInt (ez22_.trans (congrFun rfl (Int32.toNatClampNeg z5_)))
      refine lv_i2l hx hb dX12_laySpan_62 rfl ?_
      refine lv_topl (fun y23_ ey23_ => ?_)
      refine lv_lmul hx hb dX12_laySpan_63 ?_
      refine lv_topl (fun y24_ ey24_ => ?_)
      refine va_last hx hb hK hP hD hS 19 18 rfl rfl (ti_inx o1 o2) dX12_laySpan_64 (fun H locs hP hD hS => ?_)
      rw [wS27] at hP hD
      obtain ⟨τ25_, eτ25_⟩ : ∃ x9 : MS, x9 = sJ σ 27 (vp_updL (σ.2.2.1 27) (Int32.toNatClampNeg x) y24_) := ⟨_, rfl⟩
      have hP : va_P (dC, dI) vwCl (mW h ad cl τ25_) H := by rw [eτ25_]; exact hP
      have hD : va_D A (mW h ad cl τ25_) := by rw [eτ25_]; exact hD
      have hIτ25_ : Inv τ25_ := by rw [eτ25_]; exact (Inv.sJ hI)
      have Xτ25_ : eqx [27, 28] τ25_ σ := (eqx.eq eτ25_ (eqx.sJ eqx.rf rg_169))
      have qq26_ : (τ25_.1 30).toInt = ((σ.1 30) : Int32).toInt := congrArg Int32.toInt ((show τ25_.1 30 = (σ.1 30) from (congrArg (fun x9 : MS => x9.1 30) eτ25_).trans rfl))
      refine lv_aload_n hx hb dX12_laySpan_65 rfl (lv_at hl 3 rfl) ?_
      refine va_get (D := (dC, dI)) (ci := 12) (v := .ref (ad 28)) (C := RX12) (T := TX12) (N := 59) hx hb hts hin12 hown hK hP 0 rfl rfl 28 (Nat.le_of_ble_eq_true rfl) (ho (.fieldLink RX12 73 "NearEnoughModel" "sMost" "[J") (List.mem_of_getElem? (i := 5) rfl)) (fun _ h9 => h9) rfl dX12_laySpan_66 ?_
      refine lv_iload_n hx hb dX12_laySpan_69 rfl (lv_at hl 4 rfl) ?_
      refine lv_lload hx hb dX12_laySpan_70 (lv_at hl 0 rfl) ?_
      refine lv_aload_n hx hb dX12_laySpan_72 rfl (lv_at hl 3 rfl) ?_
      refine va_get (D := (dC, dI)) (ci := 12) (v := .ref (ad 16)) (C := RX12) (T := TX12) (N := 59) hx hb hts hin12 hown hK hP 0 rfl rfl 16 (Nat.le_of_ble_eq_true rfl) (ho (.fieldLink RX12 36 "NearEnoughModel" "rMost" "[I") (List.mem_of_getElem? (i := 6) rfl)) (fun _ h9 => h9) rfl dX12_laySpan_73 ?_
      refine lv_iload_n hx hb dX12_laySpan_76 rfl (lv_at hl 1 rfl) ?_
      refine va_iald hx hb hK hP 8 7 rfl rfl (ti_inx o12 o13) dX12_laySpan_77 ?_
      refine lv_topi (fun z27_ ez27_ => ?_)
      have gz27_ : z27_.toInt = ((σ.2.1 16) (Int32.toNatClampNeg z5_)).toInt := congrArg Int32.toInt (ez27_.trans (congrFun ((congrArg (fun x9 : MS => x9.2.1 16) eτ25_).trans (tJ.trans rfl)) (Int32.toNatClampNeg z5_)))
      refine lv_i2l hx hb dX12_laySpan_78 rfl ?_
      refine lv_topl (fun y28_ ey28_ => ?_)
      refine lv_lmul hx hb dX12_laySpan_79 ?_
      refine lv_topl (fun y29_ ey29_ => ?_)
      refine va_last hx hb hK hP hD hS 20 19 rfl rfl (ti_inx o1 o2) dX12_laySpan_80 (fun H locs hP hD hS => ?_)
      rw [wS28] at hP hD
      obtain ⟨τ30_, eτ30_⟩ : ∃ x9 : MS, x9 = sJ τ25_ 28 (vp_updL (τ25_.2.2.1 28) (Int32.toNatClampNeg x) y29_) := ⟨_, rfl⟩
      have hP : va_P (dC, dI) vwCl (mW h ad cl τ30_) H := by rw [eτ30_]; exact hP
      have hD : va_D A (mW h ad cl τ30_) := by rw [eτ30_]; exact hD
      have hIτ30_ : Inv τ30_ := by rw [eτ30_]; exact (Inv.sJ hIτ25_)
      have Xτ30_ : eqx [27, 28] τ30_ σ := (eqx.eq eτ30_ (eqx.sJ Xτ25_ rg_170))
      have qq31_ : (τ30_.1 30).toInt = ((σ.1 30) : Int32).toInt := congrArg Int32.toInt ((show τ30_.1 30 = (σ.1 30) from (congrArg (fun x9 : MS => x9.1 30) eτ30_).trans (show τ25_.1 30 = (σ.1 30) from (congrArg (fun x9 : MS => x9.1 30) eτ25_).trans rfl)))
      rw [hQ]
      have A32_ : τ30_.2.2.1 27 = vp_updL (σ.2.2.1 27) (Int32.toNatClampNeg x) y24_ := by rw [eτ30_, eτ25_]; rfl
      have A33_ : τ30_.2.2.1 28 = vp_updL (σ.2.2.1 28) (Int32.toNatClampNeg x) y29_ := by rw [eτ30_, eτ25_]; rfl
      have o14 : (σ.2.1 17 (Int32.toNatClampNeg x)).toInt = 0 := by omega
      have E1_ : ∀ p9, τ25_.2.1 p9 = σ.2.1 p9 := fun p9 => by rw [eτ25_]; rfl
      have N34_ : SpnV (σ.1 30).toNatClampNeg (Int32.toNatClampNeg x) σ.2.1 σ.2.2.1 y24_ y29_ := sv_0 o14 (by simp only [lo4, hi4, E1_, ez1_, ez3_, ez4_, ez20_, ey21_, ez22_, ey23_, ey24_, ez27_, ey28_, ey29_, Xz5_]) (by simp only [lo4, hi4, E1_, ez1_, ez3_, ez4_, ez20_, ey21_, ez22_, ey23_, ey24_, ez27_, ey28_, ey29_, Xz5_])
      exact W.vret hx hb hr (fun t ht hW => ⟨⟨τ30_, rfl, ⟨hIτ30_, Xτ30_, ⟨y24_, y29_, A32_, A33_, N34_⟩⟩, wEn_of hP (hK.sub [] rfl) hD ht hW⟩, hS.F ht⟩) hS.2.2 dX12_laySpan_81
  · have tc2_ := (show 1 < z1_.toInt from ti_nle rfl rg_18 c2_)
    refine lv_iload_n hx hb dX12_laySpan_12 rfl (lv_at hl 0 rfl) ?_
    refine lv_bipush (v := 6) hx hb dX12_laySpan_13 rg_55 ?_
    refine lv_icmp_ne (tgt := 82) hx hb dX12_laySpan_15 rfl (fun c35_ => ?_) (fun c35_ => ?_)
    · have tc35_ := (show z1_.toInt ≠ 6 from ti_ne rfl rg_70 c35_)
      refine lv_bipush (v := 12) hx hb dX12_laySpan_82 rg_57 ?_
      refine lv_aload_n hx hb dX12_laySpan_84 rfl (lv_at hl 1 rfl) ?_
      refine va_get (D := (dC, dI)) (ci := 12) (v := .int (σ.1 30)) (C := RX12) (T := TX12) (N := 59) hx hb hts hin12 hown hK hP 0 rfl rfl 30 (Nat.le_of_ble_eq_true rfl) (ho (.fieldLink RX12 243 "NearEnoughModel" "rb" "I") (List.mem_of_getElem? (i := 1) rfl)) (fun _ h9 => h9) rfl dX12_laySpan_85 ?_
      have bσ_30 : 0 ≤ (σ.1 30).toInt ∧ (σ.1 30).toInt ≤ 1 := hI.1 30
      refine lv_imul hx hb dX12_laySpan_88 ?_
      refine lv_topi (fun z36_ ez36_ => ?_)
      have o15 : -2147483648 ≤ 12 * (σ.1 30).toInt := by omega
      have o16 : 12 * (σ.1 30).toInt ≤ 2147483647 := by omega
      have tz36_ : z36_.toInt = 12 * (σ.1 30).toInt := ti_mul ez36_ rg_58 rfl o15 o16
      refine lv_istore_n (lv' := [(3, .int z36_), (2, .int z1_), (0, .ref h), (1, .int x)]) hx hb dX12_laySpan_89 rfl hl (Nat.le_of_ble_eq_true rfl) rfl (fun ls hl => ?_)
      refine lv_aload_n hx hb dX12_laySpan_90 rfl (lv_at hl 2 rfl) ?_
      refine va_get (D := (dC, dI)) (ci := 12) (v := .ref (ad 27)) (C := RX12) (T := TX12) (N := 59) hx hb hts hin12 hown hK hP 0 rfl rfl 27 (Nat.le_of_ble_eq_true rfl) (ho (.fieldLink RX12 70 "NearEnoughModel" "sLeast" "[J") (List.mem_of_getElem? (i := 3) rfl)) (fun _ h9 => h9) rfl dX12_laySpan_91 ?_
      refine lv_iload_n hx hb dX12_laySpan_94 rfl (lv_at hl 0 rfl) ?_
      refine lv_aload_n hx hb dX12_laySpan_95 rfl (lv_at hl 2 rfl) ?_
      refine va_get (D := (dC, dI)) (ci := 12) (v := .ref (ad 18)) (C := RX12) (T := TX12) (N := 59) hx hb hts hin12 hown hK hP 0 rfl rfl 18 (Nat.le_of_ble_eq_true rfl) (ho (.fieldLink RX12 42 "NearEnoughModel" "sA" "[I") (List.mem_of_getElem? (i := 2) rfl)) (fun _ h9 => h9) rfl dX12_laySpan_96 ?_
      refine lv_iload_n hx hb dX12_laySpan_99 rfl (lv_at hl 3 rfl) ?_
      refine va_iald hx hb hK hP 10 9 rfl rfl (ti_inx o1 o2) dX12_laySpan_100 ?_
      refine lv_topi (fun z37_ ez37_ => ?_)
      have gz37_ : z37_.toInt = ((σ.2.1 18) (Int32.toNatClampNeg x)).toInt := congrArg Int32.toInt (ez37_.trans (congrFun rfl (Int32.toNatClampNeg x)))
      have bz37_ : (-1) ≤ z37_.toInt ∧ z37_.toInt ≤ 11 := by rw [ez37_]; exact (hI.2 18) _ (cl_lt (n := 24) o1 o2)
      refine lv_iadd hx hb dX12_laySpan_101 ?_
      refine lv_topi (fun z38_ ez38_ => ?_)
      have o17 : -2147483648 ≤ z36_.toInt + z37_.toInt := by omega
      have o18 : z36_.toInt + z37_.toInt ≤ 2147483647 := by omega
      have tz38_ : z38_.toInt = z36_.toInt + z37_.toInt := ti_add ez38_ rfl rfl o17 o18
      have o19 : 0 ≤ z37_.toInt := by omega
      have o20 : z38_.toInt = 12 * (σ.1 30).toInt + z37_.toInt := by omega
      have Xz38_ : z38_.toNatClampNeg = 12 * (σ.1 30).toNatClampNeg + (σ.2.1 18 (Int32.toNatClampNeg x)).toNatClampNeg := by rw [← ez37_]; exact at0x (hI.1 30).1 o19 o20
      have o21 : 0 ≤ z38_.toInt := by omega
      have o22 : z38_.toInt < ((24 : Nat) : Int) := by omega
      refine va_lald hx hb hK hP 19 18 rfl rfl (ti_inx o21 o22) dX12_laySpan_102 ?_
      refine lv_topl (fun y39_ ey39_ => ?_)
      refine lv_lstore (lv' := [(4, .long y39_), (3, .int z36_), (2, .int z1_), (0, .ref h), (1, .int x)]) hx hb dX12_laySpan_103 hl (Nat.le_of_ble_eq_true rfl) rfl (fun ls hl => ?_)
      refine lv_aload_n hx hb dX12_laySpan_105 rfl (lv_at hl 3 rfl) ?_
      refine va_get (D := (dC, dI)) (ci := 12) (v := .ref (ad 28)) (C := RX12) (T := TX12) (N := 59) hx hb hts hin12 hown hK hP 0 rfl rfl 28 (Nat.le_of_ble_eq_true rfl) (ho (.fieldLink RX12 73 "NearEnoughModel" "sMost" "[J") (List.mem_of_getElem? (i := 5) rfl)) (fun _ h9 => h9) rfl dX12_laySpan_106 ?_
      refine lv_iload_n hx hb dX12_laySpan_109 rfl (lv_at hl 1 rfl) ?_
      refine lv_aload_n hx hb dX12_laySpan_110 rfl (lv_at hl 3 rfl) ?_
      refine va_get (D := (dC, dI)) (ci := 12) (v := .ref (ad 18)) (C := RX12) (T := TX12) (N := 59) hx hb hts hin12 hown hK hP 0 rfl rfl 18 (Nat.le_of_ble_eq_true rfl) (ho (.fieldLink RX12 42 "NearEnoughModel" "sA" "[I") (List.mem_of_getElem? (i := 2) rfl)) (fun _ h9 => h9) rfl dX12_laySpan_111 ?_
      refine lv_iload_n hx hb dX12_laySpan_114 rfl (lv_at hl 4 rfl) ?_
      refine va_iald hx hb hK hP 10 9 rfl rfl (ti_inx o1 o2) dX12_laySpan_115 ?_
      refine lv_topi (fun z40_ ez40_ => ?_)
      have qq41_ : z40_.toInt = z37_.toInt := congrArg Int32.toInt ((ez40_.trans (congrFun rfl (Int32.toNatClampNeg x))).trans ((ez37_.trans (congrFun rfl (Int32.toNatClampNeg x)))).symm)
      have gz40_ : z40_.toInt = ((σ.2.1 18) (Int32.toNatClampNeg x)).toInt := congrArg Int32.toInt (ez40_.trans (congrFun rfl (Int32.toNatClampNeg x)))
      have bz40_ : (-1) ≤ z40_.toInt ∧ z40_.toInt ≤ 11 := by rw [ez40_]; exact (hI.2 18) _ (cl_lt (n := 24) o1 o2)
      refine lv_iadd hx hb dX12_laySpan_116 ?_
      refine lv_topi (fun z42_ ez42_ => ?_)
      have o23 : -2147483648 ≤ z36_.toInt + z40_.toInt := by omega
      have o24 : z36_.toInt + z40_.toInt ≤ 2147483647 := by omega
      have tz42_ : z42_.toInt = z36_.toInt + z40_.toInt := ti_add ez42_ rfl rfl o23 o24
      have o25 : 0 ≤ z40_.toInt := by omega
      have o26 : z42_.toInt = 12 * (σ.1 30).toInt + z40_.toInt := by omega
      have Xz42_ : z42_.toNatClampNeg = 12 * (σ.1 30).toNatClampNeg + (σ.2.1 18 (Int32.toNatClampNeg x)).toNatClampNeg := by rw [← ez40_]; exact at0x (hI.1 30).1 o25 o26
      have o27 : 0 ≤ z42_.toInt := by omega
      have o28 : z42_.toInt < ((24 : Nat) : Int) := by omega
      refine va_lald hx hb hK hP 20 19 rfl rfl (ti_inx o27 o28) dX12_laySpan_117 ?_
      refine lv_topl (fun y43_ ey43_ => ?_)
      refine lv_lstore (lv' := [(6, .long y43_), (4, .long y39_), (3, .int z36_), (2, .int z1_), (0, .ref h), (1, .int x)]) hx hb dX12_laySpan_118 hl (Nat.le_of_ble_eq_true rfl) rfl (fun ls hl => ?_)
      refine lv_iload_n hx hb dX12_laySpan_120 rfl (lv_at hl 3 rfl) ?_
      refine lv_iconst (v := 5) hx hb dX12_laySpan_121 rg_14 ?_
      refine lv_icmp_ne (tgt := 216) hx hb dX12_laySpan_122 rfl (fun c44_ => ?_) (fun c44_ => ?_)
      · have tc44_ := (show z1_.toInt ≠ 5 from ti_ne rfl rg_15 c44_)
        refine lv_aload_n hx hb dX12_laySpan_216 rfl (lv_at hl 4 rfl) ?_
        refine va_get (D := (dC, dI)) (ci := 12) (v := .ref (ad 27)) (C := RX12) (T := TX12) (N := 59) hx hb hts hin12 hown hK hP 0 rfl rfl 27 (Nat.le_of_ble_eq_true rfl) (ho (.fieldLink RX12 70 "NearEnoughModel" "sLeast" "[J") (List.mem_of_getElem? (i := 3) rfl)) (fun _ h9 => h9) rfl dX12_laySpan_217 ?_
        refine lv_iload_n hx hb dX12_laySpan_220 rfl (lv_at hl 2 rfl) ?_
        refine lv_aload_n hx hb dX12_laySpan_221 rfl (lv_at hl 4 rfl) ?_
        refine va_get (D := (dC, dI)) (ci := 12) (v := .ref (ad 19)) (C := RX12) (T := TX12) (N := 59) hx hb hts hin12 hown hK hP 0 rfl rfl 19 (Nat.le_of_ble_eq_true rfl) (ho (.fieldLink RX12 45 "NearEnoughModel" "sB" "[I") (List.mem_of_getElem? (i := 8) rfl)) (fun _ h9 => h9) rfl dX12_laySpan_222 ?_
        refine lv_iload_n hx hb dX12_laySpan_225 rfl (lv_at hl 5 rfl) ?_
        refine va_iald hx hb hK hP 11 10 rfl rfl (ti_inx o1 o2) dX12_laySpan_226 ?_
        refine lv_topi (fun z45_ ez45_ => ?_)
        have gz45_ : z45_.toInt = ((σ.2.1 19) (Int32.toNatClampNeg x)).toInt := congrArg Int32.toInt (ez45_.trans (congrFun rfl (Int32.toNatClampNeg x)))
        have bz45_ : (-99) ≤ z45_.toInt ∧ z45_.toInt ≤ 99 := by rw [ez45_]; exact (hI.2 19) _ (cl_lt (n := 24) o1 o2)
        refine lv_iadd hx hb dX12_laySpan_227 ?_
        refine lv_topi (fun z46_ ez46_ => ?_)
        have o29 : -2147483648 ≤ z36_.toInt + z45_.toInt := by omega
        have o30 : z36_.toInt + z45_.toInt ≤ 2147483647 := by omega
        have tz46_ : z46_.toInt = z36_.toInt + z45_.toInt := ti_add ez46_ rfl rfl o29 o30
        have o31 : 0 ≤ z45_.toInt := by omega
        have o32 : z46_.toInt = 12 * (σ.1 30).toInt + z45_.toInt := by omega
        have Xz46_ : z46_.toNatClampNeg = 12 * (σ.1 30).toNatClampNeg + (σ.2.1 19 (Int32.toNatClampNeg x)).toNatClampNeg := by rw [← ez45_]; exact at0x (hI.1 30).1 o31 o32
        have o33 : 0 ≤ z46_.toInt := by omega
        have o34 : z46_.toInt < ((24 : Nat) : Int) := by omega
        refine va_lald hx hb hK hP 19 18 rfl rfl (ti_inx o33 o34) dX12_laySpan_228 ?_
        refine lv_topl (fun y47_ ey47_ => ?_)
        refine lv_lstore (lv' := [(8, .long y47_), (6, .long y43_), (4, .long y39_), (3, .int z36_), (2, .int z1_), (0, .ref h), (1, .int x)]) hx hb dX12_laySpan_229 hl (Nat.le_of_ble_eq_true rfl) rfl (fun ls hl => ?_)
        refine lv_aload_n hx hb dX12_laySpan_231 rfl (lv_at hl 5 rfl) ?_
        refine va_get (D := (dC, dI)) (ci := 12) (v := .ref (ad 28)) (C := RX12) (T := TX12) (N := 59) hx hb hts hin12 hown hK hP 0 rfl rfl 28 (Nat.le_of_ble_eq_true rfl) (ho (.fieldLink RX12 73 "NearEnoughModel" "sMost" "[J") (List.mem_of_getElem? (i := 5) rfl)) (fun _ h9 => h9) rfl dX12_laySpan_232 ?_
        refine lv_iload_n hx hb dX12_laySpan_235 rfl (lv_at hl 3 rfl) ?_
        refine lv_aload_n hx hb dX12_laySpan_236 rfl (lv_at hl 5 rfl) ?_
        refine va_get (D := (dC, dI)) (ci := 12) (v := .ref (ad 19)) (C := RX12) (T := TX12) (N := 59) hx hb hts hin12 hown hK hP 0 rfl rfl 19 (Nat.le_of_ble_eq_true rfl) (ho (.fieldLink RX12 45 "NearEnoughModel" "sB" "[I") (List.mem_of_getElem? (i := 8) rfl)) (fun _ h9 => h9) rfl dX12_laySpan_237 ?_
        refine lv_iload_n hx hb dX12_laySpan_240 rfl (lv_at hl 6 rfl) ?_
        refine va_iald hx hb hK hP 11 10 rfl rfl (ti_inx o1 o2) dX12_laySpan_241 ?_
        refine lv_topi (fun z48_ ez48_ => ?_)
        have qq49_ : z48_.toInt = z45_.toInt := congrArg Int32.toInt ((ez48_.trans (congrFun rfl (Int32.toNatClampNeg x))).trans ((ez45_.trans (congrFun rfl (Int32.toNatClampNeg x)))).symm)
        have gz48_ : z48_.toInt = ((σ.2.1 19) (Int32.toNatClampNeg x)).toInt := congrArg Int32.toInt (ez48_.trans (congrFun rfl (Int32.toNatClampNeg x)))
        have bz48_ : (-99) ≤ z48_.toInt ∧ z48_.toInt ≤ 99 := by rw [ez48_]; exact (hI.2 19) _ (cl_lt (n := 24) o1 o2)
        refine lv_iadd hx hb dX12_laySpan_242 ?_
        refine lv_topi (fun z50_ ez50_ => ?_)
        have o35 : -2147483648 ≤ z36_.toInt + z48_.toInt := by omega
        have o36 : z36_.toInt + z48_.toInt ≤ 2147483647 := by omega
        have tz50_ : z50_.toInt = z36_.toInt + z48_.toInt := ti_add ez50_ rfl rfl o35 o36
        have o37 : 0 ≤ z48_.toInt := by omega
        have o38 : z50_.toInt = 12 * (σ.1 30).toInt + z48_.toInt := by omega
        have Xz50_ : z50_.toNatClampNeg = 12 * (σ.1 30).toNatClampNeg + (σ.2.1 19 (Int32.toNatClampNeg x)).toNatClampNeg := by rw [← ez48_]; exact at0x (hI.1 30).1 o37 o38
        have o39 : 0 ≤ z50_.toInt := by omega
        have o40 : z50_.toInt < ((24 : Nat) : Int) := by omega
        refine va_lald hx hb hK hP 20 19 rfl rfl (ti_inx o39 o40) dX12_laySpan_243 ?_
        refine lv_topl (fun y51_ ey51_ => ?_)
        refine lv_lstore (lv' := [(10, .long y51_), (8, .long y47_), (6, .long y43_), (4, .long y39_), (3, .int z36_), (2, .int z1_), (0, .ref h), (1, .int x)]) hx hb dX12_laySpan_244 hl (Nat.le_of_ble_eq_true rfl) rfl (fun ls hl => ?_)
        refine lv_iload_n hx hb dX12_laySpan_246 rfl (lv_at hl 5 rfl) ?_
        refine lv_bipush (v := 7) hx hb dX12_laySpan_247 rg_54 ?_
        refine lv_icmp_ne (tgt := 279) hx hb dX12_laySpan_249 rfl (fun c52_ => ?_) (fun c52_ => ?_)
        · have tc52_ := (show z1_.toInt ≠ 7 from ti_ne rfl rg_77 c52_)
          refine lv_iload_n hx hb dX12_laySpan_279 rfl (lv_at hl 5 rfl) ?_
          refine lv_iconst (v := 4) hx hb dX12_laySpan_280 rg_31 ?_
          refine lv_icmp_ne (tgt := 355) hx hb dX12_laySpan_281 rfl (fun c53_ => ?_) (fun c53_ => ?_)
          · have tc53_ := (show z1_.toInt ≠ 4 from ti_ne rfl rg_32 c53_)
            refine lv_aload_n hx hb dX12_laySpan_355 rfl (lv_at hl 6 rfl) ?_
            refine va_get (D := (dC, dI)) (ci := 12) (v := .ref (ad 27)) (C := RX12) (T := TX12) (N := 59) hx hb hts hin12 hown hK hP 0 rfl rfl 27 (Nat.le_of_ble_eq_true rfl) (ho (.fieldLink RX12 70 "NearEnoughModel" "sLeast" "[J") (List.mem_of_getElem? (i := 3) rfl)) (fun _ h9 => h9) rfl dX12_laySpan_356 ?_
            refine lv_iload_n hx hb dX12_laySpan_359 rfl (lv_at hl 7 rfl) ?_
            refine lv_iload_n hx hb dX12_laySpan_360 rfl (lv_at hl 5 rfl) ?_
            refine lv_iconst (v := 2) hx hb dX12_laySpan_361 rg_19 ?_
            refine lv_icmp_ne (tgt := 373) hx hb dX12_laySpan_362 rfl (fun c54_ => ?_) (fun c54_ => ?_)
            · have tc54_ := (show z1_.toInt ≠ 2 from ti_ne rfl rg_20 c54_)
              refine lv_lload hx hb dX12_laySpan_373 (lv_at hl 3 rfl) ?_
              refine lv_lload hx hb dX12_laySpan_375 (lv_at hl 0 rfl) ?_
              refine lv_lsub hx hb dX12_laySpan_377 ?_
              refine lv_topl (fun y55_ ey55_ => ?_)
              refine va_last hx hb hK hP hD hS 19 18 rfl rfl (ti_inx o1 o2) dX12_laySpan_378 (fun H locs hP hD hS => ?_)
              rw [wS27] at hP hD
              obtain ⟨τ56_, eτ56_⟩ : ∃ x9 : MS, x9 = sJ σ 27 (vp_updL (σ.2.2.1 27) (Int32.toNatClampNeg x) y55_) := ⟨_, rfl⟩
              have hP : va_P (dC, dI) vwCl (mW h ad cl τ56_) H := by rw [eτ56_]; exact hP
              have hD : va_D A (mW h ad cl τ56_) := by rw [eτ56_]; exact hD
              have hIτ56_ : Inv τ56_ := by rw [eτ56_]; exact (Inv.sJ hI)
              have Xτ56_ : eqx [27, 28] τ56_ σ := (eqx.eq eτ56_ (eqx.sJ eqx.rf rg_169))
              have qq57_ : (τ56_.1 30).toInt = ((σ.1 30) : Int32).toInt := congrArg Int32.toInt ((show τ56_.1 30 = (σ.1 30) from (congrArg (fun x9 : MS => x9.1 30) eτ56_).trans rfl))
              refine lv_aload_n hx hb dX12_laySpan_379 rfl (lv_at hl 6 rfl) ?_
              refine va_get (D := (dC, dI)) (ci := 12) (v := .ref (ad 28)) (C := RX12) (T := TX12) (N := 59) hx hb hts hin12 hown hK hP 0 rfl rfl 28 (Nat.le_of_ble_eq_true rfl) (ho (.fieldLink RX12 73 "NearEnoughModel" "sMost" "[J") (List.mem_of_getElem? (i := 5) rfl)) (fun _ h9 => h9) rfl dX12_laySpan_380 ?_
              refine lv_iload_n hx hb dX12_laySpan_383 rfl (lv_at hl 7 rfl) ?_
              refine lv_iload_n hx hb dX12_laySpan_384 rfl (lv_at hl 5 rfl) ?_
              refine lv_iconst (v := 2) hx hb dX12_laySpan_385 rg_19 ?_
              have o41 : z1_.toInt ≠ 2 := by omega
              refine lv_icmp_ne (tgt := 397) hx hb dX12_laySpan_386 rfl (fun _ => ?_) (fun cc => absurd (ti_eq rfl rg_20 cc) o41)
              refine lv_lload hx hb dX12_laySpan_397 (lv_at hl 2 rfl) ?_
              refine lv_lload hx hb dX12_laySpan_399 (lv_at hl 1 rfl) ?_
              refine lv_lsub hx hb dX12_laySpan_401 ?_
              refine lv_topl (fun y59_ ey59_ => ?_)
              refine va_last hx hb hK hP hD hS 20 19 rfl rfl (ti_inx o1 o2) dX12_laySpan_402 (fun H locs hP hD hS => ?_)
              rw [wS28] at hP hD
              obtain ⟨τ60_, eτ60_⟩ : ∃ x9 : MS, x9 = sJ τ56_ 28 (vp_updL (τ56_.2.2.1 28) (Int32.toNatClampNeg x) y59_) := ⟨_, rfl⟩
              have hP : va_P (dC, dI) vwCl (mW h ad cl τ60_) H := by rw [eτ60_]; exact hP
              have hD : va_D A (mW h ad cl τ60_) := by rw [eτ60_]; exact hD
              have hIτ60_ : Inv τ60_ := by rw [eτ60_]; exact (Inv.sJ hIτ56_)
              have Xτ60_ : eqx [27, 28] τ60_ σ := (eqx.eq eτ60_ (eqx.sJ Xτ56_ rg_170))
              have qq61_ : (τ60_.1 30).toInt = ((σ.1 30) : Int32).toInt := congrArg Int32.toInt ((show τ60_.1 30 = (σ.1 30) from (congrArg (fun x9 : MS => x9.1 30) eτ60_).trans (show τ56_.1 30 = (σ.1 30) from (congrArg (fun x9 : MS => x9.1 30) eτ56_).trans rfl)))
              rw [hQ]
              have A62_ : τ60_.2.2.1 27 = vp_updL (σ.2.2.1 27) (Int32.toNatClampNeg x) y55_ := by rw [eτ60_, eτ56_]; rfl
              have A63_ : τ60_.2.2.1 28 = vp_updL (σ.2.2.1 28) (Int32.toNatClampNeg x) y59_ := by rw [eτ60_, eτ56_]; rfl
              have o42 : (σ.2.1 17 (Int32.toNatClampNeg x)).toInt = 3 := by omega
              have E1_ : ∀ p9, τ56_.2.1 p9 = σ.2.1 p9 := fun p9 => by rw [eτ56_]; rfl
              have N64_ : SpnV (σ.1 30).toNatClampNeg (Int32.toNatClampNeg x) σ.2.1 σ.2.2.1 y55_ y59_ := sv_3 o42 (by simp only [lo4, hi4, E1_, ez1_, ez36_, ez37_, ey39_, ez40_, ey43_, ez45_, ey47_, ez48_, ey51_, ey55_, ey59_, Xz38_, Xz42_, Xz46_, Xz50_]) (by simp only [lo4, hi4, E1_, ez1_, ez36_, ez37_, ey39_, ez40_, ey43_, ez45_, ey47_, ez48_, ey51_, ey55_, ey59_, Xz38_, Xz42_, Xz46_, Xz50_])
              exact W.vret hx hb hr (fun t ht hW => ⟨⟨τ60_, rfl, ⟨hIτ60_, Xτ60_, ⟨y55_, y59_, A62_, A63_, N64_⟩⟩, wEn_of hP (hK.sub [] rfl) hD ht hW⟩, hS.F ht⟩) hS.2.2 dX12_laySpan_403
            · have tc54_ := (show z1_.toInt = 2 from ti_eq rfl rg_20 c54_)
              refine lv_lload hx hb dX12_laySpan_365 (lv_at hl 3 rfl) ?_
              refine lv_lload hx hb dX12_laySpan_367 (lv_at hl 1 rfl) ?_
              refine lv_ladd hx hb dX12_laySpan_369 ?_
              refine lv_topl (fun y65_ ey65_ => ?_)
              refine lv_goto (tgt := 378) hx hb dX12_laySpan_370 rfl ?_
              refine va_last hx hb hK hP hD hS 19 18 rfl rfl (ti_inx o1 o2) dX12_laySpan_378 (fun H locs hP hD hS => ?_)
              rw [wS27] at hP hD
              obtain ⟨τ66_, eτ66_⟩ : ∃ x9 : MS, x9 = sJ σ 27 (vp_updL (σ.2.2.1 27) (Int32.toNatClampNeg x) y65_) := ⟨_, rfl⟩
              have hP : va_P (dC, dI) vwCl (mW h ad cl τ66_) H := by rw [eτ66_]; exact hP
              have hD : va_D A (mW h ad cl τ66_) := by rw [eτ66_]; exact hD
              have hIτ66_ : Inv τ66_ := by rw [eτ66_]; exact (Inv.sJ hI)
              have Xτ66_ : eqx [27, 28] τ66_ σ := (eqx.eq eτ66_ (eqx.sJ eqx.rf rg_169))
              have qq67_ : (τ66_.1 30).toInt = ((σ.1 30) : Int32).toInt := congrArg Int32.toInt ((show τ66_.1 30 = (σ.1 30) from (congrArg (fun x9 : MS => x9.1 30) eτ66_).trans rfl))
              refine lv_aload_n hx hb dX12_laySpan_379 rfl (lv_at hl 6 rfl) ?_
              refine va_get (D := (dC, dI)) (ci := 12) (v := .ref (ad 28)) (C := RX12) (T := TX12) (N := 59) hx hb hts hin12 hown hK hP 0 rfl rfl 28 (Nat.le_of_ble_eq_true rfl) (ho (.fieldLink RX12 73 "NearEnoughModel" "sMost" "[J") (List.mem_of_getElem? (i := 5) rfl)) (fun _ h9 => h9) rfl dX12_laySpan_380 ?_
              refine lv_iload_n hx hb dX12_laySpan_383 rfl (lv_at hl 7 rfl) ?_
              refine lv_iload_n hx hb dX12_laySpan_384 rfl (lv_at hl 5 rfl) ?_
              refine lv_iconst (v := 2) hx hb dX12_laySpan_385 rg_19 ?_
              have o43 : z1_.toInt = 2 := by omega
              refine lv_icmp_ne (tgt := 397) hx hb dX12_laySpan_386 rfl (fun cc => absurd o43 (ti_ne rfl rg_20 cc)) (fun _ => ?_)
              refine lv_lload hx hb dX12_laySpan_389 (lv_at hl 2 rfl) ?_
              refine lv_lload hx hb dX12_laySpan_391 (lv_at hl 0 rfl) ?_
              refine lv_ladd hx hb dX12_laySpan_393 ?_
              refine lv_topl (fun y69_ ey69_ => ?_)
              refine lv_goto (tgt := 402) hx hb dX12_laySpan_394 rfl ?_
              refine va_last hx hb hK hP hD hS 20 19 rfl rfl (ti_inx o1 o2) dX12_laySpan_402 (fun H locs hP hD hS => ?_)
              rw [wS28] at hP hD
              obtain ⟨τ70_, eτ70_⟩ : ∃ x9 : MS, x9 = sJ τ66_ 28 (vp_updL (τ66_.2.2.1 28) (Int32.toNatClampNeg x) y69_) := ⟨_, rfl⟩
              have hP : va_P (dC, dI) vwCl (mW h ad cl τ70_) H := by rw [eτ70_]; exact hP
              have hD : va_D A (mW h ad cl τ70_) := by rw [eτ70_]; exact hD
              have hIτ70_ : Inv τ70_ := by rw [eτ70_]; exact (Inv.sJ hIτ66_)
              have Xτ70_ : eqx [27, 28] τ70_ σ := (eqx.eq eτ70_ (eqx.sJ Xτ66_ rg_170))
              have qq71_ : (τ70_.1 30).toInt = ((σ.1 30) : Int32).toInt := congrArg Int32.toInt ((show τ70_.1 30 = (σ.1 30) from (congrArg (fun x9 : MS => x9.1 30) eτ70_).trans (show τ66_.1 30 = (σ.1 30) from (congrArg (fun x9 : MS => x9.1 30) eτ66_).trans rfl)))
              rw [hQ]
              have A72_ : τ70_.2.2.1 27 = vp_updL (σ.2.2.1 27) (Int32.toNatClampNeg x) y65_ := by rw [eτ70_, eτ66_]; rfl
              have A73_ : τ70_.2.2.1 28 = vp_updL (σ.2.2.1 28) (Int32.toNatClampNeg x) y69_ := by rw [eτ70_, eτ66_]; rfl
              have o44 : (σ.2.1 17 (Int32.toNatClampNeg x)).toInt = 2 := by omega
              have E1_ : ∀ p9, τ66_.2.1 p9 = σ.2.1 p9 := fun p9 => by rw [eτ66_]; rfl
              have N74_ : SpnV (σ.1 30).toNatClampNeg (Int32.toNatClampNeg x) σ.2.1 σ.2.2.1 y65_ y69_ := sv_2 o44 (by simp only [lo4, hi4, E1_, ez1_, ez36_, ez37_, ey39_, ez40_, ey43_, ez45_, ey47_, ez48_, ey51_, ey65_, ey69_, Xz38_, Xz42_, Xz46_, Xz50_]) (by simp only [lo4, hi4, E1_, ez1_, ez36_, ez37_, ey39_, ez40_, ey43_, ez45_, ey47_, ez48_, ey51_, ey65_, ey69_, Xz38_, Xz42_, Xz46_, Xz50_])
              exact W.vret hx hb hr (fun t ht hW => ⟨⟨τ70_, rfl, ⟨hIτ70_, Xτ70_, ⟨y65_, y69_, A72_, A73_, N74_⟩⟩, wEn_of hP (hK.sub [] rfl) hD ht hW⟩, hS.F ht⟩) hS.2.2 dX12_laySpan_403
          · have tc53_ := (show z1_.toInt = 4 from ti_eq rfl rg_32 c53_)
            refine lv_aload_n hx hb dX12_laySpan_284 rfl (lv_at hl 6 rfl) ?_
            refine va_get (D := (dC, dI)) (ci := 12) (v := .ref (ad 27)) (C := RX12) (T := TX12) (N := 59) hx hb hts hin12 hown hK hP 0 rfl rfl 27 (Nat.le_of_ble_eq_true rfl) (ho (.fieldLink RX12 70 "NearEnoughModel" "sLeast" "[J") (List.mem_of_getElem? (i := 3) rfl)) (fun _ h9 => h9) rfl dX12_laySpan_285 ?_
            refine lv_iload_n hx hb dX12_laySpan_288 rfl (lv_at hl 7 rfl) ?_
            refine lv_lload hx hb dX12_laySpan_289 (lv_at hl 3 rfl) ?_
            refine lv_lload hx hb dX12_laySpan_291 (lv_at hl 1 rfl) ?_
            refine lv_lmul hx hb dX12_laySpan_293 ?_
            refine lv_topl (fun y75_ ey75_ => ?_)
            refine lv_lload hx hb dX12_laySpan_294 (lv_at hl 3 rfl) ?_
            refine lv_lload hx hb dX12_laySpan_296 (lv_at hl 0 rfl) ?_
            refine lv_lmul hx hb dX12_laySpan_298 ?_
            refine lv_topl (fun y76_ ey76_ => ?_)
            refine zs_l (va_runS (As := [.long y75_, .long y76_]) (rest := [.int x, .ref (ad 27)]) ⟨hx, hb, hml, hown, hts⟩ (n_lesserV l dC dI y75_ y76_  H.size) (va_cwS 2 hts gd_n_laySpanV_314_n_lesserV rfl rfl rfl dd_n_lesserV ⟨Nat.le_of_ble_eq_true rfl, Nat.le_of_ble_eq_true rfl⟩) (preS (A := A) empP (hK.sub (tys' := []) [] rfl) empD hE) rfl rfl hl.1 rfl (lv_room (Nat.le_of_ble_eq_true rfl)) dX12_laySpan_299 ⟨Nat.le_of_ble_eq_true rfl, Nat.le_of_ble_eq_true rfl⟩) hP hD hS hA (fun y77_ H locs hq hP hD hS => ?_)
            have f78_ := hq
            refine W.widen (k := 0) (n := 0) (Nat.le_of_ble_eq_true rfl) (Nat.le_of_ble_eq_true rfl) ?_
            refine lv_lload hx hb dX12_laySpan_302 (lv_at hl 2 rfl) ?_
            refine lv_lload hx hb dX12_laySpan_304 (lv_at hl 1 rfl) ?_
            refine lv_lmul hx hb dX12_laySpan_306 ?_
            refine lv_topl (fun y79_ ey79_ => ?_)
            refine lv_lload hx hb dX12_laySpan_307 (lv_at hl 2 rfl) ?_
            refine lv_lload hx hb dX12_laySpan_309 (lv_at hl 0 rfl) ?_
            refine lv_lmul hx hb dX12_laySpan_311 ?_
            refine lv_topl (fun y80_ ey80_ => ?_)
            refine zs_l (va_runS (As := [.long y79_, .long y80_]) (rest := [.long y77_, .int x, .ref (ad 27)]) ⟨hx, hb, hml, hown, hts⟩ (n_lesserV l dC dI y79_ y80_  H.size) (va_cwS 2 hts gd_n_laySpanV_314_n_lesserV rfl rfl rfl dd_n_lesserV ⟨Nat.le_of_ble_eq_true rfl, Nat.le_of_ble_eq_true rfl⟩) (preS (A := A) empP (hK.sub (tys' := []) [] rfl) empD hE) rfl rfl hl.1 rfl (lv_room (Nat.le_of_ble_eq_true rfl)) dX12_laySpan_312 ⟨Nat.le_of_ble_eq_true rfl, Nat.le_of_ble_eq_true rfl⟩) hP hD hS hA (fun y81_ H locs hq hP hD hS => ?_)
            have f82_ := hq
            refine W.widen (k := 0) (n := 0) (Nat.le_of_ble_eq_true rfl) (Nat.le_of_ble_eq_true rfl) ?_
            refine zs_l (va_runS (As := [.long y77_, .long y81_]) (rest := [.int x, .ref (ad 27)]) ⟨hx, hb, hml, hown, hts⟩ (n_lesserV l dC dI y77_ y81_  H.size) (va_cwS 2 hts gd_n_laySpanV_314_n_lesserV rfl rfl rfl dd_n_lesserV ⟨Nat.le_of_ble_eq_true rfl, Nat.le_of_ble_eq_true rfl⟩) (preS (A := A) empP (hK.sub (tys' := []) [] rfl) empD hE) rfl rfl hl.1 rfl (lv_room (Nat.le_of_ble_eq_true rfl)) dX12_laySpan_315 ⟨Nat.le_of_ble_eq_true rfl, Nat.le_of_ble_eq_true rfl⟩) hP hD hS hA (fun y83_ H locs hq hP hD hS => ?_)
            have f84_ := hq
            refine W.widen (k := 0) (n := 0) (Nat.le_of_ble_eq_true rfl) (Nat.le_of_ble_eq_true rfl) ?_
            refine va_last hx hb hK hP hD hS 19 18 rfl rfl (ti_inx o1 o2) dX12_laySpan_318 (fun H locs hP hD hS => ?_)
            rw [wS27] at hP hD
            obtain ⟨τ85_, eτ85_⟩ : ∃ x9 : MS, x9 = sJ σ 27 (vp_updL (σ.2.2.1 27) (Int32.toNatClampNeg x) y83_) := ⟨_, rfl⟩
            have hP : va_P (dC, dI) vwCl (mW h ad cl τ85_) H := by rw [eτ85_]; exact hP
            have hD : va_D A (mW h ad cl τ85_) := by rw [eτ85_]; exact hD
            have hIτ85_ : Inv τ85_ := by rw [eτ85_]; exact (Inv.sJ hI)
            have Xτ85_ : eqx [27, 28] τ85_ σ := (eqx.eq eτ85_ (eqx.sJ eqx.rf rg_169))
            have qq86_ : (τ85_.1 30).toInt = ((σ.1 30) : Int32).toInt := congrArg Int32.toInt ((show τ85_.1 30 = (σ.1 30) from (congrArg (fun x9 : MS => x9.1 30) eτ85_).trans rfl))
            refine lv_aload_n hx hb dX12_laySpan_319 rfl (lv_at hl 6 rfl) ?_
            refine va_get (D := (dC, dI)) (ci := 12) (v := .ref (ad 28)) (C := RX12) (T := TX12) (N := 59) hx hb hts hin12 hown hK hP 0 rfl rfl 28 (Nat.le_of_ble_eq_true rfl) (ho (.fieldLink RX12 73 "NearEnoughModel" "sMost" "[J") (List.mem_of_getElem? (i := 5) rfl)) (fun _ h9 => h9) rfl dX12_laySpan_320 ?_
            refine lv_iload_n hx hb dX12_laySpan_323 rfl (lv_at hl 7 rfl) ?_
            refine lv_lload hx hb dX12_laySpan_324 (lv_at hl 3 rfl) ?_
            refine lv_lload hx hb dX12_laySpan_326 (lv_at hl 1 rfl) ?_
            refine lv_lmul hx hb dX12_laySpan_328 ?_
            refine lv_topl (fun y87_ ey87_ => ?_)
            refine lv_lload hx hb dX12_laySpan_329 (lv_at hl 3 rfl) ?_
            refine lv_lload hx hb dX12_laySpan_331 (lv_at hl 0 rfl) ?_
            refine lv_lmul hx hb dX12_laySpan_333 ?_
            refine lv_topl (fun y88_ ey88_ => ?_)
            refine zs_l (va_runS (As := [.long y87_, .long y88_]) (rest := [.int x, .ref (ad 28)]) ⟨hx, hb, hml, hown, hts⟩ (n_greaterV l dC dI y87_ y88_  H.size) (va_cwS 2 hts gd_n_laySpanV_318_n_greaterV rfl rfl rfl dd_n_greaterV ⟨Nat.le_of_ble_eq_true rfl, Nat.le_of_ble_eq_true rfl⟩) (preS (A := A) empP (hK.sub (tys' := []) [] rfl) empD hE) rfl rfl hl.1 rfl (lv_room (Nat.le_of_ble_eq_true rfl)) dX12_laySpan_334 ⟨Nat.le_of_ble_eq_true rfl, Nat.le_of_ble_eq_true rfl⟩) hP hD hS hA (fun y89_ H locs hq hP hD hS => ?_)
            have f90_ := hq
            refine W.widen (k := 0) (n := 0) (Nat.le_of_ble_eq_true rfl) (Nat.le_of_ble_eq_true rfl) ?_
            refine lv_lload hx hb dX12_laySpan_337 (lv_at hl 2 rfl) ?_
            refine lv_lload hx hb dX12_laySpan_339 (lv_at hl 1 rfl) ?_
            refine lv_lmul hx hb dX12_laySpan_341 ?_
            refine lv_topl (fun y91_ ey91_ => ?_)
            refine lv_lload hx hb dX12_laySpan_342 (lv_at hl 2 rfl) ?_
            refine lv_lload hx hb dX12_laySpan_344 (lv_at hl 0 rfl) ?_
            refine lv_lmul hx hb dX12_laySpan_346 ?_
            refine lv_topl (fun y92_ ey92_ => ?_)
            refine zs_l (va_runS (As := [.long y91_, .long y92_]) (rest := [.long y89_, .int x, .ref (ad 28)]) ⟨hx, hb, hml, hown, hts⟩ (n_greaterV l dC dI y91_ y92_  H.size) (va_cwS 2 hts gd_n_laySpanV_318_n_greaterV rfl rfl rfl dd_n_greaterV ⟨Nat.le_of_ble_eq_true rfl, Nat.le_of_ble_eq_true rfl⟩) (preS (A := A) empP (hK.sub (tys' := []) [] rfl) empD hE) rfl rfl hl.1 rfl (lv_room (Nat.le_of_ble_eq_true rfl)) dX12_laySpan_347 ⟨Nat.le_of_ble_eq_true rfl, Nat.le_of_ble_eq_true rfl⟩) hP hD hS hA (fun y93_ H locs hq hP hD hS => ?_)
            have f94_ := hq
            refine W.widen (k := 0) (n := 0) (Nat.le_of_ble_eq_true rfl) (Nat.le_of_ble_eq_true rfl) ?_
            refine zs_l (va_runS (As := [.long y89_, .long y93_]) (rest := [.int x, .ref (ad 28)]) ⟨hx, hb, hml, hown, hts⟩ (n_greaterV l dC dI y89_ y93_  H.size) (va_cwS 2 hts gd_n_laySpanV_318_n_greaterV rfl rfl rfl dd_n_greaterV ⟨Nat.le_of_ble_eq_true rfl, Nat.le_of_ble_eq_true rfl⟩) (preS (A := A) empP (hK.sub (tys' := []) [] rfl) empD hE) rfl rfl hl.1 rfl (lv_room (Nat.le_of_ble_eq_true rfl)) dX12_laySpan_350 ⟨Nat.le_of_ble_eq_true rfl, Nat.le_of_ble_eq_true rfl⟩) hP hD hS hA (fun y95_ H locs hq hP hD hS => ?_)
            have f96_ := hq
            refine W.widen (k := 0) (n := 0) (Nat.le_of_ble_eq_true rfl) (Nat.le_of_ble_eq_true rfl) ?_
            refine va_last hx hb hK hP hD hS 20 19 rfl rfl (ti_inx o1 o2) dX12_laySpan_353 (fun H locs hP hD hS => ?_)
            rw [wS28] at hP hD
            obtain ⟨τ97_, eτ97_⟩ : ∃ x9 : MS, x9 = sJ τ85_ 28 (vp_updL (τ85_.2.2.1 28) (Int32.toNatClampNeg x) y95_) := ⟨_, rfl⟩
            have hP : va_P (dC, dI) vwCl (mW h ad cl τ97_) H := by rw [eτ97_]; exact hP
            have hD : va_D A (mW h ad cl τ97_) := by rw [eτ97_]; exact hD
            have hIτ97_ : Inv τ97_ := by rw [eτ97_]; exact (Inv.sJ hIτ85_)
            have Xτ97_ : eqx [27, 28] τ97_ σ := (eqx.eq eτ97_ (eqx.sJ Xτ85_ rg_170))
            have qq98_ : (τ97_.1 30).toInt = ((σ.1 30) : Int32).toInt := congrArg Int32.toInt ((show τ97_.1 30 = (σ.1 30) from (congrArg (fun x9 : MS => x9.1 30) eτ97_).trans (show τ85_.1 30 = (σ.1 30) from (congrArg (fun x9 : MS => x9.1 30) eτ85_).trans rfl)))
            rw [hQ]
            have A99_ : τ97_.2.2.1 27 = vp_updL (σ.2.2.1 27) (Int32.toNatClampNeg x) y83_ := by rw [eτ97_, eτ85_]; rfl
            have A100_ : τ97_.2.2.1 28 = vp_updL (σ.2.2.1 28) (Int32.toNatClampNeg x) y95_ := by rw [eτ97_, eτ85_]; rfl
            have o45 : (σ.2.1 17 (Int32.toNatClampNeg x)).toInt = 4 := by omega
            have E1_ : ∀ p9, τ85_.2.1 p9 = σ.2.1 p9 := fun p9 => by rw [eτ85_]; rfl
            have N101_ : SpnV (σ.1 30).toNatClampNeg (Int32.toNatClampNeg x) σ.2.1 σ.2.2.1 y83_ y95_ := sv_4 o45 (by simp only [lo4, hi4, E1_, ez1_, ez36_, ez37_, ey39_, ez40_, ey43_, ez45_, ey47_, ez48_, ey51_, ey75_, ey76_, f78_, ey79_, ey80_, f82_, f84_, ey87_, ey88_, f90_, ey91_, ey92_, f94_, f96_, Xz38_, Xz42_, Xz46_, Xz50_]) (by simp only [lo4, hi4, E1_, ez1_, ez36_, ez37_, ey39_, ez40_, ey43_, ez45_, ey47_, ez48_, ey51_, ey75_, ey76_, f78_, ey79_, ey80_, f82_, f84_, ey87_, ey88_, f90_, ey91_, ey92_, f94_, f96_, Xz38_, Xz42_, Xz46_, Xz50_])
            exact W.vret hx hb hr (fun t ht hW => ⟨⟨τ97_, rfl, ⟨hIτ97_, Xτ97_, ⟨y83_, y95_, A99_, A100_, N101_⟩⟩, wEn_of hP (hK.sub [] rfl) hD ht hW⟩, hS.F ht⟩) hS.2.2 dX12_laySpan_354
        · have tc52_ := (show z1_.toInt = 7 from ti_eq rfl rg_77 c52_)
          refine lv_aload_n hx hb dX12_laySpan_252 rfl (lv_at hl 6 rfl) ?_
          refine va_get (D := (dC, dI)) (ci := 12) (v := .ref (ad 27)) (C := RX12) (T := TX12) (N := 59) hx hb hts hin12 hown hK hP 0 rfl rfl 27 (Nat.le_of_ble_eq_true rfl) (ho (.fieldLink RX12 70 "NearEnoughModel" "sLeast" "[J") (List.mem_of_getElem? (i := 3) rfl)) (fun _ h9 => h9) rfl dX12_laySpan_253 ?_
          refine lv_iload_n hx hb dX12_laySpan_256 rfl (lv_at hl 7 rfl) ?_
          refine lv_lload hx hb dX12_laySpan_257 (lv_at hl 3 rfl) ?_
          refine lv_lload hx hb dX12_laySpan_259 (lv_at hl 1 rfl) ?_
          refine zs_l (va_runS (As := [.long y39_, .long y47_]) (rest := [.int x, .ref (ad 27)]) ⟨hx, hb, hml, hown, hts⟩ (n_lesserV l dC dI y39_ y47_  H.size) (va_cwS 2 hts gd_n_laySpanV_314_n_lesserV rfl rfl rfl dd_n_lesserV ⟨Nat.le_of_ble_eq_true rfl, Nat.le_of_ble_eq_true rfl⟩) (preS (A := A) empP (hK.sub (tys' := []) [] rfl) empD hE) rfl rfl hl.1 rfl (lv_room (Nat.le_of_ble_eq_true rfl)) dX12_laySpan_261 ⟨Nat.le_of_ble_eq_true rfl, Nat.le_of_ble_eq_true rfl⟩) hP hD hS hA (fun y102_ H locs hq hP hD hS => ?_)
          have f103_ := hq
          refine W.widen (k := 0) (n := 0) (Nat.le_of_ble_eq_true rfl) (Nat.le_of_ble_eq_true rfl) ?_
          refine va_last hx hb hK hP hD hS 19 18 rfl rfl (ti_inx o1 o2) dX12_laySpan_264 (fun H locs hP hD hS => ?_)
          rw [wS27] at hP hD
          obtain ⟨τ104_, eτ104_⟩ : ∃ x9 : MS, x9 = sJ σ 27 (vp_updL (σ.2.2.1 27) (Int32.toNatClampNeg x) y102_) := ⟨_, rfl⟩
          have hP : va_P (dC, dI) vwCl (mW h ad cl τ104_) H := by rw [eτ104_]; exact hP
          have hD : va_D A (mW h ad cl τ104_) := by rw [eτ104_]; exact hD
          have hIτ104_ : Inv τ104_ := by rw [eτ104_]; exact (Inv.sJ hI)
          have Xτ104_ : eqx [27, 28] τ104_ σ := (eqx.eq eτ104_ (eqx.sJ eqx.rf rg_169))
          have qq105_ : (τ104_.1 30).toInt = ((σ.1 30) : Int32).toInt := congrArg Int32.toInt ((show τ104_.1 30 = (σ.1 30) from (congrArg (fun x9 : MS => x9.1 30) eτ104_).trans rfl))
          refine lv_aload_n hx hb dX12_laySpan_265 rfl (lv_at hl 6 rfl) ?_
          refine va_get (D := (dC, dI)) (ci := 12) (v := .ref (ad 28)) (C := RX12) (T := TX12) (N := 59) hx hb hts hin12 hown hK hP 0 rfl rfl 28 (Nat.le_of_ble_eq_true rfl) (ho (.fieldLink RX12 73 "NearEnoughModel" "sMost" "[J") (List.mem_of_getElem? (i := 5) rfl)) (fun _ h9 => h9) rfl dX12_laySpan_266 ?_
          refine lv_iload_n hx hb dX12_laySpan_269 rfl (lv_at hl 7 rfl) ?_
          refine lv_lload hx hb dX12_laySpan_270 (lv_at hl 2 rfl) ?_
          refine lv_lload hx hb dX12_laySpan_272 (lv_at hl 0 rfl) ?_
          refine zs_l (va_runS (As := [.long y43_, .long y51_]) (rest := [.int x, .ref (ad 28)]) ⟨hx, hb, hml, hown, hts⟩ (n_greaterV l dC dI y43_ y51_  H.size) (va_cwS 2 hts gd_n_laySpanV_318_n_greaterV rfl rfl rfl dd_n_greaterV ⟨Nat.le_of_ble_eq_true rfl, Nat.le_of_ble_eq_true rfl⟩) (preS (A := A) empP (hK.sub (tys' := []) [] rfl) empD hE) rfl rfl hl.1 rfl (lv_room (Nat.le_of_ble_eq_true rfl)) dX12_laySpan_274 ⟨Nat.le_of_ble_eq_true rfl, Nat.le_of_ble_eq_true rfl⟩) hP hD hS hA (fun y106_ H locs hq hP hD hS => ?_)
          have f107_ := hq
          refine W.widen (k := 0) (n := 0) (Nat.le_of_ble_eq_true rfl) (Nat.le_of_ble_eq_true rfl) ?_
          refine va_last hx hb hK hP hD hS 20 19 rfl rfl (ti_inx o1 o2) dX12_laySpan_277 (fun H locs hP hD hS => ?_)
          rw [wS28] at hP hD
          obtain ⟨τ108_, eτ108_⟩ : ∃ x9 : MS, x9 = sJ τ104_ 28 (vp_updL (τ104_.2.2.1 28) (Int32.toNatClampNeg x) y106_) := ⟨_, rfl⟩
          have hP : va_P (dC, dI) vwCl (mW h ad cl τ108_) H := by rw [eτ108_]; exact hP
          have hD : va_D A (mW h ad cl τ108_) := by rw [eτ108_]; exact hD
          have hIτ108_ : Inv τ108_ := by rw [eτ108_]; exact (Inv.sJ hIτ104_)
          have Xτ108_ : eqx [27, 28] τ108_ σ := (eqx.eq eτ108_ (eqx.sJ Xτ104_ rg_170))
          have qq109_ : (τ108_.1 30).toInt = ((σ.1 30) : Int32).toInt := congrArg Int32.toInt ((show τ108_.1 30 = (σ.1 30) from (congrArg (fun x9 : MS => x9.1 30) eτ108_).trans (show τ104_.1 30 = (σ.1 30) from (congrArg (fun x9 : MS => x9.1 30) eτ104_).trans rfl)))
          rw [hQ]
          have A110_ : τ108_.2.2.1 27 = vp_updL (σ.2.2.1 27) (Int32.toNatClampNeg x) y102_ := by rw [eτ108_, eτ104_]; rfl
          have A111_ : τ108_.2.2.1 28 = vp_updL (σ.2.2.1 28) (Int32.toNatClampNeg x) y106_ := by rw [eτ108_, eτ104_]; rfl
          have o46 : (σ.2.1 17 (Int32.toNatClampNeg x)).toInt = 7 := by omega
          have E1_ : ∀ p9, τ104_.2.1 p9 = σ.2.1 p9 := fun p9 => by rw [eτ104_]; rfl
          have N112_ : SpnV (σ.1 30).toNatClampNeg (Int32.toNatClampNeg x) σ.2.1 σ.2.2.1 y102_ y106_ := sv_7 o46 (by simp only [lo4, hi4, E1_, ez1_, ez36_, ez37_, ey39_, ez40_, ey43_, ez45_, ey47_, ez48_, ey51_, f103_, f107_, Xz38_, Xz42_, Xz46_, Xz50_]) (by simp only [lo4, hi4, E1_, ez1_, ez36_, ez37_, ey39_, ez40_, ey43_, ez45_, ey47_, ez48_, ey51_, f103_, f107_, Xz38_, Xz42_, Xz46_, Xz50_])
          exact W.vret hx hb hr (fun t ht hW => ⟨⟨τ108_, rfl, ⟨hIτ108_, Xτ108_, ⟨y102_, y106_, A110_, A111_, N112_⟩⟩, wEn_of hP (hK.sub [] rfl) hD ht hW⟩, hS.F ht⟩) hS.2.2 dX12_laySpan_278
      · have tc44_ := (show z1_.toInt = 5 from ti_eq rfl rg_15 c44_)
        refine lv_aload_n hx hb dX12_laySpan_125 rfl (lv_at hl 4 rfl) ?_
        refine va_get (D := (dC, dI)) (ci := 12) (v := .ref (ad 27)) (C := RX12) (T := TX12) (N := 59) hx hb hts hin12 hown hK hP 0 rfl rfl 27 (Nat.le_of_ble_eq_true rfl) (ho (.fieldLink RX12 70 "NearEnoughModel" "sLeast" "[J") (List.mem_of_getElem? (i := 3) rfl)) (fun _ h9 => h9) rfl dX12_laySpan_126 ?_
        refine lv_iload_n hx hb dX12_laySpan_129 rfl (lv_at hl 5 rfl) ?_
        refine lv_lload hx hb dX12_laySpan_130 (lv_at hl 1 rfl) ?_
        refine lv_aload_n hx hb dX12_laySpan_132 rfl (lv_at hl 4 rfl) ?_
        refine va_get (D := (dC, dI)) (ci := 12) (v := .ref (ad 19)) (C := RX12) (T := TX12) (N := 59) hx hb hts hin12 hown hK hP 0 rfl rfl 19 (Nat.le_of_ble_eq_true rfl) (ho (.fieldLink RX12 45 "NearEnoughModel" "sB" "[I") (List.mem_of_getElem? (i := 8) rfl)) (fun _ h9 => h9) rfl dX12_laySpan_133 ?_
        refine lv_iload_n hx hb dX12_laySpan_136 rfl (lv_at hl 5 rfl) ?_
        refine va_iald hx hb hK hP 11 10 rfl rfl (ti_inx o1 o2) dX12_laySpan_137 ?_
        refine lv_topi (fun z113_ ez113_ => ?_)
        have gz113_ : z113_.toInt = ((σ.2.1 19) (Int32.toNatClampNeg x)).toInt := congrArg Int32.toInt (ez113_.trans (congrFun rfl (Int32.toNatClampNeg x)))
        have bz113_ : (-99) ≤ z113_.toInt ∧ z113_.toInt ≤ 99 := by rw [ez113_]; exact (hI.2 19) _ (cl_lt (n := 24) o1 o2)
        refine lv_i2l hx hb dX12_laySpan_138 rfl ?_
        refine lv_topl (fun y114_ ey114_ => ?_)
        refine lv_lmul hx hb dX12_laySpan_139 ?_
        refine lv_topl (fun y115_ ey115_ => ?_)
        refine lv_aload_n hx hb dX12_laySpan_140 rfl (lv_at hl 4 rfl) ?_
        refine va_get (D := (dC, dI)) (ci := 12) (v := .ref (ad 20)) (C := RX12) (T := TX12) (N := 59) hx hb hts hin12 hown hK hP 0 rfl rfl 20 (Nat.le_of_ble_eq_true rfl) (ho (.fieldLink RX12 48 "NearEnoughModel" "sC" "[I") (List.mem_of_getElem? (i := 9) rfl)) (fun _ h9 => h9) rfl dX12_laySpan_141 ?_
        refine lv_iload_n hx hb dX12_laySpan_144 rfl (lv_at hl 5 rfl) ?_
        refine va_iald hx hb hK hP 12 11 rfl rfl (ti_inx o1 o2) dX12_laySpan_145 ?_
        refine lv_topi (fun z116_ ez116_ => ?_)
        have gz116_ : z116_.toInt = ((σ.2.1 20) (Int32.toNatClampNeg x)).toInt := congrArg Int32.toInt (ez116_.trans (congrFun rfl (Int32.toNatClampNeg x)))
        have bz116_ : (-1) ≤ z116_.toInt ∧ z116_.toInt ≤ 99 := by rw [ez116_]; exact (hI.2 20) _ (cl_lt (n := 24) o1 o2)
        refine lv_i2l hx hb dX12_laySpan_146 rfl ?_
        refine lv_topl (fun y117_ ey117_ => ?_)
        have o47 : z116_.toInt ≠ 0 := by omega
        refine lv_ldiv hx hb dX12_laySpan_147 (i2l_ne ey117_ o47) ?_
        refine lv_topl (fun y118_ ey118_ => ?_)
        refine lv_lload hx hb dX12_laySpan_148 (lv_at hl 0 rfl) ?_
        refine lv_aload_n hx hb dX12_laySpan_150 rfl (lv_at hl 4 rfl) ?_
        refine va_get (D := (dC, dI)) (ci := 12) (v := .ref (ad 19)) (C := RX12) (T := TX12) (N := 59) hx hb hts hin12 hown hK hP 0 rfl rfl 19 (Nat.le_of_ble_eq_true rfl) (ho (.fieldLink RX12 45 "NearEnoughModel" "sB" "[I") (List.mem_of_getElem? (i := 8) rfl)) (fun _ h9 => h9) rfl dX12_laySpan_151 ?_
        refine lv_iload_n hx hb dX12_laySpan_154 rfl (lv_at hl 5 rfl) ?_
        refine va_iald hx hb hK hP 11 10 rfl rfl (ti_inx o1 o2) dX12_laySpan_155 ?_
        refine lv_topi (fun z119_ ez119_ => ?_)
        have qq120_ : z119_.toInt = z113_.toInt := congrArg Int32.toInt ((ez119_.trans (congrFun rfl (Int32.toNatClampNeg x))).trans ((ez113_.trans (congrFun rfl (Int32.toNatClampNeg x)))).symm)
        have gz119_ : z119_.toInt = ((σ.2.1 19) (Int32.toNatClampNeg x)).toInt := congrArg Int32.toInt (ez119_.trans (congrFun rfl (Int32.toNatClampNeg x)))
        have bz119_ : (-99) ≤ z119_.toInt ∧ z119_.toInt ≤ 99 := by rw [ez119_]; exact (hI.2 19) _ (cl_lt (n := 24) o1 o2)
        refine lv_i2l hx hb dX12_laySpan_156 rfl ?_
        refine lv_topl (fun y121_ ey121_ => ?_)
        refine lv_lmul hx hb dX12_laySpan_157 ?_
        refine lv_topl (fun y122_ ey122_ => ?_)
        refine lv_aload_n hx hb dX12_laySpan_158 rfl (lv_at hl 4 rfl) ?_
        refine va_get (D := (dC, dI)) (ci := 12) (v := .ref (ad 20)) (C := RX12) (T := TX12) (N := 59) hx hb hts hin12 hown hK hP 0 rfl rfl 20 (Nat.le_of_ble_eq_true rfl) (ho (.fieldLink RX12 48 "NearEnoughModel" "sC" "[I") (List.mem_of_getElem? (i := 9) rfl)) (fun _ h9 => h9) rfl dX12_laySpan_159 ?_
        refine lv_iload_n hx hb dX12_laySpan_162 rfl (lv_at hl 5 rfl) ?_
        refine va_iald hx hb hK hP 12 11 rfl rfl (ti_inx o1 o2) dX12_laySpan_163 ?_
        refine lv_topi (fun z123_ ez123_ => ?_)
        have qq124_ : z123_.toInt = z116_.toInt := congrArg Int32.toInt ((ez123_.trans (congrFun rfl (Int32.toNatClampNeg x))).trans ((ez116_.trans (congrFun rfl (Int32.toNatClampNeg x)))).symm)
        have gz123_ : z123_.toInt = ((σ.2.1 20) (Int32.toNatClampNeg x)).toInt := congrArg Int32.toInt (ez123_.trans (congrFun rfl (Int32.toNatClampNeg x)))
        have bz123_ : (-1) ≤ z123_.toInt ∧ z123_.toInt ≤ 99 := by rw [ez123_]; exact (hI.2 20) _ (cl_lt (n := 24) o1 o2)
        refine lv_i2l hx hb dX12_laySpan_164 rfl ?_
        refine lv_topl (fun y125_ ey125_ => ?_)
        have o48 : z123_.toInt ≠ 0 := by omega
        refine lv_ldiv hx hb dX12_laySpan_165 (i2l_ne ey125_ o48) ?_
        refine lv_topl (fun y126_ ey126_ => ?_)
        refine zs_l (va_runS (As := [.long y118_, .long y126_]) (rest := [.int x, .ref (ad 27)]) ⟨hx, hb, hml, hown, hts⟩ (n_lesserV l dC dI y118_ y126_  H.size) (va_cwS 2 hts gd_n_laySpanV_314_n_lesserV rfl rfl rfl dd_n_lesserV ⟨Nat.le_of_ble_eq_true rfl, Nat.le_of_ble_eq_true rfl⟩) (preS (A := A) empP (hK.sub (tys' := []) [] rfl) empD hE) rfl rfl hl.1 rfl (lv_room (Nat.le_of_ble_eq_true rfl)) dX12_laySpan_166 ⟨Nat.le_of_ble_eq_true rfl, Nat.le_of_ble_eq_true rfl⟩) hP hD hS hA (fun y127_ H locs hq hP hD hS => ?_)
        have f128_ := hq
        refine W.widen (k := 0) (n := 0) (Nat.le_of_ble_eq_true rfl) (Nat.le_of_ble_eq_true rfl) ?_
        refine va_last hx hb hK hP hD hS 19 18 rfl rfl (ti_inx o1 o2) dX12_laySpan_169 (fun H locs hP hD hS => ?_)
        rw [wS27] at hP hD
        obtain ⟨τ129_, eτ129_⟩ : ∃ x9 : MS, x9 = sJ σ 27 (vp_updL (σ.2.2.1 27) (Int32.toNatClampNeg x) y127_) := ⟨_, rfl⟩
        have hP : va_P (dC, dI) vwCl (mW h ad cl τ129_) H := by rw [eτ129_]; exact hP
        have hD : va_D A (mW h ad cl τ129_) := by rw [eτ129_]; exact hD
        have hIτ129_ : Inv τ129_ := by rw [eτ129_]; exact (Inv.sJ hI)
        have Xτ129_ : eqx [27, 28] τ129_ σ := (eqx.eq eτ129_ (eqx.sJ eqx.rf rg_169))
        have qq130_ : (τ129_.1 30).toInt = ((σ.1 30) : Int32).toInt := congrArg Int32.toInt ((show τ129_.1 30 = (σ.1 30) from (congrArg (fun x9 : MS => x9.1 30) eτ129_).trans rfl))
        refine lv_aload_n hx hb dX12_laySpan_170 rfl (lv_at hl 4 rfl) ?_
        refine va_get (D := (dC, dI)) (ci := 12) (v := .ref (ad 28)) (C := RX12) (T := TX12) (N := 59) hx hb hts hin12 hown hK hP 0 rfl rfl 28 (Nat.le_of_ble_eq_true rfl) (ho (.fieldLink RX12 73 "NearEnoughModel" "sMost" "[J") (List.mem_of_getElem? (i := 5) rfl)) (fun _ h9 => h9) rfl dX12_laySpan_171 ?_
        refine lv_iload_n hx hb dX12_laySpan_174 rfl (lv_at hl 5 rfl) ?_
        refine lv_lload hx hb dX12_laySpan_175 (lv_at hl 1 rfl) ?_
        refine lv_aload_n hx hb dX12_laySpan_177 rfl (lv_at hl 4 rfl) ?_
        refine va_get (D := (dC, dI)) (ci := 12) (v := .ref (ad 19)) (C := RX12) (T := TX12) (N := 59) hx hb hts hin12 hown hK hP 0 rfl rfl 19 (Nat.le_of_ble_eq_true rfl) (ho (.fieldLink RX12 45 "NearEnoughModel" "sB" "[I") (List.mem_of_getElem? (i := 8) rfl)) (fun _ h9 => h9) rfl dX12_laySpan_178 ?_
        refine lv_iload_n hx hb dX12_laySpan_181 rfl (lv_at hl 5 rfl) ?_
        refine va_iald hx hb hK hP 11 10 rfl rfl (ti_inx o1 o2) dX12_laySpan_182 ?_
        refine lv_topi (fun z131_ ez131_ => ?_)
        have qq132_ : z131_.toInt = z113_.toInt := congrArg Int32.toInt ((ez131_.trans (congrFun ((congrArg (fun x9 : MS => x9.2.1 19) eτ129_).trans (tJ.trans rfl)) (Int32.toNatClampNeg x))).trans ((ez113_.trans (congrFun rfl (Int32.toNatClampNeg x)))).symm)
        have gz131_ : z131_.toInt = ((σ.2.1 19) (Int32.toNatClampNeg x)).toInt := congrArg Int32.toInt (ez131_.trans (congrFun ((congrArg (fun x9 : MS => x9.2.1 19) eτ129_).trans (tJ.trans rfl)) (Int32.toNatClampNeg x)))
        have bz131_ : (-99) ≤ z131_.toInt ∧ z131_.toInt ≤ 99 := by rw [ez131_]; exact (hIτ129_.2 19) _ (cl_lt (n := 24) o1 o2)
        refine lv_i2l hx hb dX12_laySpan_183 rfl ?_
        refine lv_topl (fun y133_ ey133_ => ?_)
        refine lv_lmul hx hb dX12_laySpan_184 ?_
        refine lv_topl (fun y134_ ey134_ => ?_)
        refine lv_aload_n hx hb dX12_laySpan_185 rfl (lv_at hl 4 rfl) ?_
        refine va_get (D := (dC, dI)) (ci := 12) (v := .ref (ad 20)) (C := RX12) (T := TX12) (N := 59) hx hb hts hin12 hown hK hP 0 rfl rfl 20 (Nat.le_of_ble_eq_true rfl) (ho (.fieldLink RX12 48 "NearEnoughModel" "sC" "[I") (List.mem_of_getElem? (i := 9) rfl)) (fun _ h9 => h9) rfl dX12_laySpan_186 ?_
        refine lv_iload_n hx hb dX12_laySpan_189 rfl (lv_at hl 5 rfl) ?_
        refine va_iald hx hb hK hP 12 11 rfl rfl (ti_inx o1 o2) dX12_laySpan_190 ?_
        refine lv_topi (fun z135_ ez135_ => ?_)
        have qq136_ : z135_.toInt = z116_.toInt := congrArg Int32.toInt ((ez135_.trans (congrFun ((congrArg (fun x9 : MS => x9.2.1 20) eτ129_).trans (tJ.trans rfl)) (Int32.toNatClampNeg x))).trans ((ez116_.trans (congrFun rfl (Int32.toNatClampNeg x)))).symm)
        have gz135_ : z135_.toInt = ((σ.2.1 20) (Int32.toNatClampNeg x)).toInt := congrArg Int32.toInt (ez135_.trans (congrFun ((congrArg (fun x9 : MS => x9.2.1 20) eτ129_).trans (tJ.trans rfl)) (Int32.toNatClampNeg x)))
        have bz135_ : (-1) ≤ z135_.toInt ∧ z135_.toInt ≤ 99 := by rw [ez135_]; exact (hIτ129_.2 20) _ (cl_lt (n := 24) o1 o2)
        refine lv_i2l hx hb dX12_laySpan_191 rfl ?_
        refine lv_topl (fun y137_ ey137_ => ?_)
        have o49 : z135_.toInt ≠ 0 := by omega
        refine lv_ldiv hx hb dX12_laySpan_192 (i2l_ne ey137_ o49) ?_
        refine lv_topl (fun y138_ ey138_ => ?_)
        refine lv_lload hx hb dX12_laySpan_193 (lv_at hl 0 rfl) ?_
        refine lv_aload_n hx hb dX12_laySpan_195 rfl (lv_at hl 4 rfl) ?_
        refine va_get (D := (dC, dI)) (ci := 12) (v := .ref (ad 19)) (C := RX12) (T := TX12) (N := 59) hx hb hts hin12 hown hK hP 0 rfl rfl 19 (Nat.le_of_ble_eq_true rfl) (ho (.fieldLink RX12 45 "NearEnoughModel" "sB" "[I") (List.mem_of_getElem? (i := 8) rfl)) (fun _ h9 => h9) rfl dX12_laySpan_196 ?_
        refine lv_iload_n hx hb dX12_laySpan_199 rfl (lv_at hl 5 rfl) ?_
        refine va_iald hx hb hK hP 11 10 rfl rfl (ti_inx o1 o2) dX12_laySpan_200 ?_
        refine lv_topi (fun z139_ ez139_ => ?_)
        have qq140_ : z139_.toInt = z113_.toInt := congrArg Int32.toInt ((ez139_.trans (congrFun ((congrArg (fun x9 : MS => x9.2.1 19) eτ129_).trans (tJ.trans rfl)) (Int32.toNatClampNeg x))).trans ((ez113_.trans (congrFun rfl (Int32.toNatClampNeg x)))).symm)
        have gz139_ : z139_.toInt = ((σ.2.1 19) (Int32.toNatClampNeg x)).toInt := congrArg Int32.toInt (ez139_.trans (congrFun ((congrArg (fun x9 : MS => x9.2.1 19) eτ129_).trans (tJ.trans rfl)) (Int32.toNatClampNeg x)))
        have bz139_ : (-99) ≤ z139_.toInt ∧ z139_.toInt ≤ 99 := by rw [ez139_]; exact (hIτ129_.2 19) _ (cl_lt (n := 24) o1 o2)
        refine lv_i2l hx hb dX12_laySpan_201 rfl ?_
        refine lv_topl (fun y141_ ey141_ => ?_)
        refine lv_lmul hx hb dX12_laySpan_202 ?_
        refine lv_topl (fun y142_ ey142_ => ?_)
        refine lv_aload_n hx hb dX12_laySpan_203 rfl (lv_at hl 4 rfl) ?_
        refine va_get (D := (dC, dI)) (ci := 12) (v := .ref (ad 20)) (C := RX12) (T := TX12) (N := 59) hx hb hts hin12 hown hK hP 0 rfl rfl 20 (Nat.le_of_ble_eq_true rfl) (ho (.fieldLink RX12 48 "NearEnoughModel" "sC" "[I") (List.mem_of_getElem? (i := 9) rfl)) (fun _ h9 => h9) rfl dX12_laySpan_204 ?_
        refine lv_iload_n hx hb dX12_laySpan_207 rfl (lv_at hl 5 rfl) ?_
        refine va_iald hx hb hK hP 12 11 rfl rfl (ti_inx o1 o2) dX12_laySpan_208 ?_
        refine lv_topi (fun z143_ ez143_ => ?_)
        have qq144_ : z143_.toInt = z116_.toInt := congrArg Int32.toInt ((ez143_.trans (congrFun ((congrArg (fun x9 : MS => x9.2.1 20) eτ129_).trans (tJ.trans rfl)) (Int32.toNatClampNeg x))).trans ((ez116_.trans (congrFun rfl (Int32.toNatClampNeg x)))).symm)
        have gz143_ : z143_.toInt = ((σ.2.1 20) (Int32.toNatClampNeg x)).toInt := congrArg Int32.toInt (ez143_.trans (congrFun ((congrArg (fun x9 : MS => x9.2.1 20) eτ129_).trans (tJ.trans rfl)) (Int32.toNatClampNeg x)))
        have bz143_ : (-1) ≤ z143_.toInt ∧ z143_.toInt ≤ 99 := by rw [ez143_]; exact (hIτ129_.2 20) _ (cl_lt (n := 24) o1 o2)
        refine lv_i2l hx hb dX12_laySpan_209 rfl ?_
        refine lv_topl (fun y145_ ey145_ => ?_)
        have o50 : z143_.toInt ≠ 0 := by omega
        refine lv_ldiv hx hb dX12_laySpan_210 (i2l_ne ey145_ o50) ?_
        refine lv_topl (fun y146_ ey146_ => ?_)
        refine zs_l (va_runS (As := [.long y138_, .long y146_]) (rest := [.int x, .ref (ad 28)]) ⟨hx, hb, hml, hown, hts⟩ (n_greaterV l dC dI y138_ y146_  H.size) (va_cwS 2 hts gd_n_laySpanV_318_n_greaterV rfl rfl rfl dd_n_greaterV ⟨Nat.le_of_ble_eq_true rfl, Nat.le_of_ble_eq_true rfl⟩) (preS (A := A) empP (hK.sub (tys' := []) [] rfl) empD hE) rfl rfl hl.1 rfl (lv_room (Nat.le_of_ble_eq_true rfl)) dX12_laySpan_211 ⟨Nat.le_of_ble_eq_true rfl, Nat.le_of_ble_eq_true rfl⟩) hP hD hS hA (fun y147_ H locs hq hP hD hS => ?_)
        have f148_ := hq
        refine W.widen (k := 0) (n := 0) (Nat.le_of_ble_eq_true rfl) (Nat.le_of_ble_eq_true rfl) ?_
        refine va_last hx hb hK hP hD hS 20 19 rfl rfl (ti_inx o1 o2) dX12_laySpan_214 (fun H locs hP hD hS => ?_)
        rw [wS28] at hP hD
        obtain ⟨τ149_, eτ149_⟩ : ∃ x9 : MS, x9 = sJ τ129_ 28 (vp_updL (τ129_.2.2.1 28) (Int32.toNatClampNeg x) y147_) := ⟨_, rfl⟩
        have hP : va_P (dC, dI) vwCl (mW h ad cl τ149_) H := by rw [eτ149_]; exact hP
        have hD : va_D A (mW h ad cl τ149_) := by rw [eτ149_]; exact hD
        have hIτ149_ : Inv τ149_ := by rw [eτ149_]; exact (Inv.sJ hIτ129_)
        have Xτ149_ : eqx [27, 28] τ149_ σ := (eqx.eq eτ149_ (eqx.sJ Xτ129_ rg_170))
        have qq150_ : (τ149_.1 30).toInt = ((σ.1 30) : Int32).toInt := congrArg Int32.toInt ((show τ149_.1 30 = (σ.1 30) from (congrArg (fun x9 : MS => x9.1 30) eτ149_).trans (show τ129_.1 30 = (σ.1 30) from (congrArg (fun x9 : MS => x9.1 30) eτ129_).trans rfl)))
        rw [hQ]
        have A151_ : τ149_.2.2.1 27 = vp_updL (σ.2.2.1 27) (Int32.toNatClampNeg x) y127_ := by rw [eτ149_, eτ129_]; rfl
        have A152_ : τ149_.2.2.1 28 = vp_updL (σ.2.2.1 28) (Int32.toNatClampNeg x) y147_ := by rw [eτ149_, eτ129_]; rfl
        have o51 : (σ.2.1 17 (Int32.toNatClampNeg x)).toInt = 5 := by omega
        have E1_ : ∀ p9, τ129_.2.1 p9 = σ.2.1 p9 := fun p9 => by rw [eτ129_]; rfl
        have N153_ : SpnV (σ.1 30).toNatClampNeg (Int32.toNatClampNeg x) σ.2.1 σ.2.2.1 y127_ y147_ := sv_5 o51 (by simp only [lo4, hi4, E1_, ez1_, ez36_, ez37_, ey39_, ez40_, ey43_, ez113_, ey114_, ey115_, ez116_, ey117_, ey118_, ez119_, ey121_, ey122_, ez123_, ey125_, ey126_, f128_, ez131_, ey133_, ey134_, ez135_, ey137_, ey138_, ez139_, ey141_, ey142_, ez143_, ey145_, ey146_, f148_, Xz38_, Xz42_]) (by simp only [lo4, hi4, E1_, ez1_, ez36_, ez37_, ey39_, ez40_, ey43_, ez113_, ey114_, ey115_, ez116_, ey117_, ey118_, ez119_, ey121_, ey122_, ez123_, ey125_, ey126_, f128_, ez131_, ey133_, ey134_, ez135_, ey137_, ey138_, ez139_, ey141_, ey142_, ez143_, ey145_, ey146_, f148_, Xz38_, Xz42_])
        exact W.vret hx hb hr (fun t ht hW => ⟨⟨τ149_, rfl, ⟨hIτ149_, Xτ149_, ⟨y127_, y147_, A151_, A152_, N153_⟩⟩, wEn_of hP (hK.sub [] rfl) hD ht hW⟩, hS.F ht⟩) hS.2.2 dX12_laySpan_215
    · have tc35_ := (show z1_.toInt = 6 from ti_eq rfl rg_70 c35_)
      refine lv_iconst (v := 2) hx hb dX12_laySpan_18 rg_19 ?_
      refine lv_aload_n hx hb dX12_laySpan_19 rfl (lv_at hl 1 rfl) ?_
      refine va_get (D := (dC, dI)) (ci := 12) (v := .int (σ.1 30)) (C := RX12) (T := TX12) (N := 59) hx hb hts hin12 hown hK hP 0 rfl rfl 30 (Nat.le_of_ble_eq_true rfl) (ho (.fieldLink RX12 243 "NearEnoughModel" "rb" "I") (List.mem_of_getElem? (i := 1) rfl)) (fun _ h9 => h9) rfl dX12_laySpan_20 ?_
      have bσ_30 : 0 ≤ (σ.1 30).toInt ∧ (σ.1 30).toInt ≤ 1 := hI.1 30
      refine lv_imul hx hb dX12_laySpan_23 ?_
      refine lv_topi (fun z154_ ez154_ => ?_)
      have o52 : -2147483648 ≤ 2 * (σ.1 30).toInt := by omega
      have o53 : 2 * (σ.1 30).toInt ≤ 2147483647 := by omega
      have tz154_ : z154_.toInt = 2 * (σ.1 30).toInt := ti_mul ez154_ rg_20 rfl o52 o53
      refine lv_aload_n hx hb dX12_laySpan_24 rfl (lv_at hl 1 rfl) ?_
      refine va_get (D := (dC, dI)) (ci := 12) (v := .ref (ad 18)) (C := RX12) (T := TX12) (N := 59) hx hb hts hin12 hown hK hP 0 rfl rfl 18 (Nat.le_of_ble_eq_true rfl) (ho (.fieldLink RX12 42 "NearEnoughModel" "sA" "[I") (List.mem_of_getElem? (i := 2) rfl)) (fun _ h9 => h9) rfl dX12_laySpan_25 ?_
      refine lv_iload_n hx hb dX12_laySpan_28 rfl (lv_at hl 2 rfl) ?_
      refine va_iald hx hb hK hP 10 9 rfl rfl (ti_inx o1 o2) dX12_laySpan_29 ?_
      refine lv_topi (fun z155_ ez155_ => ?_)
      have gz155_ : z155_.toInt = ((σ.2.1 18) (Int32.toNatClampNeg x)).toInt := congrArg Int32.toInt (ez155_.trans (congrFun rfl (Int32.toNatClampNeg x)))
      have bz155_ : (-1) ≤ z155_.toInt ∧ z155_.toInt ≤ 11 := by rw [ez155_]; exact (hI.2 18) _ (cl_lt (n := 24) o1 o2)
      refine lv_iadd hx hb dX12_laySpan_30 ?_
      refine lv_topi (fun z156_ ez156_ => ?_)
      have o54 : -2147483648 ≤ z154_.toInt + z155_.toInt := by omega
      have o55 : z154_.toInt + z155_.toInt ≤ 2147483647 := by omega
      have tz156_ : z156_.toInt = z154_.toInt + z155_.toInt := ti_add ez156_ rfl rfl o54 o55
      have o56 : 0 ≤ z155_.toInt := by omega
      have o57 : z156_.toInt = 2 * (σ.1 30).toInt + z155_.toInt := by omega
      have Xz156_ : z156_.toNatClampNeg = 2 * (σ.1 30).toNatClampNeg + (σ.2.1 18 (Int32.toNatClampNeg x)).toNatClampNeg := by rw [← ez155_]; exact row_x (hI.1 30).1 o56 o57
      refine lv_istore_n (lv' := [(3, .int z156_), (2, .int z1_), (0, .ref h), (1, .int x)]) hx hb dX12_laySpan_31 rfl hl (Nat.le_of_ble_eq_true rfl) rfl (fun ls hl => ?_)
      refine lv_iload_n hx hb dX12_laySpan_32 rfl (lv_at hl 1 rfl) ?_
      refine lv_if_ne (tgt := 46) hx hb dX12_laySpan_33 rfl (fun c157_ => ?_) (fun c157_ => ?_)
      · have tc157_ := (show z1_.toInt ≠ 0 from ti_ne rfl rg_11 c157_)
        refine lv_lconst (v := 1) hx hb dX12_laySpan_46 (by decide) ?_
        refine lv_lstore (lv' := [(4, .long 1), (3, .int z156_), (2, .int z1_), (0, .ref h), (1, .int x)]) hx hb dX12_laySpan_47 hl (Nat.le_of_ble_eq_true rfl) rfl (fun ls hl => ?_)
        refine lv_aload_n hx hb dX12_laySpan_49 rfl (lv_at hl 3 rfl) ?_
        refine va_get (D := (dC, dI)) (ci := 12) (v := .ref (ad 27)) (C := RX12) (T := TX12) (N := 59) hx hb hts hin12 hown hK hP 0 rfl rfl 27 (Nat.le_of_ble_eq_true rfl) (ho (.fieldLink RX12 70 "NearEnoughModel" "sLeast" "[J") (List.mem_of_getElem? (i := 3) rfl)) (fun _ h9 => h9) rfl dX12_laySpan_50 ?_
        refine lv_iload_n hx hb dX12_laySpan_53 rfl (lv_at hl 4 rfl) ?_
        refine lv_lload hx hb dX12_laySpan_54 (lv_at hl 0 rfl) ?_
        refine lv_aload_n hx hb dX12_laySpan_56 rfl (lv_at hl 3 rfl) ?_
        refine va_get (D := (dC, dI)) (ci := 12) (v := .ref (ad 15)) (C := RX12) (T := TX12) (N := 59) hx hb hts hin12 hown hK hP 0 rfl rfl 15 (Nat.le_of_ble_eq_true rfl) (ho (.fieldLink RX12 33 "NearEnoughModel" "rLeast" "[I") (List.mem_of_getElem? (i := 4) rfl)) (fun _ h9 => h9) rfl dX12_laySpan_57 ?_
        refine lv_iload_n hx hb dX12_laySpan_60 rfl (lv_at hl 1 rfl) ?_
        have o58 : 0 ≤ z156_.toInt := by omega
        have o59 : z156_.toInt < ((4 : Nat) : Int) := by omega
        refine va_iald hx hb hK hP 7 6 rfl rfl (ti_inx o58 o59) dX12_laySpan_61 ?_
        refine lv_topi (fun z158_ ez158_ => ?_)
        have gz158_ : z158_.toInt = ((σ.2.1 15) (Int32.toNatClampNeg z156_)).toInt := congrArg Int32.toInt (ez158_.trans (congrFun rfl (Int32.toNatClampNeg z156_)))
        refine lv_i2l hx hb dX12_laySpan_62 rfl ?_
        refine lv_topl (fun y159_ ey159_ => ?_)
        refine lv_lmul hx hb dX12_laySpan_63 ?_
        refine lv_topl (fun y160_ ey160_ => ?_)
        refine va_last hx hb hK hP hD hS 19 18 rfl rfl (ti_inx o1 o2) dX12_laySpan_64 (fun H locs hP hD hS => ?_)
        rw [wS27] at hP hD
        obtain ⟨τ161_, eτ161_⟩ : ∃ x9 : MS, x9 = sJ σ 27 (vp_updL (σ.2.2.1 27) (Int32.toNatClampNeg x) y160_) := ⟨_, rfl⟩
        have hP : va_P (dC, dI) vwCl (mW h ad cl τ161_) H := by rw [eτ161_]; exact hP
        have hD : va_D A (mW h ad cl τ161_) := by rw [eτ161_]; exact hD
        have hIτ161_ : Inv τ161_ := by rw [eτ161_]; exact (Inv.sJ hI)
        have Xτ161_ : eqx [27, 28] τ161_ σ := (eqx.eq eτ161_ (eqx.sJ eqx.rf rg_169))
        have qq162_ : (τ161_.1 30).toInt = ((σ.1 30) : Int32).toInt := congrArg Int32.toInt ((show τ161_.1 30 = (σ.1 30) from (congrArg (fun x9 : MS => x9.1 30) eτ161_).trans rfl))
        refine lv_aload_n hx hb dX12_laySpan_65 rfl (lv_at hl 3 rfl) ?_
        refine va_get (D := (dC, dI)) (ci := 12) (v := .ref (ad 28)) (C := RX12) (T := TX12) (N := 59) hx hb hts hin12 hown hK hP 0 rfl rfl 28 (Nat.le_of_ble_eq_true rfl) (ho (.fieldLink RX12 73 "NearEnoughModel" "sMost" "[J") (List.mem_of_getElem? (i := 5) rfl)) (fun _ h9 => h9) rfl dX12_laySpan_66 ?_
        refine lv_iload_n hx hb dX12_laySpan_69 rfl (lv_at hl 4 rfl) ?_
        refine lv_lload hx hb dX12_laySpan_70 (lv_at hl 0 rfl) ?_
        refine lv_aload_n hx hb dX12_laySpan_72 rfl (lv_at hl 3 rfl) ?_
        refine va_get (D := (dC, dI)) (ci := 12) (v := .ref (ad 16)) (C := RX12) (T := TX12) (N := 59) hx hb hts hin12 hown hK hP 0 rfl rfl 16 (Nat.le_of_ble_eq_true rfl) (ho (.fieldLink RX12 36 "NearEnoughModel" "rMost" "[I") (List.mem_of_getElem? (i := 6) rfl)) (fun _ h9 => h9) rfl dX12_laySpan_73 ?_
        refine lv_iload_n hx hb dX12_laySpan_76 rfl (lv_at hl 1 rfl) ?_
        refine va_iald hx hb hK hP 8 7 rfl rfl (ti_inx o58 o59) dX12_laySpan_77 ?_
        refine lv_topi (fun z163_ ez163_ => ?_)
        have gz163_ : z163_.toInt = ((σ.2.1 16) (Int32.toNatClampNeg z156_)).toInt := congrArg Int32.toInt (ez163_.trans (congrFun ((congrArg (fun x9 : MS => x9.2.1 16) eτ161_).trans (tJ.trans rfl)) (Int32.toNatClampNeg z156_)))
        refine lv_i2l hx hb dX12_laySpan_78 rfl ?_
        refine lv_topl (fun y164_ ey164_ => ?_)
        refine lv_lmul hx hb dX12_laySpan_79 ?_
        refine lv_topl (fun y165_ ey165_ => ?_)
        refine va_last hx hb hK hP hD hS 20 19 rfl rfl (ti_inx o1 o2) dX12_laySpan_80 (fun H locs hP hD hS => ?_)
        rw [wS28] at hP hD
        obtain ⟨τ166_, eτ166_⟩ : ∃ x9 : MS, x9 = sJ τ161_ 28 (vp_updL (τ161_.2.2.1 28) (Int32.toNatClampNeg x) y165_) := ⟨_, rfl⟩
        have hP : va_P (dC, dI) vwCl (mW h ad cl τ166_) H := by rw [eτ166_]; exact hP
        have hD : va_D A (mW h ad cl τ166_) := by rw [eτ166_]; exact hD
        have hIτ166_ : Inv τ166_ := by rw [eτ166_]; exact (Inv.sJ hIτ161_)
        have Xτ166_ : eqx [27, 28] τ166_ σ := (eqx.eq eτ166_ (eqx.sJ Xτ161_ rg_170))
        have qq167_ : (τ166_.1 30).toInt = ((σ.1 30) : Int32).toInt := congrArg Int32.toInt ((show τ166_.1 30 = (σ.1 30) from (congrArg (fun x9 : MS => x9.1 30) eτ166_).trans (show τ161_.1 30 = (σ.1 30) from (congrArg (fun x9 : MS => x9.1 30) eτ161_).trans rfl)))
        rw [hQ]
        have A168_ : τ166_.2.2.1 27 = vp_updL (σ.2.2.1 27) (Int32.toNatClampNeg x) y160_ := by rw [eτ166_, eτ161_]; rfl
        have A169_ : τ166_.2.2.1 28 = vp_updL (σ.2.2.1 28) (Int32.toNatClampNeg x) y165_ := by rw [eτ166_, eτ161_]; rfl
        have o60 : (σ.2.1 17 (Int32.toNatClampNeg x)).toInt = 1 ∨ (σ.2.1 17 (Int32.toNatClampNeg x)).toInt = 6 := by omega
        have E1_ : ∀ p9, τ161_.2.1 p9 = σ.2.1 p9 := fun p9 => by rw [eτ161_]; rfl
        have N170_ : SpnV (σ.1 30).toNatClampNeg (Int32.toNatClampNeg x) σ.2.1 σ.2.2.1 y160_ y165_ := sv_1 o60 (by simp only [lo4, hi4, E1_, ez1_, ez154_, ez155_, ez158_, ey159_, ey160_, ez163_, ey164_, ey165_, Xz156_]) (by simp only [lo4, hi4, E1_, ez1_, ez154_, ez155_, ez158_, ey159_, ey160_, ez163_, ey164_, ey165_, Xz156_])
        exact W.vret hx hb hr (fun t ht hW => ⟨⟨τ166_, rfl, ⟨hIτ166_, Xτ166_, ⟨y160_, y165_, A168_, A169_, N170_⟩⟩, wEn_of hP (hK.sub [] rfl) hD ht hW⟩, hS.F ht⟩) hS.2.2 dX12_laySpan_81
      · have tc157_ := (show z1_.toInt = 0 from ti_eq rfl rg_11 c157_)
        refine lv_aload_n hx hb dX12_laySpan_36 rfl (lv_at hl 2 rfl) ?_
        refine va_get (D := (dC, dI)) (ci := 12) (v := .ref (ad 14)) (C := RX12) (T := TX12) (N := 59) hx hb hts hin12 hown hK hP 0 rfl rfl 14 (Nat.le_of_ble_eq_true rfl) (ho (.fieldLink RX12 30 "NearEnoughModel" "rHas" "[I") (List.mem_of_getElem? (i := 7) rfl)) (fun _ h9 => h9) rfl dX12_laySpan_37 ?_
        refine lv_iload_n hx hb dX12_laySpan_40 rfl (lv_at hl 0 rfl) ?_
        have o61 : 0 ≤ z156_.toInt := by omega
        have o62 : z156_.toInt < ((4 : Nat) : Int) := by omega
        refine va_iald hx hb hK hP 6 5 rfl rfl (ti_inx o61 o62) dX12_laySpan_41 ?_
        refine lv_topi (fun z171_ ez171_ => ?_)
        have gz171_ : z171_.toInt = ((σ.2.1 14) (Int32.toNatClampNeg z156_)).toInt := congrArg Int32.toInt (ez171_.trans (congrFun rfl (Int32.toNatClampNeg z156_)))
        have bz171_ : 0 ≤ z171_.toInt ∧ z171_.toInt ≤ 6 := by rw [ez171_]; exact (hI.2 14) _ (cl_lt (n := 4) o61 o62)
        refine lv_i2l hx hb dX12_laySpan_42 rfl ?_
        refine lv_topl (fun y172_ ey172_ => ?_)
        refine lv_goto (tgt := 47) hx hb dX12_laySpan_43 rfl ?_
        refine lv_lstore (lv' := [(4, .long y172_), (3, .int z156_), (2, .int z1_), (0, .ref h), (1, .int x)]) hx hb dX12_laySpan_47 hl (Nat.le_of_ble_eq_true rfl) rfl (fun ls hl => ?_)
        refine lv_aload_n hx hb dX12_laySpan_49 rfl (lv_at hl 3 rfl) ?_
        refine va_get (D := (dC, dI)) (ci := 12) (v := .ref (ad 27)) (C := RX12) (T := TX12) (N := 59) hx hb hts hin12 hown hK hP 0 rfl rfl 27 (Nat.le_of_ble_eq_true rfl) (ho (.fieldLink RX12 70 "NearEnoughModel" "sLeast" "[J") (List.mem_of_getElem? (i := 3) rfl)) (fun _ h9 => h9) rfl dX12_laySpan_50 ?_
        refine lv_iload_n hx hb dX12_laySpan_53 rfl (lv_at hl 4 rfl) ?_
        refine lv_lload hx hb dX12_laySpan_54 (lv_at hl 0 rfl) ?_
        refine lv_aload_n hx hb dX12_laySpan_56 rfl (lv_at hl 3 rfl) ?_
        refine va_get (D := (dC, dI)) (ci := 12) (v := .ref (ad 15)) (C := RX12) (T := TX12) (N := 59) hx hb hts hin12 hown hK hP 0 rfl rfl 15 (Nat.le_of_ble_eq_true rfl) (ho (.fieldLink RX12 33 "NearEnoughModel" "rLeast" "[I") (List.mem_of_getElem? (i := 4) rfl)) (fun _ h9 => h9) rfl dX12_laySpan_57 ?_
        refine lv_iload_n hx hb dX12_laySpan_60 rfl (lv_at hl 1 rfl) ?_
        refine va_iald hx hb hK hP 7 6 rfl rfl (ti_inx o61 o62) dX12_laySpan_61 ?_
        refine lv_topi (fun z173_ ez173_ => ?_)
        have gz173_ : z173_.toInt = ((σ.2.1 15) (Int32.toNatClampNeg z156_)).toInt := congrArg Int32.toInt (ez173_.trans (congrFun rfl (Int32.toNatClampNeg z156_)))
        refine lv_i2l hx hb dX12_laySpan_62 rfl ?_
        refine lv_topl (fun y174_ ey174_ => ?_)
        refine lv_lmul hx hb dX12_laySpan_63 ?_
        refine lv_topl (fun y175_ ey175_ => ?_)
        refine va_last hx hb hK hP hD hS 19 18 rfl rfl (ti_inx o1 o2) dX12_laySpan_64 (fun H locs hP hD hS => ?_)
        rw [wS27] at hP hD
        obtain ⟨τ176_, eτ176_⟩ : ∃ x9 : MS, x9 = sJ σ 27 (vp_updL (σ.2.2.1 27) (Int32.toNatClampNeg x) y175_) := ⟨_, rfl⟩
        have hP : va_P (dC, dI) vwCl (mW h ad cl τ176_) H := by rw [eτ176_]; exact hP
        have hD : va_D A (mW h ad cl τ176_) := by rw [eτ176_]; exact hD
        have hIτ176_ : Inv τ176_ := by rw [eτ176_]; exact (Inv.sJ hI)
        have Xτ176_ : eqx [27, 28] τ176_ σ := (eqx.eq eτ176_ (eqx.sJ eqx.rf rg_169))
        have qq177_ : (τ176_.1 30).toInt = ((σ.1 30) : Int32).toInt := congrArg Int32.toInt ((show τ176_.1 30 = (σ.1 30) from (congrArg (fun x9 : MS => x9.1 30) eτ176_).trans rfl))
        refine lv_aload_n hx hb dX12_laySpan_65 rfl (lv_at hl 3 rfl) ?_
        refine va_get (D := (dC, dI)) (ci := 12) (v := .ref (ad 28)) (C := RX12) (T := TX12) (N := 59) hx hb hts hin12 hown hK hP 0 rfl rfl 28 (Nat.le_of_ble_eq_true rfl) (ho (.fieldLink RX12 73 "NearEnoughModel" "sMost" "[J") (List.mem_of_getElem? (i := 5) rfl)) (fun _ h9 => h9) rfl dX12_laySpan_66 ?_
        refine lv_iload_n hx hb dX12_laySpan_69 rfl (lv_at hl 4 rfl) ?_
        refine lv_lload hx hb dX12_laySpan_70 (lv_at hl 0 rfl) ?_
        refine lv_aload_n hx hb dX12_laySpan_72 rfl (lv_at hl 3 rfl) ?_
        refine va_get (D := (dC, dI)) (ci := 12) (v := .ref (ad 16)) (C := RX12) (T := TX12) (N := 59) hx hb hts hin12 hown hK hP 0 rfl rfl 16 (Nat.le_of_ble_eq_true rfl) (ho (.fieldLink RX12 36 "NearEnoughModel" "rMost" "[I") (List.mem_of_getElem? (i := 6) rfl)) (fun _ h9 => h9) rfl dX12_laySpan_73 ?_
        refine lv_iload_n hx hb dX12_laySpan_76 rfl (lv_at hl 1 rfl) ?_
        refine va_iald hx hb hK hP 8 7 rfl rfl (ti_inx o61 o62) dX12_laySpan_77 ?_
        refine lv_topi (fun z178_ ez178_ => ?_)
        have gz178_ : z178_.toInt = ((σ.2.1 16) (Int32.toNatClampNeg z156_)).toInt := congrArg Int32.toInt (ez178_.trans (congrFun ((congrArg (fun x9 : MS => x9.2.1 16) eτ176_).trans (tJ.trans rfl)) (Int32.toNatClampNeg z156_)))
        refine lv_i2l hx hb dX12_laySpan_78 rfl ?_
        refine lv_topl (fun y179_ ey179_ => ?_)
        refine lv_lmul hx hb dX12_laySpan_79 ?_
        refine lv_topl (fun y180_ ey180_ => ?_)
        refine va_last hx hb hK hP hD hS 20 19 rfl rfl (ti_inx o1 o2) dX12_laySpan_80 (fun H locs hP hD hS => ?_)
        rw [wS28] at hP hD
        obtain ⟨τ181_, eτ181_⟩ : ∃ x9 : MS, x9 = sJ τ176_ 28 (vp_updL (τ176_.2.2.1 28) (Int32.toNatClampNeg x) y180_) := ⟨_, rfl⟩
        have hP : va_P (dC, dI) vwCl (mW h ad cl τ181_) H := by rw [eτ181_]; exact hP
        have hD : va_D A (mW h ad cl τ181_) := by rw [eτ181_]; exact hD
        have hIτ181_ : Inv τ181_ := by rw [eτ181_]; exact (Inv.sJ hIτ176_)
        have Xτ181_ : eqx [27, 28] τ181_ σ := (eqx.eq eτ181_ (eqx.sJ Xτ176_ rg_170))
        have qq182_ : (τ181_.1 30).toInt = ((σ.1 30) : Int32).toInt := congrArg Int32.toInt ((show τ181_.1 30 = (σ.1 30) from (congrArg (fun x9 : MS => x9.1 30) eτ181_).trans (show τ176_.1 30 = (σ.1 30) from (congrArg (fun x9 : MS => x9.1 30) eτ176_).trans rfl)))
        rw [hQ]
        have A183_ : τ181_.2.2.1 27 = vp_updL (σ.2.2.1 27) (Int32.toNatClampNeg x) y175_ := by rw [eτ181_, eτ176_]; rfl
        have A184_ : τ181_.2.2.1 28 = vp_updL (σ.2.2.1 28) (Int32.toNatClampNeg x) y180_ := by rw [eτ181_, eτ176_]; rfl
        have o63 : (σ.2.1 17 (Int32.toNatClampNeg x)).toInt = 0 := by omega
        have E1_ : ∀ p9, τ176_.2.1 p9 = σ.2.1 p9 := fun p9 => by rw [eτ176_]; rfl
        have N185_ : SpnV (σ.1 30).toNatClampNeg (Int32.toNatClampNeg x) σ.2.1 σ.2.2.1 y175_ y180_ := sv_0 o63 (by simp only [lo4, hi4, E1_, ez1_, ez154_, ez155_, ez171_, ey172_, ez173_, ey174_, ey175_, ez178_, ey179_, ey180_, Xz156_]) (by simp only [lo4, hi4, E1_, ez1_, ez154_, ez155_, ez171_, ey172_, ez173_, ey174_, ey175_, ez178_, ey179_, ey180_, Xz156_])
        exact W.vret hx hb hr (fun t ht hW => ⟨⟨τ181_, rfl, ⟨hIτ181_, Xτ181_, ⟨y175_, y180_, A183_, A184_, N185_⟩⟩, wEn_of hP (hK.sub [] rfl) hD ht hW⟩, hS.F ht⟩) hS.2.2 dX12_laySpan_81

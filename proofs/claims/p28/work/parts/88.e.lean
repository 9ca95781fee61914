theorem dX3_addStep_0 : decode cX3_addStep 0 = .ok (.aload_n 0, 1) := by decide +kernel
theorem dX3_addStep_1 : decode cX3_addStep 1 = .ok (.getfield 37, 3) := by decide +kernel
theorem dX3_addStep_4 : decode cX3_addStep 4 = .ok (.bipush 12, 2) := by decide +kernel
theorem dX3_addStep_6 : decode cX3_addStep 6 = .ok (.if_icmp .ge 23, 3) := by decide +kernel
theorem dX3_addStep_29 : decode cX3_addStep 29 = .ok (.return_, 1) := by decide +kernel
theorem dX3_addStep_9 : decode cX3_addStep 9 = .ok (.aload_n 0, 1) := by decide +kernel
theorem dX3_addStep_10 : decode cX3_addStep 10 = .ok (.getfield 19, 3) := by decide +kernel
theorem dX3_addStep_13 : decode cX3_addStep 13 = .ok (.aload_n 0, 1) := by decide +kernel
theorem dX3_addStep_14 : decode cX3_addStep 14 = .ok (.getfield 37, 3) := by decide +kernel
theorem dX3_addStep_17 : decode cX3_addStep 17 = .ok (.aload_n 1, 1) := by decide +kernel
theorem dX3_addStep_18 : decode cX3_addStep 18 = .ok (.aastore, 1) := by decide +kernel
theorem dX3_addStep_19 : decode cX3_addStep 19 = .ok (.aload_n 0, 1) := by decide +kernel
theorem dX3_addStep_20 : decode cX3_addStep 20 = .ok (.dup, 1) := by decide +kernel
theorem dX3_addStep_21 : decode cX3_addStep 21 = .ok (.getfield 37, 3) := by decide +kernel
theorem dX3_addStep_24 : decode cX3_addStep 24 = .ok (.iconst 1, 1) := by decide +kernel
theorem dX3_addStep_25 : decode cX3_addStep 25 = .ok (.iadd, 1) := by decide +kernel
theorem dX3_addStep_26 : decode cX3_addStep 26 = .ok (.putfield 37, 3) := by decide +kernel
theorem dX3_addEnd_0 : decode cX3_addEnd 0 = .ok (.aload_n 0, 1) := by decide +kernel
theorem dX3_addEnd_1 : decode cX3_addEnd 1 = .ok (.getfield 40, 3) := by decide +kernel
theorem dX3_addEnd_4 : decode cX3_addEnd 4 = .ok (.iconst 4, 1) := by decide +kernel
theorem dX3_addEnd_5 : decode cX3_addEnd 5 = .ok (.if_icmp .ge 43, 3) := by decide +kernel
theorem dX3_addEnd_48 : decode cX3_addEnd 48 = .ok (.return_, 1) := by decide +kernel
theorem dX3_addEnd_8 : decode cX3_addEnd 8 = .ok (.aload_n 0, 1) := by decide +kernel
theorem dX3_addEnd_9 : decode cX3_addEnd 9 = .ok (.getfield 23, 3) := by decide +kernel
theorem dX3_addEnd_12 : decode cX3_addEnd 12 = .ok (.aload_n 0, 1) := by decide +kernel
theorem dX3_addEnd_13 : decode cX3_addEnd 13 = .ok (.getfield 40, 3) := by decide +kernel
theorem dX3_addEnd_16 : decode cX3_addEnd 16 = .ok (.iload_n 1, 1) := by decide +kernel
theorem dX3_addEnd_17 : decode cX3_addEnd 17 = .ok (.iastore, 1) := by decide +kernel
theorem dX3_addEnd_18 : decode cX3_addEnd 18 = .ok (.aload_n 0, 1) := by decide +kernel
theorem dX3_addEnd_19 : decode cX3_addEnd 19 = .ok (.getfield 27, 3) := by decide +kernel
theorem dX3_addEnd_22 : decode cX3_addEnd 22 = .ok (.aload_n 0, 1) := by decide +kernel
theorem dX3_addEnd_23 : decode cX3_addEnd 23 = .ok (.getfield 40, 3) := by decide +kernel
theorem dX3_addEnd_26 : decode cX3_addEnd 26 = .ok (.iload_n 2, 1) := by decide +kernel
theorem dX3_addEnd_27 : decode cX3_addEnd 27 = .ok (.iastore, 1) := by decide +kernel
theorem dX3_addEnd_28 : decode cX3_addEnd 28 = .ok (.aload_n 0, 1) := by decide +kernel
theorem dX3_addEnd_29 : decode cX3_addEnd 29 = .ok (.getfield 30, 3) := by decide +kernel
theorem dX3_addEnd_32 : decode cX3_addEnd 32 = .ok (.aload_n 0, 1) := by decide +kernel
theorem dX3_addEnd_33 : decode cX3_addEnd 33 = .ok (.getfield 40, 3) := by decide +kernel
theorem dX3_addEnd_36 : decode cX3_addEnd 36 = .ok (.iload_n 3, 1) := by decide +kernel
theorem dX3_addEnd_37 : decode cX3_addEnd 37 = .ok (.iastore, 1) := by decide +kernel
theorem dX3_addEnd_38 : decode cX3_addEnd 38 = .ok (.aload_n 0, 1) := by decide +kernel
theorem dX3_addEnd_39 : decode cX3_addEnd 39 = .ok (.dup, 1) := by decide +kernel
theorem dX3_addEnd_40 : decode cX3_addEnd 40 = .ok (.getfield 40, 3) := by decide +kernel
theorem dX3_addEnd_43 : decode cX3_addEnd 43 = .ok (.iconst 1, 1) := by decide +kernel
theorem dX3_addEnd_44 : decode cX3_addEnd 44 = .ok (.iadd, 1) := by decide +kernel
theorem dX3_addEnd_45 : decode cX3_addEnd 45 = .ok (.putfield 40, 3) := by decide +kernel
theorem dX3_addRow_0 : decode cX3_addRow 0 = .ok (.aload_n 0, 1) := by decide +kernel
theorem dX3_addRow_1 : decode cX3_addRow 1 = .ok (.getfield 33, 3) := by decide +kernel
theorem dX3_addRow_4 : decode cX3_addRow 4 = .ok (.iconst 2, 1) := by decide +kernel
theorem dX3_addRow_5 : decode cX3_addRow 5 = .ok (.if_icmp .ge 39, 3) := by decide +kernel
theorem dX3_addRow_44 : decode cX3_addRow 44 = .ok (.return_, 1) := by decide +kernel
theorem dX3_addRow_8 : decode cX3_addRow 8 = .ok (.aload_n 0, 1) := by decide +kernel
theorem dX3_addRow_9 : decode cX3_addRow 9 = .ok (.getfield 11, 3) := by decide +kernel
theorem dX3_addRow_12 : decode cX3_addRow 12 = .ok (.aload_n 0, 1) := by decide +kernel
theorem dX3_addRow_13 : decode cX3_addRow 13 = .ok (.getfield 33, 3) := by decide +kernel
theorem dX3_addRow_16 : decode cX3_addRow 16 = .ok (.new 9, 3) := by decide +kernel
theorem dX3_addRow_19 : decode cX3_addRow 19 = .ok (.dup, 1) := by decide +kernel
theorem dX3_addRow_20 : decode cX3_addRow 20 = .ok (.lload_n 1, 1) := by decide +kernel
theorem dX3_addRow_21 : decode cX3_addRow 21 = .ok (.iload_n 3, 1) := by decide +kernel
theorem dX3_addRow_22 : decode cX3_addRow 22 = .ok (.iload 4, 2) := by decide +kernel
theorem dX3_addRow_24 : decode cX3_addRow 24 = .ok (.iload 5, 2) := by decide +kernel
theorem dX3_addRow_26 : decode cX3_addRow 26 = .ok (.aload_n 0, 1) := by decide +kernel
theorem dX3_addRow_27 : decode cX3_addRow 27 = .ok (.invokevirtual 57, 3) := by decide +kernel
theorem dX3_addRow_30 : decode cX3_addRow 30 = .ok (.invokespecial 61, 3) := by decide +kernel
theorem dX3_addRow_33 : decode cX3_addRow 33 = .ok (.aastore, 1) := by decide +kernel
theorem dX3_addRow_34 : decode cX3_addRow 34 = .ok (.aload_n 0, 1) := by decide +kernel
theorem dX3_addRow_35 : decode cX3_addRow 35 = .ok (.dup, 1) := by decide +kernel
theorem dX3_addRow_36 : decode cX3_addRow 36 = .ok (.getfield 33, 3) := by decide +kernel
theorem dX3_addRow_39 : decode cX3_addRow 39 = .ok (.iconst 1, 1) := by decide +kernel
theorem dX3_addRow_40 : decode cX3_addRow 40 = .ok (.iadd, 1) := by decide +kernel
theorem dX3_addRow_41 : decode cX3_addRow 41 = .ok (.putfield 33, 3) := by decide +kernel

def ow_g_addStep : List Cond := [.fieldLink RX3 37 "NearEnough$Program" "stepCount" "I", .fieldLink RX3 19 "NearEnough$Program" "steps" "[LNearEnough$Step;"]
def vs_g_addStep : List Cond := .code yX3_addStep cX3_addStep 2 none :: (ow_g_addStep ++ (wsX30))
theorem vg_g_addStep : vs_g_addStep.all goodWord = true := by decide +kernel
theorem dd_g_addStep : yX3_addStep.cls = RX3 ∧ yX3_addStep.cls ≠ "java/lang/invoke/MethodHandle" ∧ yX3_addStep.cls ≠ "java/lang/invoke/VarHandle" ∧ (parseMethodDescriptor yX3_addStep.desc).map (fun d => d.parameters.length) = some 1 := by decide +kernel
def rm_g_addStep : Room := { frames := 0, cells := 0, slots := 0, locals := 0 }
set_option maxHeartbeats 4000000 in
set_option maxRecDepth 100000 in
theorem g_addStep (l : Launch) (dC : Nat → ClassId) (dI : Nat → Nat → Nat) (adK adV : Nat → Nat) (κ : CE) (sz : Nat) (σ : MS) (a : Nat) (hk : PInv κ) (hI : RInv σ) (t9 : TT) (hfa : a ∈ kL κ ∧ kf κ a = .inr (9, stV t9)) (hr4 : ∀ j, 1 ≤ j → j ≤ 4 → 0 ≤ (t9.1 j).toInt ∧ (t9.1 j).toInt ≤ (pI κ 1).toInt) (hrw : ∀ r, t9.2.2 = some r → ∃ u, IsRow κ r u) : Met l yX3_addStep vs_g_addStep rm_g_addStep (va_Pc [.ref (kA κ 3), .ref a] (wSr dC dI adK adV (rW κ σ) (rT κ) sz)) (va_Qv (fun (u : CE × MS) => PInv u.1 ∧ RInv u.2 ∧ kA u.1 = kA κ ∧ kC u.1 = kC κ ∧ ((u.2.1 1).toInt = (σ.1 1).toInt)) (fun (u : CE × MS) => wEn dC dI (va_A (rW κ σ) sz) (rW u.1 u.2) []) (va_A (rW κ σ) sz)) 0 0 (va_A (rW κ σ) sz) := by
  refine Met.ofW (cc := cX3_addStep) (maxL := 2) (ret := none) (by decide +kernel) rfl ?_
  intro p e s m args below meth c s₁ B hml hv
  obtain ⟨rfl, ⟨hsz, hP, hK, hD0, hE⟩, hZ, hR⟩ := hv
  have hx := B.exec
  have hb := B.bytes
  have hr := B.returns
  have hts := atoms_spec (ws := vs_g_addStep) B.pre
  have hown : s.vm.findClass RX3 = some m.cls := findClass_of_methodNamed B.named
  have hlocks := B.notSynchronized
  subst hsz
  have hD := hD0.self (sz := s.heap.size)
  generalize hAe : va_A (rW κ σ) s.heap.size = A at hD hZ ⊢
  have hA : ∀ q : Nat, s.heap.size ≤ q → A q := fun q h => by rw [← hAe]; exact Or.inr h
  have hl := lv_entry ([.ref (kA κ 3), .ref a]) (n := 2) (Nat.le_of_ble_eq_true rfl)
  rw [lg_entry_eq]
  generalize (lg_sl ([.ref (kA κ 3), .ref a]) ++ List.replicate (2 - (lg_sl ([.ref (kA κ 3), .ref a])).length) Slot.unset).toArray = ls at hl ⊢
  have hl : lv_has ls 2 [(0, .ref (kA κ 3)), (1, .ref a)] := hl
  have ho := fun w (h : w ∈ ow_g_addStep) => hts w (List.mem_cons_of_mem _ (List.mem_append_left _ h))
  have hin3 : ∀ w ∈ u_ws RX3 TX3 8, w ∈ vs_g_addStep := fun w h => (List.mem_cons_of_mem _ (List.mem_append_right _ h))
  refine zQ (fun Q hQ => ?_)
  refine zH (A := A) (ws := (rW κ σ)) (fun H hP hS => ?_) hP
  have hk0 := hk.1
  have hk1 := hk.2.1
  have hk2 := hk.2.2.1
  refine lv_aload_n hx hb dX3_addStep_0 rfl (lv_at hl 0 rfl) ?_
  refine va_get (D := (dC, dI)) (ci := 3) (v := .int (pI κ 1)) (C := RX3) (T := TX3) (N := 8) hx hb hts hin3 hown hK hP 3 rfl rfl 6 (Nat.le_of_ble_eq_true rfl) (ho (.fieldLink RX3 37 "NearEnough$Program" "stepCount" "I") (List.mem_of_getElem? (i := 0) rfl)) (fun _ h9 => h9) rfl dX3_addStep_1 ?_
  refine lv_bipush (v := 12) hx hb dX3_addStep_4 rg_57 ?_
  refine lv_icmp_ge (tgt := 29) hx hb dX3_addStep_6 rfl (fun c1_ => ?_) (fun c1_ => ?_)
  · have tc1_ := (show 12 ≤ (pI κ 1).toInt from ti_le rg_58 rfl c1_)
    have o1 : (σ.1 1).toInt = (σ.1 1).toInt := by omega
    rw [hQ]
    exact W.vret hx hb hr (fun t ht hW => ⟨⟨(κ, σ), rfl, ⟨hk, hI, rfl, rfl, o1⟩, wEn_of hP (hK.sub [] rfl) hD ht hW⟩, hS.F ht⟩) hS.2.2 dX3_addStep_29
  · have tc1_ := (show (pI κ 1).toInt < 12 from ti_nle rg_58 rfl c1_)
    refine lv_aload_n hx hb dX3_addStep_9 rfl (lv_at hl 0 rfl) ?_
    refine va_get (D := (dC, dI)) (ci := 3) (v := .ref (kA κ 5)) (C := RX3) (T := TX3) (N := 8) hx hb hts hin3 hown hK hP 3 rfl rfl 1 (Nat.le_of_ble_eq_true rfl) (ho (.fieldLink RX3 19 "NearEnough$Program" "steps" "[LNearEnough$Step;") (List.mem_of_getElem? (i := 1) rfl)) (fun _ h9 => h9) rfl dX3_addStep_10 ?_
    refine lv_aload_n hx hb dX3_addStep_13 rfl (lv_at hl 0 rfl) ?_
    refine va_get (D := (dC, dI)) (ci := 3) (v := .int (pI κ 1)) (C := RX3) (T := TX3) (N := 8) hx hb hts hin3 hown hK hP 3 rfl rfl 6 (Nat.le_of_ble_eq_true rfl) (ho (.fieldLink RX3 37 "NearEnough$Program" "stepCount" "I") (List.mem_of_getElem? (i := 0) rfl)) (fun _ h9 => h9) rfl dX3_addStep_14 ?_
    refine lv_aload_n hx hb dX3_addStep_17 rfl (lv_at hl 1 rfl) ?_
    obtain ⟨kp2_, hkp2_⟩ := rpl (κ := κ) (σ := σ) hfa.1 hfa.2
    have o2 : 0 ≤ (pI κ 1).toInt := by omega
    have o3 : (pI κ 1).toInt < ((12 : Nat) : Int) := by omega
    refine va_astq hx hb hK hP hD hS 5 2 kp2_ 9 rfl rfl hkp2_ rfl (ti_inx o2 o3) dX3_addStep_18 (fun H locs hP hD hS => ?_)
    have hP : va_P (dC, dI) vwCl (rW (kQ κ 1 (va_up (pQ κ 1) (Int32.toNatClampNeg (pI κ 1)) (some a))) σ) H := hP
    have hD : va_D A (rW (kQ κ 1 (va_up (pQ κ 1) (Int32.toNatClampNeg (pI κ 1)) (some a))) σ) := hD
    refine lv_aload_n hx hb dX3_addStep_19 rfl (lv_at hl 0 rfl) ?_
    refine lv_dup hx hb dX3_addStep_20 rfl ?_
    refine va_get (D := (dC, dI)) (ci := 3) (v := .int (pI κ 1)) (C := RX3) (T := TX3) (N := 8) hx hb hts hin3 hown hK hP 3 rfl rfl 6 (Nat.le_of_ble_eq_true rfl) (ho (.fieldLink RX3 37 "NearEnough$Program" "stepCount" "I") (List.mem_of_getElem? (i := 0) rfl)) (fun _ h9 => h9) rfl dX3_addStep_21 ?_
    refine lv_iconst (v := 1) hx hb dX3_addStep_24 rg_6 ?_
    refine lv_iadd hx hb dX3_addStep_25 ?_
    refine lv_topi (fun z3_ ez3_ => ?_)
    have o4 : -2147483648 ≤ (pI κ 1).toInt + 1 := by omega
    have o5 : (pI κ 1).toInt + 1 ≤ 2147483647 := by omega
    have tz3_ : z3_.toInt = (pI κ 1).toInt + 1 := ti_add ez3_ rfl rg_18 o4 o5
    refine va_put (D := (dC, dI)) (ci := 3) (v := .int z3_) (ty := tyX3 6) (C := RX3) (T := TX3) (N := 8) hx hb hts hin3 tyX3 tyX3_ok nmX3 hown hK hP hD hS 3 rfl rfl 6 (Nat.le_of_ble_eq_true rfl) (ho (.fieldLink RX3 37 "NearEnough$Program" "stepCount" "I") (List.mem_of_getElem? (i := 0) rfl)) (fun _ h9 => h9) rfl (tyX3_ok 6 (Nat.le_of_ble_eq_true rfl)) rfl rfl (Nat.le_of_ble_eq_true rfl) dX3_addStep_26 (fun H locs hP hD hS => ?_)
    have hP : va_P (dC, dI) vwCl (rW (kI (kQ κ 1 (va_up (pQ κ 1) (Int32.toNatClampNeg (pI κ 1)) (some a))) 1 z3_) σ) H := hP
    have hD : va_D A (rW (kI (kQ κ 1 (va_up (pQ κ 1) (Int32.toNatClampNeg (pI κ 1)) (some a))) 1 z3_) σ) := hD
    have o6 : (pI κ 1).toInt < 12 := by omega
    have o7 : (σ.1 1).toInt = (σ.1 1).toInt := by omega
    rw [hQ]
    exact W.vret hx hb hr (fun t ht hW => ⟨⟨((kI (kQ κ 1 (va_up (pQ κ 1) (Int32.toNatClampNeg (pI κ 1)) (some a))) 1 z3_), σ), rfl, ⟨(PInv.addS hk hfa.1 hfa.2 hr4 hrw tz3_ o6), hI, rfl, rfl, o7⟩, wEn_of hP (hK.sub [] rfl) hD ht hW⟩, hS.F ht⟩) hS.2.2 dX3_addStep_29
def ow_g_addEnd : List Cond := [.fieldLink RX3 40 "NearEnough$Program" "endCount" "I", .fieldLink RX3 23 "NearEnough$Program" "endStep" "[I", .fieldLink RX3 27 "NearEnough$Program" "endOff" "[I", .fieldLink RX3 30 "NearEnough$Program" "endKind" "[I"]
def vs_g_addEnd : List Cond := .code yX3_addEnd cX3_addEnd 4 none :: (ow_g_addEnd ++ (wsX30))
theorem vg_g_addEnd : vs_g_addEnd.all goodWord = true := by decide +kernel
theorem dd_g_addEnd : yX3_addEnd.cls = RX3 ∧ yX3_addEnd.cls ≠ "java/lang/invoke/MethodHandle" ∧ yX3_addEnd.cls ≠ "java/lang/invoke/VarHandle" ∧ (parseMethodDescriptor yX3_addEnd.desc).map (fun d => d.parameters.length) = some 3 := by decide +kernel
def rm_g_addEnd : Room := { frames := 0, cells := 0, slots := 0, locals := 0 }
set_option maxHeartbeats 4000000 in
set_option maxRecDepth 100000 in
theorem g_addEnd (l : Launch) (dC : Nat → ClassId) (dI : Nat → Nat → Nat) (adK adV : Nat → Nat) (κ : CE) (sz : Nat) (σ : MS) (x : Int32) (y : Int32) (z : Int32) (hk : PInv κ) (hI : RInv σ) (hx0 : 0 ≤ x.toInt ∧ x.toInt < (pI κ 1).toInt) : Met l yX3_addEnd vs_g_addEnd rm_g_addEnd (va_Pc [.ref (kA κ 3), .int x, .int y, .int z] (wSr dC dI adK adV (rW κ σ) (rT κ) sz)) (va_Qv (fun (u : CE × MS) => PInv u.1 ∧ RInv u.2 ∧ kA u.1 = kA κ ∧ kC u.1 = kC κ ∧ ((u.2.1 1).toInt = (σ.1 1).toInt)) (fun (u : CE × MS) => wEn dC dI (va_A (rW κ σ) sz) (rW u.1 u.2) []) (va_A (rW κ σ) sz)) 0 0 (va_A (rW κ σ) sz) := by
  refine Met.ofW (cc := cX3_addEnd) (maxL := 4) (ret := none) (by decide +kernel) rfl ?_
  intro p e s m args below meth c s₁ B hml hv
  obtain ⟨rfl, ⟨hsz, hP, hK, hD0, hE⟩, hZ, hR⟩ := hv
  have hx := B.exec
  have hb := B.bytes
  have hr := B.returns
  have hts := atoms_spec (ws := vs_g_addEnd) B.pre
  have hown : s.vm.findClass RX3 = some m.cls := findClass_of_methodNamed B.named
  have hlocks := B.notSynchronized
  subst hsz
  have hD := hD0.self (sz := s.heap.size)
  generalize hAe : va_A (rW κ σ) s.heap.size = A at hD hZ ⊢
  have hA : ∀ q : Nat, s.heap.size ≤ q → A q := fun q h => by rw [← hAe]; exact Or.inr h
  have hl := lv_entry ([.ref (kA κ 3), .int x, .int y, .int z]) (n := 4) (Nat.le_of_ble_eq_true rfl)
  rw [lg_entry_eq]
  generalize (lg_sl ([.ref (kA κ 3), .int x, .int y, .int z]) ++ List.replicate (4 - (lg_sl ([.ref (kA κ 3), .int x, .int y, .int z])).length) Slot.unset).toArray = ls at hl ⊢
  have hl : lv_has ls 4 [(0, .ref (kA κ 3)), (1, .int x), (2, .int y), (3, .int z)] := hl
  have ho := fun w (h : w ∈ ow_g_addEnd) => hts w (List.mem_cons_of_mem _ (List.mem_append_left _ h))
  have hin3 : ∀ w ∈ u_ws RX3 TX3 8, w ∈ vs_g_addEnd := fun w h => (List.mem_cons_of_mem _ (List.mem_append_right _ h))
  refine zQ (fun Q hQ => ?_)
  refine zH (A := A) (ws := (rW κ σ)) (fun H hP hS => ?_) hP
  have hk0 := hk.1
  have hk1 := hk.2.1
  have hk2 := hk.2.2.1
  refine lv_aload_n hx hb dX3_addEnd_0 rfl (lv_at hl 0 rfl) ?_
  refine va_get (D := (dC, dI)) (ci := 3) (v := .int (pI κ 2)) (C := RX3) (T := TX3) (N := 8) hx hb hts hin3 hown hK hP 3 rfl rfl 7 (Nat.le_of_ble_eq_true rfl) (ho (.fieldLink RX3 40 "NearEnough$Program" "endCount" "I") (List.mem_of_getElem? (i := 0) rfl)) (fun _ h9 => h9) rfl dX3_addEnd_1 ?_
  refine lv_iconst (v := 4) hx hb dX3_addEnd_4 rg_31 ?_
  refine lv_icmp_ge (tgt := 48) hx hb dX3_addEnd_5 rfl (fun c1_ => ?_) (fun c1_ => ?_)
  · have tc1_ := (show 4 ≤ (pI κ 2).toInt from ti_le rg_32 rfl c1_)
    have o1 : (σ.1 1).toInt = (σ.1 1).toInt := by omega
    rw [hQ]
    exact W.vret hx hb hr (fun t ht hW => ⟨⟨(κ, σ), rfl, ⟨hk, hI, rfl, rfl, o1⟩, wEn_of hP (hK.sub [] rfl) hD ht hW⟩, hS.F ht⟩) hS.2.2 dX3_addEnd_48
  · have tc1_ := (show (pI κ 2).toInt < 4 from ti_nle rg_32 rfl c1_)
    refine lv_aload_n hx hb dX3_addEnd_8 rfl (lv_at hl 0 rfl) ?_
    refine va_get (D := (dC, dI)) (ci := 3) (v := .ref (kA κ 6)) (C := RX3) (T := TX3) (N := 8) hx hb hts hin3 hown hK hP 3 rfl rfl 2 (Nat.le_of_ble_eq_true rfl) (ho (.fieldLink RX3 23 "NearEnough$Program" "endStep" "[I") (List.mem_of_getElem? (i := 1) rfl)) (fun _ h9 => h9) rfl dX3_addEnd_9 ?_
    refine lv_aload_n hx hb dX3_addEnd_12 rfl (lv_at hl 0 rfl) ?_
    refine va_get (D := (dC, dI)) (ci := 3) (v := .int (pI κ 2)) (C := RX3) (T := TX3) (N := 8) hx hb hts hin3 hown hK hP 3 rfl rfl 7 (Nat.le_of_ble_eq_true rfl) (ho (.fieldLink RX3 40 "NearEnough$Program" "endCount" "I") (List.mem_of_getElem? (i := 0) rfl)) (fun _ h9 => h9) rfl dX3_addEnd_13 ?_
    refine lv_iload_n hx hb dX3_addEnd_16 rfl (lv_at hl 1 rfl) ?_
    have o2 : 0 ≤ (pI κ 2).toInt := by omega
    have o3 : (pI κ 2).toInt < ((4 : Nat) : Int) := by omega
    refine va_iast hx hb hK hP hD hS 6 3 rfl rfl (ti_inx o2 o3) dX3_addEnd_17 (fun H locs hP hD hS => ?_)
    obtain ⟨m2_, em2_⟩ : ∃ f9 : Nat → Nat → Int32, f9 = va_up (pA κ) 0 (upd ((pA κ) 0) (Int32.toNatClampNeg (pI κ 2)) x) := ⟨_, rfl⟩
    have hP : va_P (dC, dI) vwCl (rW (kN κ (pI κ) m2_ (pQ κ)) σ) H := by rw [em2_]; exact hP
    have hD : va_D A (rW (kN κ (pI κ) m2_ (pQ κ)) σ) := by rw [em2_]; exact hD
    refine lv_aload_n hx hb dX3_addEnd_18 rfl (lv_at hl 0 rfl) ?_
    refine va_get (D := (dC, dI)) (ci := 3) (v := .ref (kA κ 7)) (C := RX3) (T := TX3) (N := 8) hx hb hts hin3 hown hK hP 3 rfl rfl 3 (Nat.le_of_ble_eq_true rfl) (ho (.fieldLink RX3 27 "NearEnough$Program" "endOff" "[I") (List.mem_of_getElem? (i := 2) rfl)) (fun _ h9 => h9) rfl dX3_addEnd_19 ?_
    refine lv_aload_n hx hb dX3_addEnd_22 rfl (lv_at hl 0 rfl) ?_
    refine va_get (D := (dC, dI)) (ci := 3) (v := .int (pI κ 2)) (C := RX3) (T := TX3) (N := 8) hx hb hts hin3 hown hK hP 3 rfl rfl 7 (Nat.le_of_ble_eq_true rfl) (ho (.fieldLink RX3 40 "NearEnough$Program" "endCount" "I") (List.mem_of_getElem? (i := 0) rfl)) (fun _ h9 => h9) rfl dX3_addEnd_23 ?_
    refine lv_iload_n hx hb dX3_addEnd_26 rfl (lv_at hl 2 rfl) ?_
    refine va_iast hx hb hK hP hD hS 7 4 rfl rfl (ti_inx o2 o3) dX3_addEnd_27 (fun H locs hP hD hS => ?_)
    obtain ⟨m3_, em3_⟩ : ∃ f9 : Nat → Nat → Int32, f9 = va_up m2_ 1 (upd (m2_ 1) (Int32.toNatClampNeg (pI κ 2)) y) := ⟨_, rfl⟩
    have hP : va_P (dC, dI) vwCl (rW (kN κ (pI κ) m3_ (pQ κ)) σ) H := by rw [em3_]; exact hP
    have hD : va_D A (rW (kN κ (pI κ) m3_ (pQ κ)) σ) := by rw [em3_]; exact hD
    refine lv_aload_n hx hb dX3_addEnd_28 rfl (lv_at hl 0 rfl) ?_
    refine va_get (D := (dC, dI)) (ci := 3) (v := .ref (kA κ 8)) (C := RX3) (T := TX3) (N := 8) hx hb hts hin3 hown hK hP 3 rfl rfl 4 (Nat.le_of_ble_eq_true rfl) (ho (.fieldLink RX3 30 "NearEnough$Program" "endKind" "[I") (List.mem_of_getElem? (i := 3) rfl)) (fun _ h9 => h9) rfl dX3_addEnd_29 ?_
    refine lv_aload_n hx hb dX3_addEnd_32 rfl (lv_at hl 0 rfl) ?_
    refine va_get (D := (dC, dI)) (ci := 3) (v := .int (pI κ 2)) (C := RX3) (T := TX3) (N := 8) hx hb hts hin3 hown hK hP 3 rfl rfl 7 (Nat.le_of_ble_eq_true rfl) (ho (.fieldLink RX3 40 "NearEnough$Program" "endCount" "I") (List.mem_of_getElem? (i := 0) rfl)) (fun _ h9 => h9) rfl dX3_addEnd_33 ?_
    refine lv_iload_n hx hb dX3_addEnd_36 rfl (lv_at hl 3 rfl) ?_
    refine va_iast hx hb hK hP hD hS 8 5 rfl rfl (ti_inx o2 o3) dX3_addEnd_37 (fun H locs hP hD hS => ?_)
    obtain ⟨m4_, em4_⟩ : ∃ f9 : Nat → Nat → Int32, f9 = va_up m3_ 2 (upd (m3_ 2) (Int32.toNatClampNeg (pI κ 2)) z) := ⟨_, rfl⟩
    have hP : va_P (dC, dI) vwCl (rW (kN κ (pI κ) m4_ (pQ κ)) σ) H := by rw [em4_]; exact hP
    have hD : va_D A (rW (kN κ (pI κ) m4_ (pQ κ)) σ) := by rw [em4_]; exact hD
    refine lv_aload_n hx hb dX3_addEnd_38 rfl (lv_at hl 0 rfl) ?_
    refine lv_dup hx hb dX3_addEnd_39 rfl ?_
    refine va_get (D := (dC, dI)) (ci := 3) (v := .int (pI κ 2)) (C := RX3) (T := TX3) (N := 8) hx hb hts hin3 hown hK hP 3 rfl rfl 7 (Nat.le_of_ble_eq_true rfl) (ho (.fieldLink RX3 40 "NearEnough$Program" "endCount" "I") (List.mem_of_getElem? (i := 0) rfl)) (fun _ h9 => h9) rfl dX3_addEnd_40 ?_
    refine lv_iconst (v := 1) hx hb dX3_addEnd_43 rg_6 ?_
    refine lv_iadd hx hb dX3_addEnd_44 ?_
    refine lv_topi (fun z5_ ez5_ => ?_)
    have o4 : -2147483648 ≤ (pI κ 2).toInt + 1 := by omega
    have o5 : (pI κ 2).toInt + 1 ≤ 2147483647 := by omega
    have tz5_ : z5_.toInt = (pI κ 2).toInt + 1 := ti_add ez5_ rfl rg_18 o4 o5
    refine va_put (D := (dC, dI)) (ci := 3) (v := .int z5_) (ty := tyX3 7) (C := RX3) (T := TX3) (N := 8) hx hb hts hin3 tyX3 tyX3_ok nmX3 hown hK hP hD hS 3 rfl rfl 7 (Nat.le_of_ble_eq_true rfl) (ho (.fieldLink RX3 40 "NearEnough$Program" "endCount" "I") (List.mem_of_getElem? (i := 0) rfl)) (fun _ h9 => h9) rfl (tyX3_ok 7 (Nat.le_of_ble_eq_true rfl)) rfl rfl (Nat.le_of_ble_eq_true rfl) dX3_addEnd_45 (fun H locs hP hD hS => ?_)
    obtain ⟨i6_, ei6_⟩ : ∃ f9 : Nat → Int32, f9 = upd (pI κ) 2 z5_ := ⟨_, rfl⟩
    have hP : va_P (dC, dI) vwCl (rW (kN κ i6_ m4_ (pQ κ)) σ) H := by rw [ei6_]; exact hP
    have hD : va_D A (rW (kN κ i6_ m4_ (pQ κ)) σ) := by rw [ei6_]; exact hD
    have hm_ : m4_ 0 = upd (pA κ 0) (Int32.toNatClampNeg (pI κ 2)) x := by rw [em4_]; show m3_ 0 = _; rw [em3_]; show m2_ 0 = _; rw [em2_]; rfl
    have o6 : (pI κ 2).toInt < 4 := by omega
    have o7 : (σ.1 1).toInt = (σ.1 1).toInt := by omega
    rw [hQ]
    exact W.vret hx hb hr (fun t ht hW => ⟨⟨((kN κ i6_ m4_ (pQ κ)), σ), rfl, ⟨(PInv.addE hk ei6_ hm_ hx0 tz5_ o6), hI, rfl, rfl, o7⟩, wEn_of hP (hK.sub [] rfl) hD ht hW⟩, hS.F ht⟩) hS.2.2 dX3_addEnd_48
def ow_g_addRow : List Cond := [.fieldLink RX3 33 "NearEnough$Program" "rowCount" "I", .fieldLink RX3 11 "NearEnough$Program" "rows" "[LNearEnough$Row;", .classLink RX3 9 RX5, .instantiable RX5 5, .initialized RX5, .methodLink RX3 61 yX5_init, .instanceMethod yX5_init]
def vs_g_addRow : List Cond := .code yX3_addRow cX3_addRow 6 none :: (ow_g_addRow ++ (([.methodLink RX3 57 yX3_placeCount, .instanceMethod yX3_placeCount, .selects RX3 yX3_placeCount yX3_placeCount, .initialized RX3] : List Cond) ++ (vs_r_placeCount ++ (vs_g_Row ++ (wsX30 ++ (wsX50))))))
theorem vg_g_addRow : vs_g_addRow.all goodWord = true := by decide +kernel
theorem dd_g_addRow : yX3_addRow.cls = RX3 ∧ yX3_addRow.cls ≠ "java/lang/invoke/MethodHandle" ∧ yX3_addRow.cls ≠ "java/lang/invoke/VarHandle" ∧ (parseMethodDescriptor yX3_addRow.desc).map (fun d => d.parameters.length) = some 4 := by decide +kernel
def rm_g_addRow : Room := { frames := 2, cells := 1, slots := 5, locals := 51 }
theorem gd_g_addRow_57_r_placeCount : GoodIn vs_g_addRow (wsV RX3 57 RX3 yX3_placeCount vs_r_placeCount) := goodIn_app (goodIn_sub (fun w h => (List.mem_cons_of_mem _ (List.mem_append_right _ (List.mem_append_left _ h)))) (by decide +kernel)) (goodIn_sub (fun w h => (List.mem_cons_of_mem _ (List.mem_append_right _ (List.mem_append_right _ (List.mem_append_left _ h))))) vg_r_placeCount)
theorem gd_g_addRow_61_g_Row : GoodIn vs_g_addRow (vs_g_Row) := (goodIn_sub (fun w h => (List.mem_cons_of_mem _ (List.mem_append_right _ (List.mem_append_right _ (List.mem_append_right _ (List.mem_append_left _ h)))))) vg_g_Row)
set_option maxHeartbeats 4000000 in
set_option maxRecDepth 100000 in
theorem g_addRow (l : Launch) (dC : Nat → ClassId) (dI : Nat → Nat → Nat) (adK adV : Nat → Nat) (κ : CE) (sz : Nat) (σ : MS) (x : Int64) (y : Int32) (z : Int32) (v : Int32) (hk : PInv κ) (hI : RInv σ) (hy0 : 1 ≤ y.toInt ∧ y.toInt ≤ 6) : Met l yX3_addRow vs_g_addRow rm_g_addRow (va_Pc [.ref (kA κ 3), .long x, .int y, .int z, .int v] (wSr dC dI adK adV (rW κ σ) (rT κ) sz)) (va_Qv (fun (u : CE × MS) => PInv u.1 ∧ RInv u.2 ∧ kA u.1 = kA κ ∧ kC u.1 = kC κ ∧ True) (fun (u : CE × MS) => wEn dC dI (va_A (rW κ σ) sz) (rW u.1 u.2) []) (va_A (rW κ σ) sz)) 1 5 (va_A (rW κ σ) sz) := by
  refine Met.ofW (cc := cX3_addRow) (maxL := 6) (ret := none) (by decide +kernel) rfl ?_
  intro p e s m args below meth c s₁ B hml hv
  obtain ⟨rfl, ⟨hsz, hP, hK, hD0, hE⟩, hZ, hR⟩ := hv
  have hx := B.exec
  have hb := B.bytes
  have hr := B.returns
  have hts := atoms_spec (ws := vs_g_addRow) B.pre
  have hown : s.vm.findClass RX3 = some m.cls := findClass_of_methodNamed B.named
  have hlocks := B.notSynchronized
  subst hsz
  have hD := hD0.self (sz := s.heap.size)
  generalize hAe : va_A (rW κ σ) s.heap.size = A at hD hZ ⊢
  have hA : ∀ q : Nat, s.heap.size ≤ q → A q := fun q h => by rw [← hAe]; exact Or.inr h
  have hl := lv_entry ([.ref (kA κ 3), .long x, .int y, .int z, .int v]) (n := 6) (Nat.le_of_ble_eq_true rfl)
  rw [lg_entry_eq]
  generalize (lg_sl ([.ref (kA κ 3), .long x, .int y, .int z, .int v]) ++ List.replicate (6 - (lg_sl ([.ref (kA κ 3), .long x, .int y, .int z, .int v])).length) Slot.unset).toArray = ls at hl ⊢
  have hl : lv_has ls 6 [(0, .ref (kA κ 3)), (1, .long x), (3, .int y), (4, .int z), (5, .int v)] := hl
  have ho := fun w (h : w ∈ ow_g_addRow) => hts w (List.mem_cons_of_mem _ (List.mem_append_left _ h))
  have hin3 : ∀ w ∈ u_ws RX3 TX3 8, w ∈ vs_g_addRow := fun w h => (List.mem_cons_of_mem _ (List.mem_append_right _ (List.mem_append_right _ (List.mem_append_right _ (List.mem_append_right _ (List.mem_append_left _ h))))))
  have hin5 : ∀ w ∈ u_ws RX5 TX5 5, w ∈ vs_g_addRow := fun w h => (List.mem_cons_of_mem _ (List.mem_append_right _ (List.mem_append_right _ (List.mem_append_right _ (List.mem_append_right _ (List.mem_append_right _ h))))))
  refine zQ (fun Q hQ => ?_)
  refine zH (A := A) (ws := (rW κ σ)) (fun H hP hS => ?_) hP
  have hk0 := hk.1
  have hk1 := hk.2.1
  have hk2 := hk.2.2.1
  refine lv_aload_n hx hb dX3_addRow_0 rfl (lv_at hl 0 rfl) ?_
  refine va_get (D := (dC, dI)) (ci := 3) (v := .int (pI κ 0)) (C := RX3) (T := TX3) (N := 8) hx hb hts hin3 hown hK hP 3 rfl rfl 5 (Nat.le_of_ble_eq_true rfl) (ho (.fieldLink RX3 33 "NearEnough$Program" "rowCount" "I") (List.mem_of_getElem? (i := 0) rfl)) (fun _ h9 => h9) rfl dX3_addRow_1 ?_
  refine lv_iconst (v := 2) hx hb dX3_addRow_4 rg_19 ?_
  refine lv_icmp_ge (tgt := 44) hx hb dX3_addRow_5 rfl (fun c1_ => ?_) (fun c1_ => ?_)
  · have tc1_ := (show 2 ≤ (pI κ 0).toInt from ti_le rg_20 rfl c1_)
    refine W.widen (k := 1) (n := 5) (Nat.le_of_ble_eq_true rfl) (Nat.le_of_ble_eq_true rfl) ?_
    rw [hQ]
    exact W.vret hx hb hr (fun t ht hW => ⟨⟨(κ, σ), rfl, ⟨hk, hI, rfl, rfl, trivial⟩, wEn_of hP (hK.sub [] rfl) hD ht hW⟩, hS.F ht⟩) hS.2.2 dX3_addRow_44
  · have tc1_ := (show (pI κ 0).toInt < 2 from ti_nle rg_20 rfl c1_)
    refine lv_aload_n hx hb dX3_addRow_8 rfl (lv_at hl 0 rfl) ?_
    refine va_get (D := (dC, dI)) (ci := 3) (v := .ref (kA κ 4)) (C := RX3) (T := TX3) (N := 8) hx hb hts hin3 hown hK hP 3 rfl rfl 0 (Nat.le_of_ble_eq_true rfl) (ho (.fieldLink RX3 11 "NearEnough$Program" "rows" "[LNearEnough$Row;") (List.mem_of_getElem? (i := 1) rfl)) (fun _ h9 => h9) rfl dX3_addRow_9 ?_
    refine lv_aload_n hx hb dX3_addRow_12 rfl (lv_at hl 0 rfl) ?_
    refine va_get (D := (dC, dI)) (ci := 3) (v := .int (pI κ 0)) (C := RX3) (T := TX3) (N := 8) hx hb hts hin3 hown hK hP 3 rfl rfl 5 (Nat.le_of_ble_eq_true rfl) (ho (.fieldLink RX3 33 "NearEnough$Program" "rowCount" "I") (List.mem_of_getElem? (i := 0) rfl)) (fun _ h9 => h9) rfl dX3_addRow_13 ?_
    refine va_new (ci := 5) (fs := [.long 0, .int 0, .int 0, .int 0, .int 0]) (C := RX5) (T := TX5) (N := 5) hx hb hts hin5 tyX5 tyX5_ok hown (ho (.classLink RX3 9 RX5) (List.mem_of_getElem? (i := 2) rfl)) (ho (.instantiable RX5 5) (List.mem_of_getElem? (i := 3) rfl)) (ho (.initialized RX5) (List.mem_of_getElem? (i := 4) rfl)) hK hP hD hS hA rfl (by decide) (Nat.le_of_ble_eq_true rfl) (Nat.le_of_ble_eq_true rfl) dX3_addRow_16 (fun q2_ H hP hD hS => ?_)
    have hq_ : q2_ ∉ kL κ := va_pl_fresh2 (X := rF κ σ) (L := kL κ) (f := kf κ) hD
    obtain ⟨T3_, eT3_⟩ : ∃ x9 : RT, x9 = ((fun _ => 0), 0) := ⟨_, rfl⟩
    have hP : va_P (dC, dI) vwCl (rW (kv (kp κ q2_) q2_ T3_) σ) H := by rw [eT3_]; exact (rW_push (κ := κ) (σ := σ) (e := .inr (5, rwV ((fun _ => 0), 0))) hq_) ▸ hP
    have hD : va_D A (rW (kv (kp κ q2_) q2_ T3_) σ) := by rw [eT3_]; exact (rW_push (κ := κ) (σ := σ) (e := .inr (5, rwV ((fun _ => 0), 0))) hq_) ▸ hD
    refine W.widen (k := 1) (n := 5) (Nat.le_of_ble_eq_true rfl) (Nat.le_of_ble_eq_true rfl) ?_
    refine lv_dup hx hb dX3_addRow_19 rfl ?_
    refine lv_lload_n hx hb dX3_addRow_20 rfl (lv_at hl 1 rfl) ?_
    refine lv_iload_n hx hb dX3_addRow_21 rfl (lv_at hl 2 rfl) ?_
    refine lv_iload hx hb dX3_addRow_22 (lv_at hl 3 rfl) ?_
    refine lv_iload hx hb dX3_addRow_24 (lv_at hl 4 rfl) ?_
    refine lv_aload_n hx hb dX3_addRow_26 rfl (lv_at hl 0 rfl) ?_
    refine zy_i (va_runV_9 (As := []) (rest := [.int v, .int z, .int y, .long x, .ref q2_, .ref q2_, .int (pI κ 0), .ref (kA κ 4)]) ⟨hx, hb, hml, hown, hts⟩ (r_placeCount l dC dI adK adV (kv (kp κ q2_) q2_ T3_) H.size σ  ((fun t => PInv.push hk hq_) T3_) hI ) (cwV 0 hts gd_g_addRow_57_r_placeCount rfl rfl rfl dd_r_placeCount ⟨Nat.le_of_ble_eq_true rfl, Nat.le_of_ble_eq_true rfl⟩) (Nat.le_of_ble_eq_true rfl) (preVr hP hK hD hE hZ hR hS hA (ci := 3) (q0 := 3) rfl rfl) rfl rfl hl.1 rfl (lv_room_9 (Nat.le_of_ble_eq_true rfl)) dX3_addRow_27 ⟨Nat.le_of_ble_eq_true rfl, Nat.le_of_ble_eq_true rfl⟩) hD hS hA (fun z4_ τ5_ H locs hq hP hD hS => ?_)
    obtain ⟨hτ5_, q6_⟩ := hq
    rw [hτ5_] at hP hD
    have q6_ : 0 ≤ z4_.toInt ∧ z4_.toInt ≤ 6 * (pI κ 0).toInt := q6_
    refine W.widen (k := 1) (n := 5) (Nat.le_of_ble_eq_true rfl) (Nat.le_of_ble_eq_true rfl) ?_
    refine zy_v (va_runI (As := [.long x, .int y, .int z, .int v, .int z4_]) (rest := [.ref q2_, .int (pI κ 0), .ref (kA κ 4)]) ⟨hx, hb, hml, hown, hts⟩ (g_Row l dC dI adK adV (kp κ q2_) H.size σ q2_ T3_ x y z v z4_ (List.mem_append_right (kL κ) (List.mem_singleton_self q2_)) (fun t => PInv.push hk hq_) hI ) (cwI 5 hts gd_g_addRow_61_g_Row rfl rfl rfl (ho (.initialized RX5) (List.mem_of_getElem? (i := 4) rfl)) (ho (.methodLink RX3 61 yX5_init) (List.mem_of_getElem? (i := 5) rfl)) (ho (.instanceMethod yX5_init) (List.mem_of_getElem? (i := 6) rfl)) rfl (by decide +kernel) ⟨Nat.le_of_ble_eq_true rfl, Nat.le_of_ble_eq_true rfl⟩) (preSr hP hK hD hE hZ hR hS hA) rfl rfl hl.1 rfl (lv_room (Nat.le_of_ble_eq_true rfl)) dX3_addRow_30 ⟨Nat.le_of_ble_eq_true rfl, Nat.le_of_ble_eq_true rfl⟩) hD hS hA (fun τ8_ H locs hq hP hD hS => ?_)
    obtain ⟨T10_, τ11_⟩ := τ8_
    obtain ⟨hτ11_, q9_⟩ := hq
    have hP : va_P (dC, dI) vwCl (rW (kv (kp κ q2_) q2_ T10_) τ11_) H := hP
    have hD : va_D A (rW (kv (kp κ q2_) q2_ T10_) τ11_) := hD
    have q9_ : T10_.1 0 = y ∧ T10_.1 3 = z4_ ∧ τ11_ = σ := q9_
    refine W.widen (k := 1) (n := 5) (Nat.le_of_ble_eq_true rfl) (Nat.le_of_ble_eq_true rfl) ?_
    have ra_ := congrArg Int32.toInt q9_.1
    have rb_ := congrArg Int32.toInt q9_.2.1
    obtain ⟨kn12_, hkn12_⟩ := rpl (κ := (kv (kp κ q2_) q2_ T10_)) (σ := τ11_) (a := q2_) (List.mem_append_right (kL κ) (List.mem_singleton_self q2_)) kf_self
    have o1 : 0 ≤ (pI κ 0).toInt := by omega
    have o2 : (pI κ 0).toInt < ((2 : Nat) : Int) := by omega
    refine va_astq hx hb hK hP hD hS 4 1 kn12_ 5 rfl rfl hkn12_ rfl (ti_inx o1 o2) dX3_addRow_33 (fun H locs hP hD hS => ?_)
    have hP : va_P (dC, dI) vwCl (rW (kQ (kv (kp κ q2_) q2_ T10_) 0 (va_up (pQ (kv (kp κ q2_) q2_ T10_) 0) (Int32.toNatClampNeg (pI κ 0)) (some q2_))) τ11_) H := hP
    have hD : va_D A (rW (kQ (kv (kp κ q2_) q2_ T10_) 0 (va_up (pQ (kv (kp κ q2_) q2_ T10_) 0) (Int32.toNatClampNeg (pI κ 0)) (some q2_))) τ11_) := hD
    refine lv_aload_n hx hb dX3_addRow_34 rfl (lv_at hl 0 rfl) ?_
    refine lv_dup hx hb dX3_addRow_35 rfl ?_
    refine va_get (D := (dC, dI)) (ci := 3) (v := .int (pI κ 0)) (C := RX3) (T := TX3) (N := 8) hx hb hts hin3 hown hK hP 3 rfl rfl 5 (Nat.le_of_ble_eq_true rfl) (ho (.fieldLink RX3 33 "NearEnough$Program" "rowCount" "I") (List.mem_of_getElem? (i := 0) rfl)) (fun _ h9 => h9) rfl dX3_addRow_36 ?_
    refine lv_iconst (v := 1) hx hb dX3_addRow_39 rg_6 ?_
    refine lv_iadd hx hb dX3_addRow_40 ?_
    refine lv_topi (fun z13_ ez13_ => ?_)
    have o3 : -2147483648 ≤ (pI κ 0).toInt + 1 := by omega
    have o4 : (pI κ 0).toInt + 1 ≤ 2147483647 := by omega
    have tz13_ : z13_.toInt = (pI κ 0).toInt + 1 := ti_add ez13_ rfl rg_18 o3 o4
    refine va_put (D := (dC, dI)) (ci := 3) (v := .int z13_) (ty := tyX3 5) (C := RX3) (T := TX3) (N := 8) hx hb hts hin3 tyX3 tyX3_ok nmX3 hown hK hP hD hS 3 rfl rfl 5 (Nat.le_of_ble_eq_true rfl) (ho (.fieldLink RX3 33 "NearEnough$Program" "rowCount" "I") (List.mem_of_getElem? (i := 0) rfl)) (fun _ h9 => h9) rfl (tyX3_ok 5 (Nat.le_of_ble_eq_true rfl)) rfl rfl (Nat.le_of_ble_eq_true rfl) dX3_addRow_41 (fun H locs hP hD hS => ?_)
    have hP : va_P (dC, dI) vwCl (rW (kI (kQ (kv (kp κ q2_) q2_ T10_) 0 (va_up (pQ (kv (kp κ q2_) q2_ T10_) 0) (Int32.toNatClampNeg (pI κ 0)) (some q2_))) 0 z13_) τ11_) H := hP
    have hD : va_D A (rW (kI (kQ (kv (kp κ q2_) q2_ T10_) 0 (va_up (pQ (kv (kp κ q2_) q2_ T10_) 0) (Int32.toNatClampNeg (pI κ 0)) (some q2_))) 0 z13_) τ11_) := hD
    have o5 : 1 ≤ (T10_.1 0).toInt := by omega
    have o6 : (T10_.1 0).toInt ≤ 6 := by omega
    have o7 : 0 ≤ (T10_.1 3).toInt := by omega
    have o8 : (T10_.1 3).toInt + (T10_.1 0).toInt ≤ 12 := by omega
    have o9 : (pI κ 0).toInt < 2 := by omega
    refine W.widen (k := 1) (n := 5) (Nat.le_of_ble_eq_true rfl) (Nat.le_of_ble_eq_true rfl) ?_
    rw [hQ]
    exact W.vret hx hb hr (fun t ht hW => ⟨⟨((kI (kQ (kv (kp κ q2_) q2_ T10_) 0 (va_up (pQ (kv (kp κ q2_) q2_ T10_) 0) (Int32.toNatClampNeg (pI κ 0)) (some q2_))) 0 z13_), τ11_), rfl, ⟨(PInv.addR (κ := (kv (kp κ q2_) q2_ T10_)) (PInv.push hk hq_) ⟨(List.mem_append_right (kL κ) (List.mem_singleton_self q2_)), kf_self, (show 1 ≤ (T10_.1 0).toInt ∧ (T10_.1 0).toInt ≤ 6 ∧ 0 ≤ (T10_.1 3).toInt ∧ (T10_.1 3).toInt + (T10_.1 0).toInt ≤ 12 from ⟨o5, o6, o7, o8⟩)⟩ tz13_ o9), hτ11_, rfl, rfl, trivial⟩, wEn_of hP (hK.sub [] rfl) hD ht hW⟩, hS.F ht⟩) hS.2.2 dX3_addRow_44

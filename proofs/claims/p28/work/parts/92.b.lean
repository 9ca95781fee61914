theorem dX11_madeFront_7 : decode cX11_madeFront 7 = .ok (.aload_n 0, 1) := by decide +kernel
theorem dX11_madeFront_8 : decode cX11_madeFront 8 = .ok (.new 127, 3) := by decide +kernel
theorem dX11_madeFront_11 : decode cX11_madeFront 11 = .ok (.dup, 1) := by decide +kernel
theorem dX11_madeFront_12 : decode cX11_madeFront 12 = .ok (.aload_n 0, 1) := by decide +kernel
theorem dX11_madeFront_13 : decode cX11_madeFront 13 = .ok (.getfield 26, 3) := by decide +kernel
theorem dX11_madeFront_16 : decode cX11_madeFront 16 = .ok (.aload_n 0, 1) := by decide +kernel
theorem dX11_madeFront_17 : decode cX11_madeFront 17 = .ok (.getfield 40, 3) := by decide +kernel
theorem dX11_madeFront_20 : decode cX11_madeFront 20 = .ok (.aload_n 0, 1) := by decide +kernel
theorem dX11_madeFront_21 : decode cX11_madeFront 21 = .ok (.getfield 49, 3) := by decide +kernel
theorem dX11_madeFront_24 : decode cX11_madeFront 24 = .ok (.invokespecial 326, 3) := by decide +kernel
theorem dX11_madeFront_27 : decode cX11_madeFront 27 = .ok (.putfield 82, 3) := by decide +kernel
theorem dX11_madePlan_7 : decode cX11_madePlan 7 = .ok (.aload_n 0, 1) := by decide +kernel
theorem dX11_madePlan_8 : decode cX11_madePlan 8 = .ok (.new 132, 3) := by decide +kernel
theorem dX11_madePlan_11 : decode cX11_madePlan 11 = .ok (.dup, 1) := by decide +kernel
theorem dX11_madePlan_12 : decode cX11_madePlan 12 = .ok (.aload_n 0, 1) := by decide +kernel
theorem dX11_madePlan_13 : decode cX11_madePlan 13 = .ok (.getfield 26, 3) := by decide +kernel
theorem dX11_madePlan_16 : decode cX11_madePlan 16 = .ok (.aload_n 0, 1) := by decide +kernel
theorem dX11_madePlan_17 : decode cX11_madePlan 17 = .ok (.getfield 33, 3) := by decide +kernel
theorem dX11_madePlan_20 : decode cX11_madePlan 20 = .ok (.aload_n 0, 1) := by decide +kernel
theorem dX11_madePlan_21 : decode cX11_madePlan 21 = .ok (.getfield 40, 3) := by decide +kernel
theorem dX11_madePlan_24 : decode cX11_madePlan 24 = .ok (.aload_n 0, 1) := by decide +kernel
theorem dX11_madePlan_25 : decode cX11_madePlan 25 = .ok (.getfield 49, 3) := by decide +kernel
theorem dX11_madePlan_28 : decode cX11_madePlan 28 = .ok (.aload_n 0, 1) := by decide +kernel
theorem dX11_madePlan_29 : decode cX11_madePlan 29 = .ok (.getfield 58, 3) := by decide +kernel
theorem dX11_madePlan_32 : decode cX11_madePlan 32 = .ok (.invokespecial 354, 3) := by decide +kernel
theorem dX11_madePlan_35 : decode cX11_madePlan 35 = .ok (.putfield 86, 3) := by decide +kernel

def ow_t_madeF : List Cond := [.fieldLink RX11 82 "NearEnough" "edge" "LNearEnough$Front;", .classLink RX11 127 RX1, .instantiable RX1 7, .initialized RX1, .fieldLink RX11 26 "NearEnough" "told" "LNearEnough$Program;", .fieldLink RX11 40 "NearEnough" "changes" "LNearEnough$Changes;", .fieldLink RX11 49 "NearEnough" "shown" "LNearEnough$Shown;", .methodLink RX11 326 yX1_init, .instanceMethod yX1_init]
def vs_t_madeF : List Cond := .code yX11_madeFront cX11_madeFront 1 (some (.object "NearEnough$Front")) :: (ow_t_madeF ++ (vs_c_iFront ++ (wsX10 ++ (wsX110))))
theorem vg_t_madeF : vs_t_madeF.all goodWord = true := by decide +kernel
theorem dd_t_madeF : yX11_madeFront.cls = RX11 ∧ yX11_madeFront.cls ≠ "java/lang/invoke/MethodHandle" ∧ yX11_madeFront.cls ≠ "java/lang/invoke/VarHandle" ∧ (parseMethodDescriptor yX11_madeFront.desc).map (fun d => d.parameters.length) = some 0 := by decide +kernel
def rm_t_madeF : Room := { frames := 2, cells := 3, slots := 8199, locals := 47 }
theorem gd_t_madeF_326_c_iFront : GoodIn vs_t_madeF (vs_c_iFront) := (goodIn_sub (fun w h => (List.mem_cons_of_mem _ (List.mem_append_right _ (List.mem_append_left _ h)))) vg_c_iFront)
set_option maxHeartbeats 4000000 in
set_option maxRecDepth 100000 in
theorem t_madeF (l : Launch) (dC : Nat → ClassId) (dI : Nat → Nat → Nat) (κ : CE) (sz : Nat) (φ ψ σ : MS) (hk : PInv κ) (hI : CInv σ) (hF : FInv φ) (he : kE κ = none) : Met l yX11_madeFront vs_t_madeF rm_t_madeF (va_Pc [.ref (kA κ 0)] (wSy dC dI (xW κ (xX κ φ ψ) σ) (tT κ) sz)) (va_Qq (fun (r : Option Nat) (u : CE × MS × MS × MS) => PInv u.1 ∧ CInv u.2.2.2 ∧ FInv u.2.1 ∧ kA u.1 0 = kA κ 0 ∧ (r = kE u.1 ∧ kP u.1 = kP κ ∧ pI u.1 = pI κ ∧ ∃ a9, kE u.1 = some a9)) (fun (u : CE × MS × MS × MS) => wEn dC dI (va_A (xW κ (xX κ φ ψ) σ) sz) (xW u.1 (xX u.1 u.2.1 u.2.2.1) u.2.2.2) (tT u.1)) (va_A (xW κ (xX κ φ ψ) σ) sz)) 3 8199 (va_A (xW κ (xX κ φ ψ) σ) sz) := by
  refine Met.ofW (cc := cX11_madeFront) (maxL := 1) (ret := (some (.object "NearEnough$Front"))) (by decide +kernel) rfl ?_
  intro p e s m args below meth c s₁ B hml hv
  obtain ⟨rfl, hsz, hP, hK, hD0, hE⟩ := hv
  have hx := B.exec
  have hb := B.bytes
  have hr := B.returns
  have hts := atoms_spec (ws := vs_t_madeF) B.pre
  have hown : s.vm.findClass RX11 = some m.cls := findClass_of_methodNamed B.named
  have hlocks := B.notSynchronized
  subst hsz
  have hD := hD0.self (sz := s.heap.size)
  generalize hAe : va_A (xW κ (xX κ φ ψ) σ) s.heap.size = A at hD ⊢
  have hA : ∀ q : Nat, s.heap.size ≤ q → A q := fun q h => by rw [← hAe]; exact Or.inr h
  have hl := lv_entry ([.ref (kA κ 0)]) (n := 1) (Nat.le_of_ble_eq_true rfl)
  rw [lg_entry_eq]
  generalize (lg_sl ([.ref (kA κ 0)]) ++ List.replicate (1 - (lg_sl ([.ref (kA κ 0)])).length) Slot.unset).toArray = ls at hl ⊢
  have hl : lv_has ls 1 [(0, .ref (kA κ 0))] := hl
  have ho := fun w (h : w ∈ ow_t_madeF) => hts w (List.mem_cons_of_mem _ (List.mem_append_left _ h))
  have hin1 : ∀ w ∈ u_ws RX1 TX1 7, w ∈ vs_t_madeF := fun w h => (List.mem_cons_of_mem _ (List.mem_append_right _ (List.mem_append_right _ (List.mem_append_left _ h))))
  have hin11 : ∀ w ∈ u_ws RX11 TX11 17, w ∈ vs_t_madeF := fun w h => (List.mem_cons_of_mem _ (List.mem_append_right _ (List.mem_append_right _ (List.mem_append_right _ h))))
  refine zQ (fun Q hQ => ?_)
  refine zH (A := A) (ws := (xW κ (xX κ φ ψ) σ)) (fun H hP hS => ?_) hP
  have hk0 := hk.1
  have hk1 := hk.2.1
  have hk2 := hk.2.2.1
  have hKc : va_K (dC, dI) vwCl (cT κ) s := hK.sub [0, 1, 2, 3, 4, 5, 6, 7, 8, 9, 10, 11, 12, 13, 14, 15, 16, 17, 18, 19, 20] rfl
  refine lv_aload_n hx hb dX11_madeFront_0 rfl (lv_at hl 0 rfl) ?_
  refine va_get (D := (dC, dI)) (ci := 11) (v := va_rf (kE κ)) (C := RX11) (T := TX11) (N := 17) hx hb hts hin11 hown hK hP 0 rfl rfl 15 (Nat.le_of_ble_eq_true rfl) (ho (.fieldLink RX11 82 "NearEnough" "edge" "LNearEnough$Front;") (List.mem_of_getElem? (i := 0) rfl)) (fun _ h9 => h9) rfl dX11_madeFront_1 ?_
  refine zv (v := .null) (by rw [he]; rfl) ?_
  refine lv_ifnonnullN hx hb dX11_madeFront_4 ?_
  refine lv_aload_n hx hb dX11_madeFront_7 rfl (lv_at hl 0 rfl) ?_
  refine va_new (ci := 1) (fs := [.null, .null, .null, .int 0, .null, .null, .int 0]) (C := RX1) (T := TX1) (N := 7) hx hb hts hin1 tyX1 tyX1_ok hown (ho (.classLink RX11 127 RX1) (List.mem_of_getElem? (i := 1) rfl)) (ho (.instantiable RX1 7) (List.mem_of_getElem? (i := 2) rfl)) (ho (.initialized RX1) (List.mem_of_getElem? (i := 3) rfl)) hK hP hD hS hA rfl (by decide) (Nat.le_of_ble_eq_true rfl) (Nat.le_of_ble_eq_true rfl) dX11_madeFront_8 (fun q1_ H hP hD hS => ?_)
  refine W.widen (k := 1) (n := 7) (Nat.le_of_ble_eq_true rfl) (Nat.le_of_ble_eq_true rfl) ?_
  refine lv_dup hx hb dX11_madeFront_11 rfl ?_
  refine lv_aload_n hx hb dX11_madeFront_12 rfl (lv_at hl 0 rfl) ?_
  refine va_get (D := (dC, dI)) (ci := 11) (v := .ref (kA κ 6)) (C := RX11) (T := TX11) (N := 17) hx hb hts hin11 hown hK hP 0 rfl rfl 4 (Nat.le_of_ble_eq_true rfl) (ho (.fieldLink RX11 26 "NearEnough" "told" "LNearEnough$Program;") (List.mem_of_getElem? (i := 4) rfl)) (fun _ h9 => h9) rfl dX11_madeFront_13 ?_
  refine lv_aload_n hx hb dX11_madeFront_16 rfl (lv_at hl 0 rfl) ?_
  refine va_get (D := (dC, dI)) (ci := 11) (v := .ref (kA κ 15)) (C := RX11) (T := TX11) (N := 17) hx hb hts hin11 hown hK hP 0 rfl rfl 6 (Nat.le_of_ble_eq_true rfl) (ho (.fieldLink RX11 40 "NearEnough" "changes" "LNearEnough$Changes;") (List.mem_of_getElem? (i := 5) rfl)) (fun _ h9 => h9) rfl dX11_madeFront_17 ?_
  refine lv_aload_n hx hb dX11_madeFront_20 rfl (lv_at hl 0 rfl) ?_
  refine va_get (D := (dC, dI)) (ci := 11) (v := .ref (kA κ 21)) (C := RX11) (T := TX11) (N := 17) hx hb hts hin11 hown hK hP 0 rfl rfl 7 (Nat.le_of_ble_eq_true rfl) (ho (.fieldLink RX11 49 "NearEnough" "shown" "LNearEnough$Shown;") (List.mem_of_getElem? (i := 6) rfl)) (fun _ h9 => h9) rfl dX11_madeFront_21 ?_
  refine zc_v (wr := (xW κ (xX κ φ ψ) σ)) (wc := [(q1_, .inr (1, [.null, .null, .null, .int 0, .null, .null, .int 0]))]) (va_runI (As := [.ref (kA κ 6), .ref (kA κ 15), .ref (kA κ 21)]) (rest := [.ref q1_, .ref (kA κ 0)]) ⟨hx, hb, hml, hown, hts⟩ (c_iFront l dC dI q1_ (kA κ 6) (kA κ 15) (kA κ 21) H.size) (cwI 3 hts gd_t_madeF_326_c_iFront rfl rfl rfl (ho (.initialized RX1) (List.mem_of_getElem? (i := 3) rfl)) (ho (.methodLink RX11 326 yX1_init) (List.mem_of_getElem? (i := 7) rfl)) (ho (.instanceMethod yX1_init) (List.mem_of_getElem? (i := 8) rfl)) rfl (by decide +kernel) ⟨Nat.le_of_ble_eq_true rfl, Nat.le_of_ble_eq_true rfl⟩) (preS (A := A) (pmP hP (fun z h => List.mem_append_right _ h)) (hK.sub (tys' := []) [] rfl) (pmD (r := (xW κ (xX κ φ ψ) σ)) hD List.perm_append_comm) hE.x) rfl rfl hl.1 rfl (lv_room (Nat.le_of_ble_eq_true rfl)) dX11_madeFront_24 ⟨Nat.le_of_ble_eq_true rfl, Nat.le_of_ble_eq_true rfl⟩) hP hD hS hA (fun u9 H locs hq hK1 hP hD hS => ?_)
  obtain ⟨o2_, o3_, k4_, k5_⟩ := u9
  refine W.widen (k := 3) (n := 8199) (Nat.le_of_ble_eq_true rfl) (Nat.le_of_ble_eq_true rfl) ?_
  refine va_put (D := (dC, dI)) (ci := 11) (v := .ref q1_) (ty := tyX11 15) (C := RX11) (T := TX11) (N := 17) hx hb hts hin11 tyX11 tyX11_ok nmX11 hown hK hP hD hS 0 rfl rfl 15 (Nat.le_of_ble_eq_true rfl) (ho (.fieldLink RX11 82 "NearEnough" "edge" "LNearEnough$Front;") (List.mem_of_getElem? (i := 0) rfl)) (fun _ h9 => h9) rfl (tyX11_ok 15 (Nat.le_of_ble_eq_true rfl)) rfl rfl (Nat.le_of_ble_eq_true rfl) dX11_madeFront_27 (fun H locs hP hD hS => ?_)
  have hP : va_P (dC, dI) vwCl (xW (kF κ q1_ o2_ o3_ k4_ k5_) (xX (kF κ q1_ o2_ o3_ k4_ k5_) f0_ ψ) σ) H := mkFP he hP
  have hD : va_D A (xW (kF κ q1_ o2_ o3_ k4_ k5_) (xX (kF κ q1_ o2_ o3_ k4_ k5_) f0_ ψ) σ) := mkFD he hD
  have hK : va_K (dC, dI) vwCl (tT (kF κ q1_ o2_ o3_ k4_ k5_)) s := (hK.app hK1).sub [0, 1, 2, 3, 4, 5, 6, 7, 8, 9, 10, 11, 12, 13, 14, 15, 16, 17, 18, 19, 20, 25, 26, 23, 24] rfl
  refine lv_aload_n hx hb dX11_madeFront_30 rfl (lv_at hl 0 rfl) ?_
  refine va_get (D := (dC, dI)) (ci := 11) (v := va_rf (kE (kF κ q1_ o2_ o3_ k4_ k5_))) (C := RX11) (T := TX11) (N := 17) hx hb hts hin11 hown hK hP 0 rfl rfl 15 (Nat.le_of_ble_eq_true rfl) (ho (.fieldLink RX11 82 "NearEnough" "edge" "LNearEnough$Front;") (List.mem_of_getElem? (i := 0) rfl)) (fun _ h9 => h9) rfl dX11_madeFront_31 ?_
  refine zv (v := .ref q1_) (by rw [(rfl : kE (kF κ q1_ o2_ o3_ k4_ k5_) = some q1_)]; rfl) ?_
  refine W.widen (k := 3) (n := 8199) (Nat.le_of_ble_eq_true rfl) (Nat.le_of_ble_eq_true rfl) ?_
  rw [hQ]
  exact W.aret (v := .ref q1_) hx hb hr (Or.inl ⟨_, rfl⟩) (Or.inr ⟨_, rfl⟩) (fun t ht hW => ⟨⟨(some q1_), ((kF κ q1_ o2_ o3_ k4_ k5_), f0_, ψ, σ), rfl, ⟨hk, hI, FInv0, rfl, ⟨rfl, rfl, rfl, ⟨_, rfl⟩⟩⟩, wEn_of hP hK hD ht hW⟩, hS.F ht⟩) hS.2.2 dX11_madeFront_34
def ow_t_madeP : List Cond := [.fieldLink RX11 86 "NearEnough" "planner" "LNearEnough$Plan;", .classLink RX11 132 RX2, .instantiable RX2 8, .initialized RX2, .fieldLink RX11 26 "NearEnough" "told" "LNearEnough$Program;", .fieldLink RX11 33 "NearEnough" "sheets" "LNearEnough$Sheets;", .fieldLink RX11 40 "NearEnough" "changes" "LNearEnough$Changes;", .fieldLink RX11 49 "NearEnough" "shown" "LNearEnough$Shown;", .fieldLink RX11 58 "NearEnough" "worker" "LNearEnough$Worker;", .methodLink RX11 354 yX2_init, .instanceMethod yX2_init]
def vs_t_madeP : List Cond := .code yX11_madePlan cX11_madePlan 1 (some (.object "NearEnough$Plan")) :: (ow_t_madeP ++ (vs_c_iPlan ++ (wsX20 ++ (wsX110))))
theorem vg_t_madeP : vs_t_madeP.all goodWord = true := by decide +kernel
theorem dd_t_madeP : yX11_madePlan.cls = RX11 ∧ yX11_madePlan.cls ≠ "java/lang/invoke/MethodHandle" ∧ yX11_madePlan.cls ≠ "java/lang/invoke/VarHandle" ∧ (parseMethodDescriptor yX11_madePlan.desc).map (fun d => d.parameters.length) = some 0 := by decide +kernel
def rm_t_madeP : Room := { frames := 2, cells := 3, slots := 32489, locals := 49 }
theorem gd_t_madeP_354_c_iPlan : GoodIn vs_t_madeP (vs_c_iPlan) := (goodIn_sub (fun w h => (List.mem_cons_of_mem _ (List.mem_append_right _ (List.mem_append_left _ h)))) vg_c_iPlan)
set_option maxHeartbeats 4000000 in
set_option maxRecDepth 100000 in
theorem t_madeP (l : Launch) (dC : Nat → ClassId) (dI : Nat → Nat → Nat) (κ : CE) (sz : Nat) (φ ψ σ : MS) (hk : PInv κ) (hI : CInv σ) (hF : FInv φ) (he : kP κ = none) : Met l yX11_madePlan vs_t_madeP rm_t_madeP (va_Pc [.ref (kA κ 0)] (wSy dC dI (xW κ (xX κ φ ψ) σ) (tT κ) sz)) (va_Qq (fun (r : Option Nat) (u : CE × MS × MS × MS) => PInv u.1 ∧ CInv u.2.2.2 ∧ FInv u.2.1 ∧ kA u.1 0 = kA κ 0 ∧ (r = kP u.1 ∧ kE u.1 = kE κ ∧ pI u.1 = pI κ ∧ ∃ a9, kP u.1 = some a9)) (fun (u : CE × MS × MS × MS) => wEn dC dI (va_A (xW κ (xX κ φ ψ) σ) sz) (xW u.1 (xX u.1 u.2.1 u.2.2.1) u.2.2.2) (tT u.1)) (va_A (xW κ (xX κ φ ψ) σ) sz)) 3 32489 (va_A (xW κ (xX κ φ ψ) σ) sz) := by
  refine Met.ofW (cc := cX11_madePlan) (maxL := 1) (ret := (some (.object "NearEnough$Plan"))) (by decide +kernel) rfl ?_
  intro p e s m args below meth c s₁ B hml hv
  obtain ⟨rfl, hsz, hP, hK, hD0, hE⟩ := hv
  have hx := B.exec
  have hb := B.bytes
  have hr := B.returns
  have hts := atoms_spec (ws := vs_t_madeP) B.pre
  have hown : s.vm.findClass RX11 = some m.cls := findClass_of_methodNamed B.named
  have hlocks := B.notSynchronized
  subst hsz
  have hD := hD0.self (sz := s.heap.size)
  generalize hAe : va_A (xW κ (xX κ φ ψ) σ) s.heap.size = A at hD ⊢
  have hA : ∀ q : Nat, s.heap.size ≤ q → A q := fun q h => by rw [← hAe]; exact Or.inr h
  have hl := lv_entry ([.ref (kA κ 0)]) (n := 1) (Nat.le_of_ble_eq_true rfl)
  rw [lg_entry_eq]
  generalize (lg_sl ([.ref (kA κ 0)]) ++ List.replicate (1 - (lg_sl ([.ref (kA κ 0)])).length) Slot.unset).toArray = ls at hl ⊢
  have hl : lv_has ls 1 [(0, .ref (kA κ 0))] := hl
  have ho := fun w (h : w ∈ ow_t_madeP) => hts w (List.mem_cons_of_mem _ (List.mem_append_left _ h))
  have hin2 : ∀ w ∈ u_ws RX2 TX2 8, w ∈ vs_t_madeP := fun w h => (List.mem_cons_of_mem _ (List.mem_append_right _ (List.mem_append_right _ (List.mem_append_left _ h))))
  have hin11 : ∀ w ∈ u_ws RX11 TX11 17, w ∈ vs_t_madeP := fun w h => (List.mem_cons_of_mem _ (List.mem_append_right _ (List.mem_append_right _ (List.mem_append_right _ h))))
  refine zQ (fun Q hQ => ?_)
  refine zH (A := A) (ws := (xW κ (xX κ φ ψ) σ)) (fun H hP hS => ?_) hP
  have hk0 := hk.1
  have hk1 := hk.2.1
  have hk2 := hk.2.2.1
  have hKc : va_K (dC, dI) vwCl (cT κ) s := hK.sub [0, 1, 2, 3, 4, 5, 6, 7, 8, 9, 10, 11, 12, 13, 14, 15, 16, 17, 18, 19, 20] rfl
  refine lv_aload_n hx hb dX11_madePlan_0 rfl (lv_at hl 0 rfl) ?_
  refine va_get (D := (dC, dI)) (ci := 11) (v := va_rf (kP κ)) (C := RX11) (T := TX11) (N := 17) hx hb hts hin11 hown hK hP 0 rfl rfl 16 (Nat.le_of_ble_eq_true rfl) (ho (.fieldLink RX11 86 "NearEnough" "planner" "LNearEnough$Plan;") (List.mem_of_getElem? (i := 0) rfl)) (fun _ h9 => h9) rfl dX11_madePlan_1 ?_
  refine zv (v := .null) (by rw [he]; rfl) ?_
  refine lv_ifnonnullN hx hb dX11_madePlan_4 ?_
  refine lv_aload_n hx hb dX11_madePlan_7 rfl (lv_at hl 0 rfl) ?_
  refine va_new (ci := 2) (fs := [.null, .null, .null, .null, .null, .int 0, .null, .null]) (C := RX2) (T := TX2) (N := 8) hx hb hts hin2 tyX2 tyX2_ok hown (ho (.classLink RX11 132 RX2) (List.mem_of_getElem? (i := 1) rfl)) (ho (.instantiable RX2 8) (List.mem_of_getElem? (i := 2) rfl)) (ho (.initialized RX2) (List.mem_of_getElem? (i := 3) rfl)) hK hP hD hS hA rfl (by decide) (Nat.le_of_ble_eq_true rfl) (Nat.le_of_ble_eq_true rfl) dX11_madePlan_8 (fun q1_ H hP hD hS => ?_)
  refine W.widen (k := 1) (n := 8) (Nat.le_of_ble_eq_true rfl) (Nat.le_of_ble_eq_true rfl) ?_
  refine lv_dup hx hb dX11_madePlan_11 rfl ?_
  refine lv_aload_n hx hb dX11_madePlan_12 rfl (lv_at hl 0 rfl) ?_
  refine va_get (D := (dC, dI)) (ci := 11) (v := .ref (kA κ 6)) (C := RX11) (T := TX11) (N := 17) hx hb hts hin11 hown hK hP 0 rfl rfl 4 (Nat.le_of_ble_eq_true rfl) (ho (.fieldLink RX11 26 "NearEnough" "told" "LNearEnough$Program;") (List.mem_of_getElem? (i := 4) rfl)) (fun _ h9 => h9) rfl dX11_madePlan_13 ?_
  refine lv_aload_n hx hb dX11_madePlan_16 rfl (lv_at hl 0 rfl) ?_
  refine va_get (D := (dC, dI)) (ci := 11) (v := .ref (kA κ 12)) (C := RX11) (T := TX11) (N := 17) hx hb hts hin11 hown hK hP 0 rfl rfl 5 (Nat.le_of_ble_eq_true rfl) (ho (.fieldLink RX11 33 "NearEnough" "sheets" "LNearEnough$Sheets;") (List.mem_of_getElem? (i := 5) rfl)) (fun _ h9 => h9) rfl dX11_madePlan_17 ?_
  refine lv_aload_n hx hb dX11_madePlan_20 rfl (lv_at hl 0 rfl) ?_
  refine va_get (D := (dC, dI)) (ci := 11) (v := .ref (kA κ 15)) (C := RX11) (T := TX11) (N := 17) hx hb hts hin11 hown hK hP 0 rfl rfl 6 (Nat.le_of_ble_eq_true rfl) (ho (.fieldLink RX11 40 "NearEnough" "changes" "LNearEnough$Changes;") (List.mem_of_getElem? (i := 6) rfl)) (fun _ h9 => h9) rfl dX11_madePlan_21 ?_
  refine lv_aload_n hx hb dX11_madePlan_24 rfl (lv_at hl 0 rfl) ?_
  refine va_get (D := (dC, dI)) (ci := 11) (v := .ref (kA κ 21)) (C := RX11) (T := TX11) (N := 17) hx hb hts hin11 hown hK hP 0 rfl rfl 7 (Nat.le_of_ble_eq_true rfl) (ho (.fieldLink RX11 49 "NearEnough" "shown" "LNearEnough$Shown;") (List.mem_of_getElem? (i := 7) rfl)) (fun _ h9 => h9) rfl dX11_madePlan_25 ?_
  refine lv_aload_n hx hb dX11_madePlan_28 rfl (lv_at hl 0 rfl) ?_
  refine va_get (D := (dC, dI)) (ci := 11) (v := .ref (kA κ 24)) (C := RX11) (T := TX11) (N := 17) hx hb hts hin11 hown hK hP 0 rfl rfl 8 (Nat.le_of_ble_eq_true rfl) (ho (.fieldLink RX11 58 "NearEnough" "worker" "LNearEnough$Worker;") (List.mem_of_getElem? (i := 8) rfl)) (fun _ h9 => h9) rfl dX11_madePlan_29 ?_
  refine zc_v (wr := (xW κ (xX κ φ ψ) σ)) (wc := [(q1_, .inr (2, [.null, .null, .null, .null, .null, .int 0, .null, .null]))]) (va_runI (As := [.ref (kA κ 6), .ref (kA κ 12), .ref (kA κ 15), .ref (kA κ 21), .ref (kA κ 24)]) (rest := [.ref q1_, .ref (kA κ 0)]) ⟨hx, hb, hml, hown, hts⟩ (c_iPlan l dC dI q1_ (kA κ 6) (kA κ 12) (kA κ 15) (kA κ 21) (kA κ 24) H.size) (cwI 5 hts gd_t_madeP_354_c_iPlan rfl rfl rfl (ho (.initialized RX2) (List.mem_of_getElem? (i := 3) rfl)) (ho (.methodLink RX11 354 yX2_init) (List.mem_of_getElem? (i := 9) rfl)) (ho (.instanceMethod yX2_init) (List.mem_of_getElem? (i := 10) rfl)) rfl (by decide +kernel) ⟨Nat.le_of_ble_eq_true rfl, Nat.le_of_ble_eq_true rfl⟩) (preS (A := A) (pmP hP (fun z h => List.mem_append_right _ h)) (hK.sub (tys' := []) [] rfl) (pmD (r := (xW κ (xX κ φ ψ) σ)) hD List.perm_append_comm) hE.x) rfl rfl hl.1 rfl (lv_room (Nat.le_of_ble_eq_true rfl)) dX11_madePlan_32 ⟨Nat.le_of_ble_eq_true rfl, Nat.le_of_ble_eq_true rfl⟩) hP hD hS hA (fun u9 H locs hq hK1 hP hD hS => ?_)
  obtain ⟨o2_, o3_, k4_, k5_⟩ := u9
  refine W.widen (k := 3) (n := 32489) (Nat.le_of_ble_eq_true rfl) (Nat.le_of_ble_eq_true rfl) ?_
  refine va_put (D := (dC, dI)) (ci := 11) (v := .ref q1_) (ty := tyX11 16) (C := RX11) (T := TX11) (N := 17) hx hb hts hin11 tyX11 tyX11_ok nmX11 hown hK hP hD hS 0 rfl rfl 16 (Nat.le_of_ble_eq_true rfl) (ho (.fieldLink RX11 86 "NearEnough" "planner" "LNearEnough$Plan;") (List.mem_of_getElem? (i := 0) rfl)) (fun _ h9 => h9) rfl (tyX11_ok 16 (Nat.le_of_ble_eq_true rfl)) rfl rfl (Nat.le_of_ble_eq_true rfl) dX11_madePlan_35 (fun H locs hP hD hS => ?_)
  have hP : va_P (dC, dI) vwCl (xW (kG κ q1_ o2_ o3_ k4_ k5_) (xX (kG κ q1_ o2_ o3_ k4_ k5_) φ f0_) σ) H := mkGP he hP
  have hD : va_D A (xW (kG κ q1_ o2_ o3_ k4_ k5_) (xX (kG κ q1_ o2_ o3_ k4_ k5_) φ f0_) σ) := mkGD he hD
  have hK : va_K (dC, dI) vwCl (tT (kG κ q1_ o2_ o3_ k4_ k5_)) s := (hK.app hK1).sub [0, 1, 2, 3, 4, 5, 6, 7, 8, 9, 10, 11, 12, 13, 14, 15, 16, 17, 18, 19, 20, 21, 22, 25, 26] rfl
  refine lv_aload_n hx hb dX11_madePlan_38 rfl (lv_at hl 0 rfl) ?_
  refine va_get (D := (dC, dI)) (ci := 11) (v := va_rf (kP (kG κ q1_ o2_ o3_ k4_ k5_))) (C := RX11) (T := TX11) (N := 17) hx hb hts hin11 hown hK hP 0 rfl rfl 16 (Nat.le_of_ble_eq_true rfl) (ho (.fieldLink RX11 86 "NearEnough" "planner" "LNearEnough$Plan;") (List.mem_of_getElem? (i := 0) rfl)) (fun _ h9 => h9) rfl dX11_madePlan_39 ?_
  refine zv (v := .ref q1_) (by rw [(rfl : kP (kG κ q1_ o2_ o3_ k4_ k5_) = some q1_)]; rfl) ?_
  refine W.widen (k := 3) (n := 32489) (Nat.le_of_ble_eq_true rfl) (Nat.le_of_ble_eq_true rfl) ?_
  rw [hQ]
  exact W.aret (v := .ref q1_) hx hb hr (Or.inl ⟨_, rfl⟩) (Or.inr ⟨_, rfl⟩) (fun t ht hW => ⟨⟨(some q1_), ((kG κ q1_ o2_ o3_ k4_ k5_), φ, f0_, σ), rfl, ⟨hk, hI, hF, rfl, ⟨rfl, rfl, rfl, ⟨_, rfl⟩⟩⟩, wEn_of hP hK hD ht hW⟩, hS.F ht⟩) hS.2.2 dX11_madePlan_42
def ow_t_front : List Cond := [.fieldLink RX11 26 "NearEnough" "told" "LNearEnough$Program;", .fieldLink RX11 336 "NearEnough$Front" "count" "I"]
def vs_t_front : List Cond := .code yX11_front cX11_front 3 (some .int) :: (ow_t_front ++ (([.methodLink RX11 227 yX3_hasEnd, .instanceMethod yX3_hasEnd, .selects RX3 yX3_hasEnd yX3_hasEnd, .initialized RX3] : List Cond) ++ (vs_k_hasEnd ++ (([.methodLink RX11 329 yX11_madeFront, .instanceMethod yX11_madeFront, .selects RX11 yX11_madeFront yX11_madeFront, .initialized RX11] : List Cond) ++ (vs_t_madeF ++ (([.methodLink RX11 333 yX1_gather, .instanceMethod yX1_gather, .selects RX1 yX1_gather yX1_gather, .initialized RX1] : List Cond) ++ (vs_f_gather ++ (wsX10 ++ (wsX110)))))))))
theorem vg_t_front : vs_t_front.all goodWord = true := by decide +kernel
theorem dd_t_front : yX11_front.cls = RX11 ∧ yX11_front.cls ≠ "java/lang/invoke/MethodHandle" ∧ yX11_front.cls ≠ "java/lang/invoke/VarHandle" ∧ (parseMethodDescriptor yX11_front.desc).map (fun d => d.parameters.length) = some 1 := by decide +kernel
def rm_t_front : Room := { frames := 7, cells := 3, slots := 8199, locals := 167 }
theorem gd_t_front_227_k_hasEnd : GoodIn vs_t_front (wsV RX11 227 RX3 yX3_hasEnd vs_k_hasEnd) := goodIn_app (goodIn_sub (fun w h => (List.mem_cons_of_mem _ (List.mem_append_right _ (List.mem_append_left _ h)))) (by decide +kernel)) (goodIn_sub (fun w h => (List.mem_cons_of_mem _ (List.mem_append_right _ (List.mem_append_right _ (List.mem_append_left _ h))))) vg_k_hasEnd)
theorem gd_t_front_329_t_madeF : GoodIn vs_t_front (wsV RX11 329 RX11 yX11_madeFront vs_t_madeF) := goodIn_app (goodIn_sub (fun w h => (List.mem_cons_of_mem _ (List.mem_append_right _ (List.mem_append_right _ (List.mem_append_right _ (List.mem_append_left _ h)))))) (by decide +kernel)) (goodIn_sub (fun w h => (List.mem_cons_of_mem _ (List.mem_append_right _ (List.mem_append_right _ (List.mem_append_right _ (List.mem_append_right _ (List.mem_append_left _ h))))))) vg_t_madeF)
theorem gd_t_front_333_f_gather : GoodIn vs_t_front (wsV RX11 333 RX1 yX1_gather vs_f_gather) := goodIn_app (goodIn_sub (fun w h => (List.mem_cons_of_mem _ (List.mem_append_right _ (List.mem_append_right _ (List.mem_append_right _ (List.mem_append_right _ (List.mem_append_right _ (List.mem_append_left _ h)))))))) (by decide +kernel)) (goodIn_sub (fun w h => (List.mem_cons_of_mem _ (List.mem_append_right _ (List.mem_append_right _ (List.mem_append_right _ (List.mem_append_right _ (List.mem_append_right _ (List.mem_append_right _ (List.mem_append_left _ h))))))))) vg_f_gather)
set_option maxHeartbeats 4000000 in
set_option maxRecDepth 100000 in
theorem t_front (l : Launch) (dC : Nat → ClassId) (dI : Nat → Nat → Nat) (κ : CE) (sz : Nat) (φ ψ σ : MS) (x : Int32) (hk : PInv κ) (hI : CInv σ) (hF : FInv φ) (he : kE κ = none) : Met l yX11_front vs_t_front rm_t_front (va_Pc [.ref (kA κ 0), .int x] (wSy dC dI (xW κ (xX κ φ ψ) σ) (tT κ) sz)) (va_Qi (fun (r : Int32) (u : CE × MS × MS × MS) => PInv u.1 ∧ CInv u.2.2.2 ∧ FInv u.2.1 ∧ kA u.1 0 = kA κ 0 ∧ (kP u.1 = kP κ)) (fun (u : CE × MS × MS × MS) => wEn dC dI (va_A (xW κ (xX κ φ ψ) σ) sz) (xW u.1 (xX u.1 u.2.1 u.2.2.1) u.2.2.2) (tT u.1)) (va_A (xW κ (xX κ φ ψ) σ) sz)) 3 8199 (va_A (xW κ (xX κ φ ψ) σ) sz) := by
  refine Met.ofW (cc := cX11_front) (maxL := 3) (ret := (some .int)) (by decide +kernel) rfl ?_
  intro p e s m args below meth c s₁ B hml hv
  obtain ⟨rfl, hsz, hP, hK, hD0, hE⟩ := hv
  have hx := B.exec
  have hb := B.bytes
  have hr := B.returns
  have hts := atoms_spec (ws := vs_t_front) B.pre
  have hown : s.vm.findClass RX11 = some m.cls := findClass_of_methodNamed B.named
  have hlocks := B.notSynchronized
  subst hsz
  have hD := hD0.self (sz := s.heap.size)
  generalize hAe : va_A (xW κ (xX κ φ ψ) σ) s.heap.size = A at hD ⊢
  have hA : ∀ q : Nat, s.heap.size ≤ q → A q := fun q h => by rw [← hAe]; exact Or.inr h
  have hl := lv_entry ([.ref (kA κ 0), .int x]) (n := 3) (Nat.le_of_ble_eq_true rfl)
  rw [lg_entry_eq]
  generalize (lg_sl ([.ref (kA κ 0), .int x]) ++ List.replicate (3 - (lg_sl ([.ref (kA κ 0), .int x])).length) Slot.unset).toArray = ls at hl ⊢
  have hl : lv_has ls 3 [(0, .ref (kA κ 0)), (1, .int x)] := hl
  have ho := fun w (h : w ∈ ow_t_front) => hts w (List.mem_cons_of_mem _ (List.mem_append_left _ h))
  have hin1 : ∀ w ∈ u_ws RX1 TX1 7, w ∈ vs_t_front := fun w h => (List.mem_cons_of_mem _ (List.mem_append_right _ (List.mem_append_right _ (List.mem_append_right _ (List.mem_append_right _ (List.mem_append_right _ (List.mem_append_right _ (List.mem_append_right _ (List.mem_append_left _ h)))))))))
  have hin11 : ∀ w ∈ u_ws RX11 TX11 17, w ∈ vs_t_front := fun w h => (List.mem_cons_of_mem _ (List.mem_append_right _ (List.mem_append_right _ (List.mem_append_right _ (List.mem_append_right _ (List.mem_append_right _ (List.mem_append_right _ (List.mem_append_right _ (List.mem_append_right _ h)))))))))
  refine zQ (fun Q hQ => ?_)
  refine zH (A := A) (ws := (xW κ (xX κ φ ψ) σ)) (fun H hP hS => ?_) hP
  have hk0 := hk.1
  have hk1 := hk.2.1
  have hk2 := hk.2.2.1
  have hKc : va_K (dC, dI) vwCl (cT κ) s := hK.sub [0, 1, 2, 3, 4, 5, 6, 7, 8, 9, 10, 11, 12, 13, 14, 15, 16, 17, 18, 19, 20] rfl
  refine lv_aload_n hx hb dX11_front_0 rfl (lv_at hl 0 rfl) ?_
  refine va_get (D := (dC, dI)) (ci := 11) (v := .ref (kA κ 6)) (C := RX11) (T := TX11) (N := 17) hx hb hts hin11 hown hK hP 0 rfl rfl 4 (Nat.le_of_ble_eq_true rfl) (ho (.fieldLink RX11 26 "NearEnough" "told" "LNearEnough$Program;") (List.mem_of_getElem? (i := 0) rfl)) (fun _ h9 => h9) rfl dX11_front_1 ?_
  refine lv_iload_n hx hb dX11_front_4 rfl (lv_at hl 1 rfl) ?_
  refine zy_i (va_runV (As := [.int x]) (rest := []) ⟨hx, hb, hml, hown, hts⟩ (k_hasEnd l dC dI (ky κ (xX κ φ ψ)) H.size σ x hk hI ) (cwV 1 hts gd_t_front_227_k_hasEnd rfl rfl rfl dd_k_hasEnd ⟨Nat.le_of_ble_eq_true rfl, Nat.le_of_ble_eq_true rfl⟩) (preVy (xcP hP) hKc (xcD hD) hE (ci := 3) (q0 := 6) rfl rfl) rfl rfl hl.1 rfl (lv_room (Nat.le_of_ble_eq_true rfl)) dX11_front_5 ⟨Nat.le_of_ble_eq_true rfl, Nat.le_of_ble_eq_true rfl⟩) (xcD hD) hS hA (fun z1_ τ2_ H locs hq hP hD hS => ?_)
  obtain ⟨hτ2_, q3_⟩ := hq
  rw [hτ2_] at hP hD
  have hP : va_P (dC, dI) vwCl (xW κ (xX κ φ ψ) σ) H := cxP hP
  have hD : va_D A (xW κ (xX κ φ ψ) σ) := cxD hD
  have q3_ : (z1_.toInt = 1 ∧ 0 ≤ x.toInt ∧ x.toInt < (pI κ 2).toInt) ∨ z1_.toInt = 0 := q3_
  refine W.widen (k := 0) (n := 0) (Nat.le_of_ble_eq_true rfl) (Nat.le_of_ble_eq_true rfl) ?_
  refine lv_if_ne (tgt := 13) hx hb dX11_front_8 rfl (fun c4_ => ?_) (fun c4_ => ?_)
  · have tc4_ := (show z1_.toInt ≠ 0 from ti_ne rfl rg_11 c4_)
    refine lv_aload_n hx hb dX11_front_13 rfl (lv_at hl 0 rfl) ?_
    refine zk_q (va_runV (As := []) (rest := []) ⟨hx, hb, hml, hown, hts⟩ (t_madeF l dC dI κ H.size φ ψ σ  hk hI hF he) (cwV 0 hts gd_t_front_329_t_madeF rfl rfl rfl dd_t_madeF ⟨Nat.le_of_ble_eq_true rfl, Nat.le_of_ble_eq_true rfl⟩) (preVy hP hK hD hE (ci := 11) (q0 := 0) rfl rfl) rfl rfl hl.1 rfl (lv_room (Nat.le_of_ble_eq_true rfl)) dX11_front_14 ⟨Nat.le_of_ble_eq_true rfl, Nat.le_of_ble_eq_true rfl⟩) hD hS hA (fun z5_ τ6_ H locs hq hKn_ hP hD hS => ?_)
    obtain ⟨κ8_, φ9_, ψ10_, τ11_⟩ := τ6_
    obtain ⟨hkκ8_, hτ11_, hφ9_, haκ8_, q7_⟩ := hq
    have hP : va_P (dC, dI) vwCl (xW κ8_ (xX κ8_ φ9_ ψ10_) τ11_) H := hP
    have hD : va_D A (xW κ8_ (xX κ8_ φ9_ ψ10_) τ11_) := hD
    have hK : va_K (dC, dI) vwCl (tT κ8_) s := hKn_
    have hKc : va_K (dC, dI) vwCl (cT κ8_) s := hK.sub [0, 1, 2, 3, 4, 5, 6, 7, 8, 9, 10, 11, 12, 13, 14, 15, 16, 17, 18, 19, 20] rfl
    refine W.widen (k := 3) (n := 8199) (Nat.le_of_ble_eq_true rfl) (Nat.le_of_ble_eq_true rfl) ?_
    obtain ⟨e12_, e13_, e14_, e15_, e16_⟩ := q7_
    refine zv (v := .ref e15_) (by rw [e12_, e16_]; rfl) ?_
    have pp17_ : (pI κ8_ 0).toInt = (pI κ 0).toInt := by rw [e14_]
    have pp18_ : (pI κ8_ 1).toInt = (pI κ 1).toInt := by rw [e14_]
    have pp19_ : (pI κ8_ 2).toInt = (pI κ 2).toInt := by rw [e14_]
    have hk1h20_ := hkκ8_.2.1
    refine lv_astore_n (lv' := [(2, .ref e15_), (0, .ref (kA κ 0)), (1, .int x)]) hx hb dX11_front_17 rfl hl (Nat.le_of_ble_eq_true rfl) rfl (fun ls hl => ?_)
    refine lv_aload_n hx hb dX11_front_18 rfl (lv_at hl 0 rfl) ?_
    refine lv_iload_n hx hb dX11_front_19 rfl (lv_at hl 2 rfl) ?_
    have o1 : 0 ≤ x.toInt := by omega
    have o2 : x.toInt < (pI κ8_ 2).toInt := by omega
    refine zy_v (va_runV (As := [.int x]) (rest := []) ⟨hx, hb, hml, hown, hts⟩ (f_gather l dC dI κ8_ e15_ (pX κ8_ (kP κ8_) ψ10_) H.size φ9_ τ11_ x hkκ8_ hτ11_ hφ9_ ⟨o1, o2⟩) (cwV 1 hts gd_t_front_333_f_gather rfl rfl rfl dd_f_gather ⟨Nat.le_of_ble_eq_true rfl, Nat.le_of_ble_eq_true rfl⟩) (preVy ((vfP e16_).mp hP) hK ((vfD e16_).mp hD) hE (ci := 1) (q0 := 27) rfl rfl) rfl rfl hl.1 rfl (lv_room (Nat.le_of_ble_eq_true rfl)) dX11_front_20 ⟨Nat.le_of_ble_eq_true rfl, Nat.le_of_ble_eq_true rfl⟩) ((vfD e16_).mp hD) hS hA (fun τ22_ H locs hq hP hD hS => ?_)
    obtain ⟨φ24_, τ25_⟩ := τ22_
    obtain ⟨hτ25_, hφ24_, q23_⟩ := hq
    have hP : va_P (dC, dI) vwCl (xW κ8_ (xX κ8_ φ24_ ψ10_) τ25_) H := (vfP e16_).mpr hP
    have hD : va_D A (xW κ8_ (xX κ8_ φ24_ ψ10_) τ25_) := (vfD e16_).mpr hD
    refine W.widen (k := 3) (n := 8199) (Nat.le_of_ble_eq_true rfl) (Nat.le_of_ble_eq_true rfl) ?_
    refine lv_aload_n hx hb dX11_front_23 rfl (lv_at hl 0 rfl) ?_
    have bb26_ : 0 ≤ (φ24_.1 2).toInt ∧ (φ24_.1 2).toInt ≤ 4096 := hφ24_
    refine va_get (D := (dC, dI)) (ci := 1) (v := .int (φ24_.1 2)) (C := RX1) (T := TX1) (N := 7) hx hb hts hin1 hown hK ((vfP e16_).mp hP) 27 rfl rfl 6 (Nat.le_of_ble_eq_true rfl) (ho (.fieldLink RX11 336 "NearEnough$Front" "count" "I") (List.mem_of_getElem? (i := 1) rfl)) (fun _ h9 => h9) rfl dX11_front_24 ?_
    refine W.widen (k := 3) (n := 8199) (Nat.le_of_ble_eq_true rfl) (Nat.le_of_ble_eq_true rfl) ?_
    rw [hQ]
    exact W.iret (v := (φ24_.1 2)) hx hb hr (fun t ht hW => ⟨⟨(φ24_.1 2), (κ8_, φ24_, ψ10_, τ25_), rfl, ⟨hkκ8_, hτ25_, hφ24_, haκ8_, e13_⟩, wEn_of hP hK hD ht hW⟩, hS.F ht⟩) hS.2.2 dX11_front_27
  · have tc4_ := (show z1_.toInt = 0 from ti_eq rfl rg_11 c4_)
    refine lv_iconst (v := (-1)) hx hb dX11_front_11 rg_53 ?_
    refine W.widen (k := 3) (n := 8199) (Nat.le_of_ble_eq_true rfl) (Nat.le_of_ble_eq_true rfl) ?_
    have kk27_ : ((-1) : Int32).toInt = (-1) := rg_489
    rw [hQ]
    exact W.iret (v := (-1)) hx hb hr (fun t ht hW => ⟨⟨(-1), (κ, φ, ψ, σ), rfl, ⟨hk, hI, hF, rfl, rfl⟩, wEn_of hP hK hD ht hW⟩, hS.F ht⟩) hS.2.2 dX11_front_12
def ow_t_pair : List Cond := [.fieldLink RX11 26 "NearEnough" "told" "LNearEnough$Program;", .constantLong RX11 212 (-1), .fieldLink RX11 336 "NearEnough$Front" "count" "I", .fieldLink RX11 340 "NearEnough$Front" "saves" "[I", .fieldLink RX11 337 "NearEnough$Front" "offs" "[J"]
def vs_t_pair : List Cond := .code yX11_pair cX11_pair 5 (some .long) :: (ow_t_pair ++ (([.methodLink RX11 227 yX3_hasEnd, .instanceMethod yX3_hasEnd, .selects RX3 yX3_hasEnd yX3_hasEnd, .initialized RX3] : List Cond) ++ (vs_k_hasEnd ++ (([.methodLink RX11 329 yX11_madeFront, .instanceMethod yX11_madeFront, .selects RX11 yX11_madeFront yX11_madeFront, .initialized RX11] : List Cond) ++ (vs_t_madeF ++ (([.methodLink RX11 333 yX1_gather, .instanceMethod yX1_gather, .selects RX1 yX1_gather yX1_gather, .initialized RX1] : List Cond) ++ (vs_f_gather ++ (wsX10 ++ (wsX110)))))))))
theorem vg_t_pair : vs_t_pair.all goodWord = true := by decide +kernel
theorem dd_t_pair : yX11_pair.cls = RX11 ∧ yX11_pair.cls ≠ "java/lang/invoke/MethodHandle" ∧ yX11_pair.cls ≠ "java/lang/invoke/VarHandle" ∧ (parseMethodDescriptor yX11_pair.desc).map (fun d => d.parameters.length) = some 3 := by decide +kernel
def rm_t_pair : Room := { frames := 7, cells := 3, slots := 8199, locals := 167 }
theorem gd_t_pair_227_k_hasEnd : GoodIn vs_t_pair (wsV RX11 227 RX3 yX3_hasEnd vs_k_hasEnd) := goodIn_app (goodIn_sub (fun w h => (List.mem_cons_of_mem _ (List.mem_append_right _ (List.mem_append_left _ h)))) (by decide +kernel)) (goodIn_sub (fun w h => (List.mem_cons_of_mem _ (List.mem_append_right _ (List.mem_append_right _ (List.mem_append_left _ h))))) vg_k_hasEnd)
theorem gd_t_pair_329_t_madeF : GoodIn vs_t_pair (wsV RX11 329 RX11 yX11_madeFront vs_t_madeF) := goodIn_app (goodIn_sub (fun w h => (List.mem_cons_of_mem _ (List.mem_append_right _ (List.mem_append_right _ (List.mem_append_right _ (List.mem_append_left _ h)))))) (by decide +kernel)) (goodIn_sub (fun w h => (List.mem_cons_of_mem _ (List.mem_append_right _ (List.mem_append_right _ (List.mem_append_right _ (List.mem_append_right _ (List.mem_append_left _ h))))))) vg_t_madeF)
theorem gd_t_pair_333_f_gather : GoodIn vs_t_pair (wsV RX11 333 RX1 yX1_gather vs_f_gather) := goodIn_app (goodIn_sub (fun w h => (List.mem_cons_of_mem _ (List.mem_append_right _ (List.mem_append_right _ (List.mem_append_right _ (List.mem_append_right _ (List.mem_append_right _ (List.mem_append_left _ h)))))))) (by decide +kernel)) (goodIn_sub (fun w h => (List.mem_cons_of_mem _ (List.mem_append_right _ (List.mem_append_right _ (List.mem_append_right _ (List.mem_append_right _ (List.mem_append_right _ (List.mem_append_right _ (List.mem_append_left _ h))))))))) vg_f_gather)
set_option maxHeartbeats 4000000 in
set_option maxRecDepth 100000 in
theorem t_pair (l : Launch) (dC : Nat → ClassId) (dI : Nat → Nat → Nat) (κ : CE) (sz : Nat) (φ ψ σ : MS) (x : Int32) (y : Int32) (z : Int32) (hk : PInv κ) (hI : CInv σ) (hF : FInv φ) (he : kE κ = none) : Met l yX11_pair vs_t_pair rm_t_pair (va_Pc [.ref (kA κ 0), .int x, .int y, .int z] (wSy dC dI (xW κ (xX κ φ ψ) σ) (tT κ) sz)) (va_Ql (fun (r : Int64) (u : CE × MS × MS × MS) => PInv u.1 ∧ CInv u.2.2.2 ∧ FInv u.2.1 ∧ kA u.1 0 = kA κ 0 ∧ (kP u.1 = kP κ)) (fun (u : CE × MS × MS × MS) => wEn dC dI (va_A (xW κ (xX κ φ ψ) σ) sz) (xW u.1 (xX u.1 u.2.1 u.2.2.1) u.2.2.2) (tT u.1)) (va_A (xW κ (xX κ φ ψ) σ) sz)) 3 8199 (va_A (xW κ (xX κ φ ψ) σ) sz) := by
  refine Met.ofW (cc := cX11_pair) (maxL := 5) (ret := (some .long)) (by decide +kernel) rfl ?_
  intro p e s m args below meth c s₁ B hml hv
  obtain ⟨rfl, hsz, hP, hK, hD0, hE⟩ := hv
  have hx := B.exec
  have hb := B.bytes
  have hr := B.returns
  have hts := atoms_spec (ws := vs_t_pair) B.pre
  have hown : s.vm.findClass RX11 = some m.cls := findClass_of_methodNamed B.named
  have hlocks := B.notSynchronized
  subst hsz
  have hD := hD0.self (sz := s.heap.size)
  generalize hAe : va_A (xW κ (xX κ φ ψ) σ) s.heap.size = A at hD ⊢
  have hA : ∀ q : Nat, s.heap.size ≤ q → A q := fun q h => by rw [← hAe]; exact Or.inr h
  have hl := lv_entry ([.ref (kA κ 0), .int x, .int y, .int z]) (n := 5) (Nat.le_of_ble_eq_true rfl)
  rw [lg_entry_eq]
  generalize (lg_sl ([.ref (kA κ 0), .int x, .int y, .int z]) ++ List.replicate (5 - (lg_sl ([.ref (kA κ 0), .int x, .int y, .int z])).length) Slot.unset).toArray = ls at hl ⊢
  have hl : lv_has ls 5 [(0, .ref (kA κ 0)), (1, .int x), (2, .int y), (3, .int z)] := hl
  have ho := fun w (h : w ∈ ow_t_pair) => hts w (List.mem_cons_of_mem _ (List.mem_append_left _ h))
  have hin1 : ∀ w ∈ u_ws RX1 TX1 7, w ∈ vs_t_pair := fun w h => (List.mem_cons_of_mem _ (List.mem_append_right _ (List.mem_append_right _ (List.mem_append_right _ (List.mem_append_right _ (List.mem_append_right _ (List.mem_append_right _ (List.mem_append_right _ (List.mem_append_left _ h)))))))))
  have hin11 : ∀ w ∈ u_ws RX11 TX11 17, w ∈ vs_t_pair := fun w h => (List.mem_cons_of_mem _ (List.mem_append_right _ (List.mem_append_right _ (List.mem_append_right _ (List.mem_append_right _ (List.mem_append_right _ (List.mem_append_right _ (List.mem_append_right _ (List.mem_append_right _ h)))))))))
  refine zQ (fun Q hQ => ?_)
  refine zH (A := A) (ws := (xW κ (xX κ φ ψ) σ)) (fun H hP hS => ?_) hP
  have hk0 := hk.1
  have hk1 := hk.2.1
  have hk2 := hk.2.2.1
  have hKc : va_K (dC, dI) vwCl (cT κ) s := hK.sub [0, 1, 2, 3, 4, 5, 6, 7, 8, 9, 10, 11, 12, 13, 14, 15, 16, 17, 18, 19, 20] rfl
  refine lv_aload_n hx hb dX11_pair_0 rfl (lv_at hl 0 rfl) ?_
  refine va_get (D := (dC, dI)) (ci := 11) (v := .ref (kA κ 6)) (C := RX11) (T := TX11) (N := 17) hx hb hts hin11 hown hK hP 0 rfl rfl 4 (Nat.le_of_ble_eq_true rfl) (ho (.fieldLink RX11 26 "NearEnough" "told" "LNearEnough$Program;") (List.mem_of_getElem? (i := 0) rfl)) (fun _ h9 => h9) rfl dX11_pair_1 ?_
  refine lv_iload_n hx hb dX11_pair_4 rfl (lv_at hl 1 rfl) ?_
  refine zy_i (va_runV (As := [.int x]) (rest := []) ⟨hx, hb, hml, hown, hts⟩ (k_hasEnd l dC dI (ky κ (xX κ φ ψ)) H.size σ x hk hI ) (cwV 1 hts gd_t_pair_227_k_hasEnd rfl rfl rfl dd_k_hasEnd ⟨Nat.le_of_ble_eq_true rfl, Nat.le_of_ble_eq_true rfl⟩) (preVy (xcP hP) hKc (xcD hD) hE (ci := 3) (q0 := 6) rfl rfl) rfl rfl hl.1 rfl (lv_room (Nat.le_of_ble_eq_true rfl)) dX11_pair_5 ⟨Nat.le_of_ble_eq_true rfl, Nat.le_of_ble_eq_true rfl⟩) (xcD hD) hS hA (fun z1_ τ2_ H locs hq hP hD hS => ?_)
  obtain ⟨hτ2_, q3_⟩ := hq
  rw [hτ2_] at hP hD
  have hP : va_P (dC, dI) vwCl (xW κ (xX κ φ ψ) σ) H := cxP hP
  have hD : va_D A (xW κ (xX κ φ ψ) σ) := cxD hD
  have q3_ : (z1_.toInt = 1 ∧ 0 ≤ x.toInt ∧ x.toInt < (pI κ 2).toInt) ∨ z1_.toInt = 0 := q3_
  refine W.widen (k := 0) (n := 0) (Nat.le_of_ble_eq_true rfl) (Nat.le_of_ble_eq_true rfl) ?_
  refine lv_if_eq (tgt := 24) hx hb dX11_pair_8 rfl (fun c4_ => ?_) (fun c4_ => ?_)
  · have tc4_ := (show z1_.toInt = 0 from ti_eq rfl rg_11 c4_)
    refine lv_ldc2 (v := (-1)) hx hb hown (ho (.constantLong RX11 212 (-1)) (List.mem_of_getElem? (i := 1) rfl)) dX11_pair_24 ?_
    refine W.widen (k := 3) (n := 8199) (Nat.le_of_ble_eq_true rfl) (Nat.le_of_ble_eq_true rfl) ?_
    rw [hQ]
    exact W.lret (v := (-1)) hx hb hr (fun t ht hW => ⟨⟨(-1), (κ, φ, ψ, σ), rfl, ⟨hk, hI, hF, rfl, rfl⟩, wEn_of hP hK hD ht hW⟩, hS.F ht⟩) hS.2.2 dX11_pair_27
  · have tc4_ := (show z1_.toInt ≠ 0 from ti_ne rfl rg_11 c4_)
    refine lv_iload_n hx hb dX11_pair_11 rfl (lv_at hl 2 rfl) ?_
    refine lv_if_lt (tgt := 24) hx hb dX11_pair_12 rfl (fun c5_ => ?_) (fun c5_ => ?_)
    · have tc5_ := (show y.toInt < 0 from ti_lt rfl rg_11 c5_)
      refine lv_ldc2 (v := (-1)) hx hb hown (ho (.constantLong RX11 212 (-1)) (List.mem_of_getElem? (i := 1) rfl)) dX11_pair_24 ?_
      refine W.widen (k := 3) (n := 8199) (Nat.le_of_ble_eq_true rfl) (Nat.le_of_ble_eq_true rfl) ?_
      rw [hQ]
      exact W.lret (v := (-1)) hx hb hr (fun t ht hW => ⟨⟨(-1), (κ, φ, ψ, σ), rfl, ⟨hk, hI, hF, rfl, rfl⟩, wEn_of hP hK hD ht hW⟩, hS.F ht⟩) hS.2.2 dX11_pair_27
    · have tc5_ := (show 0 ≤ y.toInt from ti_nlt rfl rg_11 c5_)
      refine lv_iload_n hx hb dX11_pair_15 rfl (lv_at hl 3 rfl) ?_
      refine lv_if_lt (tgt := 24) hx hb dX11_pair_16 rfl (fun c6_ => ?_) (fun c6_ => ?_)
      · have tc6_ := (show z.toInt < 0 from ti_lt rfl rg_11 c6_)
        refine lv_ldc2 (v := (-1)) hx hb hown (ho (.constantLong RX11 212 (-1)) (List.mem_of_getElem? (i := 1) rfl)) dX11_pair_24 ?_
        refine W.widen (k := 3) (n := 8199) (Nat.le_of_ble_eq_true rfl) (Nat.le_of_ble_eq_true rfl) ?_
        rw [hQ]
        exact W.lret (v := (-1)) hx hb hr (fun t ht hW => ⟨⟨(-1), (κ, φ, ψ, σ), rfl, ⟨hk, hI, hF, rfl, rfl⟩, wEn_of hP hK hD ht hW⟩, hS.F ht⟩) hS.2.2 dX11_pair_27
      · have tc6_ := (show 0 ≤ z.toInt from ti_nlt rfl rg_11 c6_)
        refine lv_iload_n hx hb dX11_pair_19 rfl (lv_at hl 3 rfl) ?_
        refine lv_iconst (v := 1) hx hb dX11_pair_20 rg_6 ?_
        refine lv_icmp_le (tgt := 28) hx hb dX11_pair_21 rfl (fun c7_ => ?_) (fun c7_ => ?_)
        · have tc7_ := (show z.toInt ≤ 1 from ti_le rfl rg_18 c7_)
          refine lv_aload_n hx hb dX11_pair_28 rfl (lv_at hl 0 rfl) ?_
          refine zk_q (va_runV (As := []) (rest := []) ⟨hx, hb, hml, hown, hts⟩ (t_madeF l dC dI κ H.size φ ψ σ  hk hI hF he) (cwV 0 hts gd_t_pair_329_t_madeF rfl rfl rfl dd_t_madeF ⟨Nat.le_of_ble_eq_true rfl, Nat.le_of_ble_eq_true rfl⟩) (preVy hP hK hD hE (ci := 11) (q0 := 0) rfl rfl) rfl rfl hl.1 rfl (lv_room (Nat.le_of_ble_eq_true rfl)) dX11_pair_29 ⟨Nat.le_of_ble_eq_true rfl, Nat.le_of_ble_eq_true rfl⟩) hD hS hA (fun z8_ τ9_ H locs hq hKn_ hP hD hS => ?_)
          obtain ⟨κ11_, φ12_, ψ13_, τ14_⟩ := τ9_
          obtain ⟨hkκ11_, hτ14_, hφ12_, haκ11_, q10_⟩ := hq
          have hP : va_P (dC, dI) vwCl (xW κ11_ (xX κ11_ φ12_ ψ13_) τ14_) H := hP
          have hD : va_D A (xW κ11_ (xX κ11_ φ12_ ψ13_) τ14_) := hD
          have hK : va_K (dC, dI) vwCl (tT κ11_) s := hKn_
          have hKc : va_K (dC, dI) vwCl (cT κ11_) s := hK.sub [0, 1, 2, 3, 4, 5, 6, 7, 8, 9, 10, 11, 12, 13, 14, 15, 16, 17, 18, 19, 20] rfl
          refine W.widen (k := 3) (n := 8199) (Nat.le_of_ble_eq_true rfl) (Nat.le_of_ble_eq_true rfl) ?_
          obtain ⟨e15_, e16_, e17_, e18_, e19_⟩ := q10_
          refine zv (v := .ref e18_) (by rw [e15_, e19_]; rfl) ?_
          have pp20_ : (pI κ11_ 0).toInt = (pI κ 0).toInt := by rw [e17_]
          have pp21_ : (pI κ11_ 1).toInt = (pI κ 1).toInt := by rw [e17_]
          have pp22_ : (pI κ11_ 2).toInt = (pI κ 2).toInt := by rw [e17_]
          have hk1h23_ := hkκ11_.2.1
          refine lv_astore (lv' := [(4, .ref e18_), (0, .ref (kA κ 0)), (1, .int x), (2, .int y), (3, .int z)]) hx hb dX11_pair_32 hl (Nat.le_of_ble_eq_true rfl) rfl (fun ls hl => ?_)
          refine lv_aload hx hb dX11_pair_34 (lv_at hl 0 rfl) ?_
          refine lv_iload_n hx hb dX11_pair_36 rfl (lv_at hl 2 rfl) ?_
          have o1 : 0 ≤ x.toInt := by omega
          have o2 : x.toInt < (pI κ11_ 2).toInt := by omega
          refine zy_v (va_runV (As := [.int x]) (rest := []) ⟨hx, hb, hml, hown, hts⟩ (f_gather l dC dI κ11_ e18_ (pX κ11_ (kP κ11_) ψ13_) H.size φ12_ τ14_ x hkκ11_ hτ14_ hφ12_ ⟨o1, o2⟩) (cwV 1 hts gd_t_pair_333_f_gather rfl rfl rfl dd_f_gather ⟨Nat.le_of_ble_eq_true rfl, Nat.le_of_ble_eq_true rfl⟩) (preVy ((vfP e19_).mp hP) hK ((vfD e19_).mp hD) hE (ci := 1) (q0 := 27) rfl rfl) rfl rfl hl.1 rfl (lv_room (Nat.le_of_ble_eq_true rfl)) dX11_pair_37 ⟨Nat.le_of_ble_eq_true rfl, Nat.le_of_ble_eq_true rfl⟩) ((vfD e19_).mp hD) hS hA (fun τ25_ H locs hq hP hD hS => ?_)
          obtain ⟨φ27_, τ28_⟩ := τ25_
          obtain ⟨hτ28_, hφ27_, q26_⟩ := hq
          have hP : va_P (dC, dI) vwCl (xW κ11_ (xX κ11_ φ27_ ψ13_) τ28_) H := (vfP e19_).mpr hP
          have hD : va_D A (xW κ11_ (xX κ11_ φ27_ ψ13_) τ28_) := (vfD e19_).mpr hD
          refine W.widen (k := 3) (n := 8199) (Nat.le_of_ble_eq_true rfl) (Nat.le_of_ble_eq_true rfl) ?_
          refine lv_iload_n hx hb dX11_pair_40 rfl (lv_at hl 3 rfl) ?_
          refine lv_aload hx hb dX11_pair_41 (lv_at hl 0 rfl) ?_
          have bb29_ : 0 ≤ (φ27_.1 2).toInt ∧ (φ27_.1 2).toInt ≤ 4096 := hφ27_
          refine va_get (D := (dC, dI)) (ci := 1) (v := .int (φ27_.1 2)) (C := RX1) (T := TX1) (N := 7) hx hb hts hin1 hown hK ((vfP e19_).mp hP) 27 rfl rfl 6 (Nat.le_of_ble_eq_true rfl) (ho (.fieldLink RX11 336 "NearEnough$Front" "count" "I") (List.mem_of_getElem? (i := 2) rfl)) (fun _ h9 => h9) rfl dX11_pair_43 ?_
          refine lv_icmp_lt (tgt := 53) hx hb dX11_pair_46 rfl (fun c30_ => ?_) (fun c30_ => ?_)
          · have tc30_ := (show y.toInt < (φ27_.1 2).toInt from ti_lt rfl rfl c30_)
            refine lv_iload_n hx hb dX11_pair_53 rfl (lv_at hl 4 rfl) ?_
            refine lv_if_ne (tgt := 67) hx hb dX11_pair_54 rfl (fun c31_ => ?_) (fun c31_ => ?_)
            · have tc31_ := (show z.toInt ≠ 0 from ti_ne rfl rg_11 c31_)
              refine lv_aload hx hb dX11_pair_67 (lv_at hl 0 rfl) ?_
              refine va_get (D := (dC, dI)) (ci := 1) (v := .ref (kA κ11_ 28)) (C := RX1) (T := TX1) (N := 7) hx hb hts hin1 hown hK ((vfP e19_).mp hP) 27 rfl rfl 5 (Nat.le_of_ble_eq_true rfl) (ho (.fieldLink RX11 340 "NearEnough$Front" "saves" "[I") (List.mem_of_getElem? (i := 3) rfl)) (fun _ h9 => h9) rfl dX11_pair_69 ?_
              refine lv_iload_n hx hb dX11_pair_72 rfl (lv_at hl 3 rfl) ?_
              have o3 : 0 ≤ y.toInt := by omega
              have o4 : y.toInt < ((4096 : Nat) : Int) := by omega
              refine va_iald hx hb hK ((vfP e19_).mp hP) 29 22 rfl rfl (ti_inx o3 o4) dX11_pair_73 ?_
              refine lv_topi (fun z32_ ez32_ => ?_)
              refine lv_i2l hx hb dX11_pair_74 rfl ?_
              refine lv_topl (fun y33_ ey33_ => ?_)
              refine W.widen (k := 3) (n := 8199) (Nat.le_of_ble_eq_true rfl) (Nat.le_of_ble_eq_true rfl) ?_
              rw [hQ]
              exact W.lret (v := y33_) hx hb hr (fun t ht hW => ⟨⟨y33_, (κ11_, φ27_, ψ13_, τ28_), rfl, ⟨hkκ11_, hτ28_, hφ27_, haκ11_, e16_⟩, wEn_of hP hK hD ht hW⟩, hS.F ht⟩) hS.2.2 dX11_pair_75
            · have tc31_ := (show z.toInt = 0 from ti_eq rfl rg_11 c31_)
              refine lv_aload hx hb dX11_pair_57 (lv_at hl 0 rfl) ?_
              refine va_get (D := (dC, dI)) (ci := 1) (v := .ref (kA κ11_ 27)) (C := RX1) (T := TX1) (N := 7) hx hb hts hin1 hown hK ((vfP e19_).mp hP) 27 rfl rfl 4 (Nat.le_of_ble_eq_true rfl) (ho (.fieldLink RX11 337 "NearEnough$Front" "offs" "[J") (List.mem_of_getElem? (i := 4) rfl)) (fun _ h9 => h9) rfl dX11_pair_59 ?_
              refine lv_iload_n hx hb dX11_pair_62 rfl (lv_at hl 3 rfl) ?_
              have o5 : 0 ≤ y.toInt := by omega
              have o6 : y.toInt < ((4096 : Nat) : Int) := by omega
              refine va_lald hx hb hK ((vfP e19_).mp hP) 28 21 rfl rfl (ti_inx o5 o6) dX11_pair_63 ?_
              refine lv_topl (fun y34_ ey34_ => ?_)
              refine lv_goto (tgt := 75) hx hb dX11_pair_64 rfl ?_
              refine W.widen (k := 3) (n := 8199) (Nat.le_of_ble_eq_true rfl) (Nat.le_of_ble_eq_true rfl) ?_
              rw [hQ]
              exact W.lret (v := y34_) hx hb hr (fun t ht hW => ⟨⟨y34_, (κ11_, φ27_, ψ13_, τ28_), rfl, ⟨hkκ11_, hτ28_, hφ27_, haκ11_, e16_⟩, wEn_of hP hK hD ht hW⟩, hS.F ht⟩) hS.2.2 dX11_pair_75
          · have tc30_ := (show (φ27_.1 2).toInt ≤ y.toInt from ti_nlt rfl rfl c30_)
            refine lv_ldc2 (v := (-1)) hx hb hown (ho (.constantLong RX11 212 (-1)) (List.mem_of_getElem? (i := 1) rfl)) dX11_pair_49 ?_
            refine W.widen (k := 3) (n := 8199) (Nat.le_of_ble_eq_true rfl) (Nat.le_of_ble_eq_true rfl) ?_
            rw [hQ]
            exact W.lret (v := (-1)) hx hb hr (fun t ht hW => ⟨⟨(-1), (κ11_, φ27_, ψ13_, τ28_), rfl, ⟨hkκ11_, hτ28_, hφ27_, haκ11_, e16_⟩, wEn_of hP hK hD ht hW⟩, hS.F ht⟩) hS.2.2 dX11_pair_52
        · have tc7_ := (show 1 < z.toInt from ti_nle rfl rg_18 c7_)
          refine lv_ldc2 (v := (-1)) hx hb hown (ho (.constantLong RX11 212 (-1)) (List.mem_of_getElem? (i := 1) rfl)) dX11_pair_24 ?_
          refine W.widen (k := 3) (n := 8199) (Nat.le_of_ble_eq_true rfl) (Nat.le_of_ble_eq_true rfl) ?_
          rw [hQ]
          exact W.lret (v := (-1)) hx hb hr (fun t ht hW => ⟨⟨(-1), (κ, φ, ψ, σ), rfl, ⟨hk, hI, hF, rfl, rfl⟩, wEn_of hP hK hD ht hW⟩, hS.F ht⟩) hS.2.2 dX11_pair_27
def ow_k_canPlanN : List Cond := [.fieldLink RX11 26 "NearEnough" "told" "LNearEnough$Program;"]
def vs_k_canPlanN : List Cond := .code yX11_canPlan cX11_canPlan 3 (some .boolean) :: (ow_k_canPlanN ++ (([.methodLink RX11 227 yX3_hasEnd, .instanceMethod yX3_hasEnd, .selects RX3 yX3_hasEnd yX3_hasEnd, .initialized RX3] : List Cond) ++ (vs_k_hasEnd ++ (wsX110))))
theorem vg_k_canPlanN : vs_k_canPlanN.all goodWord = true := by decide +kernel
theorem dd_k_canPlanN : yX11_canPlan.cls = RX11 ∧ yX11_canPlan.cls ≠ "java/lang/invoke/MethodHandle" ∧ yX11_canPlan.cls ≠ "java/lang/invoke/VarHandle" ∧ (parseMethodDescriptor yX11_canPlan.desc).map (fun d => d.parameters.length) = some 2 := by decide +kernel
def rm_k_canPlanN : Room := { frames := 1, cells := 0, slots := 0, locals := 21 }
theorem gd_k_canPlanN_227_k_hasEnd : GoodIn vs_k_canPlanN (wsV RX11 227 RX3 yX3_hasEnd vs_k_hasEnd) := goodIn_app (goodIn_sub (fun w h => (List.mem_cons_of_mem _ (List.mem_append_right _ (List.mem_append_left _ h)))) (by decide +kernel)) (goodIn_sub (fun w h => (List.mem_cons_of_mem _ (List.mem_append_right _ (List.mem_append_right _ (List.mem_append_left _ h))))) vg_k_hasEnd)
set_option maxHeartbeats 4000000 in
set_option maxRecDepth 100000 in
theorem k_canPlanN (l : Launch) (dC : Nat → ClassId) (dI : Nat → Nat → Nat) (κ : CE) (sz : Nat) (σ : MS) (x : Int32) (y : Int32) (hk : PInv κ) (hI : CInv σ) (hn : ¬ (0 ≤ x.toInt ∧ x.toInt < (pI κ 2).toInt ∧ 0 ≤ y.toInt ∧ y.toInt ≤ 400)) : Met l yX11_canPlan vs_k_canPlanN rm_k_canPlanN (va_Pc [.ref (kA κ 0), .int x, .int y] (wSy dC dI (cW κ σ) (cT κ) sz)) (va_Qi (fun (r : Int32) (τ : MS) => τ = σ ∧ (r.toInt = 0)) (fun (τ : MS) => wEn dC dI (va_A (cW κ σ) sz) (cW κ τ) []) (va_A (cW κ σ) sz)) 0 0 (va_A (cW κ σ) sz) := by
  refine Met.ofW (cc := cX11_canPlan) (maxL := 3) (ret := (some .boolean)) (by decide +kernel) rfl ?_
  intro p e s m args below meth c s₁ B hml hv
  obtain ⟨rfl, hsz, hP, hK, hD0, hE⟩ := hv
  have hx := B.exec
  have hb := B.bytes
  have hr := B.returns
  have hts := atoms_spec (ws := vs_k_canPlanN) B.pre
  have hown : s.vm.findClass RX11 = some m.cls := findClass_of_methodNamed B.named
  have hlocks := B.notSynchronized
  subst hsz
  have hD := hD0.self (sz := s.heap.size)
  generalize hAe : va_A (cW κ σ) s.heap.size = A at hD ⊢
  have hA : ∀ q : Nat, s.heap.size ≤ q → A q := fun q h => by rw [← hAe]; exact Or.inr h
  have hl := lv_entry ([.ref (kA κ 0), .int x, .int y]) (n := 3) (Nat.le_of_ble_eq_true rfl)
  rw [lg_entry_eq]
  generalize (lg_sl ([.ref (kA κ 0), .int x, .int y]) ++ List.replicate (3 - (lg_sl ([.ref (kA κ 0), .int x, .int y])).length) Slot.unset).toArray = ls at hl ⊢
  have hl : lv_has ls 3 [(0, .ref (kA κ 0)), (1, .int x), (2, .int y)] := hl
  have ho := fun w (h : w ∈ ow_k_canPlanN) => hts w (List.mem_cons_of_mem _ (List.mem_append_left _ h))
  have hin11 : ∀ w ∈ u_ws RX11 TX11 17, w ∈ vs_k_canPlanN := fun w h => (List.mem_cons_of_mem _ (List.mem_append_right _ (List.mem_append_right _ (List.mem_append_right _ h))))
  refine zQ (fun Q hQ => ?_)
  refine zH (A := A) (ws := (cW κ σ)) (fun H hP hS => ?_) hP
  have hk0 := hk.1
  have hk1 := hk.2.1
  have hk2 := hk.2.2.1
  refine lv_aload_n hx hb dX11_canPlan_0 rfl (lv_at hl 0 rfl) ?_
  refine va_get (D := (dC, dI)) (ci := 11) (v := .ref (kA κ 6)) (C := RX11) (T := TX11) (N := 17) hx hb hts hin11 hown hK hP 0 rfl rfl 4 (Nat.le_of_ble_eq_true rfl) (ho (.fieldLink RX11 26 "NearEnough" "told" "LNearEnough$Program;") (List.mem_of_getElem? (i := 0) rfl)) (fun _ h9 => h9) rfl dX11_canPlan_1 ?_
  refine lv_iload_n hx hb dX11_canPlan_4 rfl (lv_at hl 1 rfl) ?_
  refine zy_i (va_runV (As := [.int x]) (rest := []) ⟨hx, hb, hml, hown, hts⟩ (k_hasEnd l dC dI κ H.size σ x hk hI ) (cwV 1 hts gd_k_canPlanN_227_k_hasEnd rfl rfl rfl dd_k_hasEnd ⟨Nat.le_of_ble_eq_true rfl, Nat.le_of_ble_eq_true rfl⟩) (preVy hP hK hD hE (ci := 3) (q0 := 6) rfl rfl) rfl rfl hl.1 rfl (lv_room (Nat.le_of_ble_eq_true rfl)) dX11_canPlan_5 ⟨Nat.le_of_ble_eq_true rfl, Nat.le_of_ble_eq_true rfl⟩) hD hS hA (fun z1_ τ2_ H locs hq hP hD hS => ?_)
  obtain ⟨hτ2_, q3_⟩ := hq
  rw [hτ2_] at hP hD
  have q3_ : (z1_.toInt = 1 ∧ 0 ≤ x.toInt ∧ x.toInt < (pI κ 2).toInt) ∨ z1_.toInt = 0 := q3_
  refine W.widen (k := 0) (n := 0) (Nat.le_of_ble_eq_true rfl) (Nat.le_of_ble_eq_true rfl) ?_
  refine lv_if_eq (tgt := 26) hx hb dX11_canPlan_8 rfl (fun c4_ => ?_) (fun c4_ => ?_)
  · have tc4_ := (show z1_.toInt = 0 from ti_eq rfl rg_11 c4_)
    refine lv_iconst (v := 0) hx hb dX11_canPlan_26 rg_0 ?_
    have kk5_ : (0 : Int32).toInt = 0 := rg_11
    have o1 : (0 : Int32).toInt = 0 := by omega
    rw [hQ]
    exact W.zret (v := 0) hx hb hr rfl (fun t ht hW => ⟨⟨0, σ, rfl, ⟨rfl, o1⟩, wEn_of hP (hK.sub [] rfl) hD ht hW⟩, hS.F ht⟩) hS.2.2 dX11_canPlan_27
  · have tc4_ := (show z1_.toInt ≠ 0 from ti_ne rfl rg_11 c4_)
    refine lv_iload_n hx hb dX11_canPlan_11 rfl (lv_at hl 2 rfl) ?_
    refine lv_if_lt (tgt := 26) hx hb dX11_canPlan_12 rfl (fun c6_ => ?_) (fun c6_ => ?_)
    · have tc6_ := (show y.toInt < 0 from ti_lt rfl rg_11 c6_)
      refine lv_iconst (v := 0) hx hb dX11_canPlan_26 rg_0 ?_
      have kk7_ : (0 : Int32).toInt = 0 := rg_11
      have o2 : (0 : Int32).toInt = 0 := by omega
      rw [hQ]
      exact W.zret (v := 0) hx hb hr rfl (fun t ht hW => ⟨⟨0, σ, rfl, ⟨rfl, o2⟩, wEn_of hP (hK.sub [] rfl) hD ht hW⟩, hS.F ht⟩) hS.2.2 dX11_canPlan_27
    · have tc6_ := (show 0 ≤ y.toInt from ti_nlt rfl rg_11 c6_)
      refine lv_iload_n hx hb dX11_canPlan_15 rfl (lv_at hl 2 rfl) ?_
      refine lv_sipush (v := 400) hx hb dX11_canPlan_16 rx_435ef8e752 ?_
      refine lv_icmp_gt (tgt := 26) hx hb dX11_canPlan_19 rfl (fun c8_ => ?_) (fun c8_ => ?_)
      · have tc8_ := (show 400 < y.toInt from ti_lt rx_e958b5e9fa rfl c8_)
        refine lv_iconst (v := 0) hx hb dX11_canPlan_26 rg_0 ?_
        have kk9_ : (0 : Int32).toInt = 0 := rg_11
        have o3 : (0 : Int32).toInt = 0 := by omega
        rw [hQ]
        exact W.zret (v := 0) hx hb hr rfl (fun t ht hW => ⟨⟨0, σ, rfl, ⟨rfl, o3⟩, wEn_of hP (hK.sub [] rfl) hD ht hW⟩, hS.F ht⟩) hS.2.2 dX11_canPlan_27
      · have tc8_ := (show y.toInt ≤ 400 from ti_nlt rx_e958b5e9fa rfl c8_)
        refine lv_iconst (v := 1) hx hb dX11_canPlan_22 rg_6 ?_
        refine lv_goto (tgt := 27) hx hb dX11_canPlan_23 rfl ?_
        have kk10_ : (1 : Int32).toInt = 1 := rg_18
        have o4 : (1 : Int32).toInt = 0 := by omega
        rw [hQ]
        exact W.zret (v := 1) hx hb hr rfl (fun t ht hW => ⟨⟨1, σ, rfl, ⟨rfl, o4⟩, wEn_of hP (hK.sub [] rfl) hD ht hW⟩, hS.F ht⟩) hS.2.2 dX11_canPlan_27
def ow_k_hasEndY : List Cond := [.fieldLink RX3 40 "NearEnough$Program" "endCount" "I"]
def vs_k_hasEndY : List Cond := .code yX3_hasEnd cX3_hasEnd 2 (some .boolean) :: (ow_k_hasEndY ++ (wsX30))
theorem vg_k_hasEndY : vs_k_hasEndY.all goodWord = true := by decide +kernel
theorem dd_k_hasEndY : yX3_hasEnd.cls = RX3 ∧ yX3_hasEnd.cls ≠ "java/lang/invoke/MethodHandle" ∧ yX3_hasEnd.cls ≠ "java/lang/invoke/VarHandle" ∧ (parseMethodDescriptor yX3_hasEnd.desc).map (fun d => d.parameters.length) = some 1 := by decide +kernel
def rm_k_hasEndY : Room := { frames := 0, cells := 0, slots := 0, locals := 0 }
set_option maxHeartbeats 4000000 in
set_option maxRecDepth 100000 in
theorem k_hasEndY (l : Launch) (dC : Nat → ClassId) (dI : Nat → Nat → Nat) (κ : CE) (sz : Nat) (σ : MS) (x : Int32) (hk : PInv κ) (hI : CInv σ) (hn : 0 ≤ x.toInt ∧ x.toInt < (pI κ 2).toInt) : Met l yX3_hasEnd vs_k_hasEndY rm_k_hasEndY (va_Pc [.ref (kA κ 6), .int x] (wSy dC dI (cW κ σ) (cT κ) sz)) (va_Qi (fun (r : Int32) (τ : MS) => τ = σ ∧ (r.toInt = 1)) (fun (τ : MS) => wEn dC dI (va_A (cW κ σ) sz) (cW κ τ) []) (va_A (cW κ σ) sz)) 0 0 (va_A (cW κ σ) sz) := by
  refine Met.ofW (cc := cX3_hasEnd) (maxL := 2) (ret := (some .boolean)) (by decide +kernel) rfl ?_
  intro p e s m args below meth c s₁ B hml hv
  obtain ⟨rfl, hsz, hP, hK, hD0, hE⟩ := hv
  have hx := B.exec
  have hb := B.bytes
  have hr := B.returns
  have hts := atoms_spec (ws := vs_k_hasEndY) B.pre
  have hown : s.vm.findClass RX3 = some m.cls := findClass_of_methodNamed B.named
  have hlocks := B.notSynchronized
  subst hsz
  have hD := hD0.self (sz := s.heap.size)
  generalize hAe : va_A (cW κ σ) s.heap.size = A at hD ⊢
  have hA : ∀ q : Nat, s.heap.size ≤ q → A q := fun q h => by rw [← hAe]; exact Or.inr h
  have hl := lv_entry ([.ref (kA κ 6), .int x]) (n := 2) (Nat.le_of_ble_eq_true rfl)
  rw [lg_entry_eq]
  generalize (lg_sl ([.ref (kA κ 6), .int x]) ++ List.replicate (2 - (lg_sl ([.ref (kA κ 6), .int x])).length) Slot.unset).toArray = ls at hl ⊢
  have hl : lv_has ls 2 [(0, .ref (kA κ 6)), (1, .int x)] := hl
  have ho := fun w (h : w ∈ ow_k_hasEndY) => hts w (List.mem_cons_of_mem _ (List.mem_append_left _ h))
  have hin3 : ∀ w ∈ u_ws RX3 TX3 8, w ∈ vs_k_hasEndY := fun w h => (List.mem_cons_of_mem _ (List.mem_append_right _ h))
  refine zQ (fun Q hQ => ?_)
  refine zH (A := A) (ws := (cW κ σ)) (fun H hP hS => ?_) hP
  have hk0 := hk.1
  have hk1 := hk.2.1
  have hk2 := hk.2.2.1
  refine lv_iload_n hx hb dX3_hasEnd_0 rfl (lv_at hl 1 rfl) ?_
  refine lv_if_lt (tgt := 16) hx hb dX3_hasEnd_1 rfl (fun c1_ => ?_) (fun c1_ => ?_)
  · have tc1_ := (show x.toInt < 0 from ti_lt rfl rg_11 c1_)
    refine lv_iconst (v := 0) hx hb dX3_hasEnd_16 rg_0 ?_
    have kk2_ : (0 : Int32).toInt = 0 := rg_11
    have o1 : (0 : Int32).toInt = 1 := by omega
    rw [hQ]
    exact W.zret (v := 0) hx hb hr rfl (fun t ht hW => ⟨⟨0, σ, rfl, ⟨rfl, o1⟩, wEn_of hP (hK.sub [] rfl) hD ht hW⟩, hS.F ht⟩) hS.2.2 dX3_hasEnd_17
  · have tc1_ := (show 0 ≤ x.toInt from ti_nlt rfl rg_11 c1_)
    refine lv_iload_n hx hb dX3_hasEnd_4 rfl (lv_at hl 1 rfl) ?_
    refine lv_aload_n hx hb dX3_hasEnd_5 rfl (lv_at hl 0 rfl) ?_
    refine va_get (D := (dC, dI)) (ci := 3) (v := .int (pI κ 2)) (C := RX3) (T := TX3) (N := 8) hx hb hts hin3 hown hK hP 6 rfl rfl 7 (Nat.le_of_ble_eq_true rfl) (ho (.fieldLink RX3 40 "NearEnough$Program" "endCount" "I") (List.mem_of_getElem? (i := 0) rfl)) (fun _ h9 => h9) rfl dX3_hasEnd_6 ?_
    refine lv_icmp_ge (tgt := 16) hx hb dX3_hasEnd_9 rfl (fun c3_ => ?_) (fun c3_ => ?_)
    · have tc3_ := (show (pI κ 2).toInt ≤ x.toInt from ti_le rfl rfl c3_)
      refine lv_iconst (v := 0) hx hb dX3_hasEnd_16 rg_0 ?_
      have kk4_ : (0 : Int32).toInt = 0 := rg_11
      have o2 : (0 : Int32).toInt = 1 := by omega
      rw [hQ]
      exact W.zret (v := 0) hx hb hr rfl (fun t ht hW => ⟨⟨0, σ, rfl, ⟨rfl, o2⟩, wEn_of hP (hK.sub [] rfl) hD ht hW⟩, hS.F ht⟩) hS.2.2 dX3_hasEnd_17
    · have tc3_ := (show x.toInt < (pI κ 2).toInt from ti_nle rfl rfl c3_)
      refine lv_iconst (v := 1) hx hb dX3_hasEnd_12 rg_6 ?_
      refine lv_goto (tgt := 17) hx hb dX3_hasEnd_13 rfl ?_
      have kk5_ : (1 : Int32).toInt = 1 := rg_18
      have o3 : (1 : Int32).toInt = 1 := by omega
      rw [hQ]
      exact W.zret (v := 1) hx hb hr rfl (fun t ht hW => ⟨⟨1, σ, rfl, ⟨rfl, o3⟩, wEn_of hP (hK.sub [] rfl) hD ht hW⟩, hS.F ht⟩) hS.2.2 dX3_hasEnd_17
def ow_k_canPlanY : List Cond := [.fieldLink RX11 26 "NearEnough" "told" "LNearEnough$Program;"]
def vs_k_canPlanY : List Cond := .code yX11_canPlan cX11_canPlan 3 (some .boolean) :: (ow_k_canPlanY ++ (([.methodLink RX11 227 yX3_hasEnd, .instanceMethod yX3_hasEnd, .selects RX3 yX3_hasEnd yX3_hasEnd, .initialized RX3] : List Cond) ++ (vs_k_hasEndY ++ (wsX110))))
theorem vg_k_canPlanY : vs_k_canPlanY.all goodWord = true := by decide +kernel
theorem dd_k_canPlanY : yX11_canPlan.cls = RX11 ∧ yX11_canPlan.cls ≠ "java/lang/invoke/MethodHandle" ∧ yX11_canPlan.cls ≠ "java/lang/invoke/VarHandle" ∧ (parseMethodDescriptor yX11_canPlan.desc).map (fun d => d.parameters.length) = some 2 := by decide +kernel
def rm_k_canPlanY : Room := { frames := 1, cells := 0, slots := 0, locals := 21 }
theorem gd_k_canPlanY_227_k_hasEndY : GoodIn vs_k_canPlanY (wsV RX11 227 RX3 yX3_hasEnd vs_k_hasEndY) := goodIn_app (goodIn_sub (fun w h => (List.mem_cons_of_mem _ (List.mem_append_right _ (List.mem_append_left _ h)))) (by decide +kernel)) (goodIn_sub (fun w h => (List.mem_cons_of_mem _ (List.mem_append_right _ (List.mem_append_right _ (List.mem_append_left _ h))))) vg_k_hasEndY)
set_option maxHeartbeats 4000000 in
set_option maxRecDepth 100000 in
theorem k_canPlanY (l : Launch) (dC : Nat → ClassId) (dI : Nat → Nat → Nat) (κ : CE) (sz : Nat) (σ : MS) (x : Int32) (y : Int32) (hk : PInv κ) (hI : CInv σ) (hn : 0 ≤ x.toInt ∧ x.toInt < (pI κ 2).toInt ∧ 0 ≤ y.toInt ∧ y.toInt ≤ 400) : Met l yX11_canPlan vs_k_canPlanY rm_k_canPlanY (va_Pc [.ref (kA κ 0), .int x, .int y] (wSy dC dI (cW κ σ) (cT κ) sz)) (va_Qi (fun (r : Int32) (τ : MS) => τ = σ ∧ (r.toInt = 1)) (fun (τ : MS) => wEn dC dI (va_A (cW κ σ) sz) (cW κ τ) []) (va_A (cW κ σ) sz)) 0 0 (va_A (cW κ σ) sz) := by
  refine Met.ofW (cc := cX11_canPlan) (maxL := 3) (ret := (some .boolean)) (by decide +kernel) rfl ?_
  intro p e s m args below meth c s₁ B hml hv
  obtain ⟨rfl, hsz, hP, hK, hD0, hE⟩ := hv
  have hx := B.exec
  have hb := B.bytes
  have hr := B.returns
  have hts := atoms_spec (ws := vs_k_canPlanY) B.pre
  have hown : s.vm.findClass RX11 = some m.cls := findClass_of_methodNamed B.named
  have hlocks := B.notSynchronized
  subst hsz
  have hD := hD0.self (sz := s.heap.size)
  generalize hAe : va_A (cW κ σ) s.heap.size = A at hD ⊢
  have hA : ∀ q : Nat, s.heap.size ≤ q → A q := fun q h => by rw [← hAe]; exact Or.inr h
  have hl := lv_entry ([.ref (kA κ 0), .int x, .int y]) (n := 3) (Nat.le_of_ble_eq_true rfl)
  rw [lg_entry_eq]
  generalize (lg_sl ([.ref (kA κ 0), .int x, .int y]) ++ List.replicate (3 - (lg_sl ([.ref (kA κ 0), .int x, .int y])).length) Slot.unset).toArray = ls at hl ⊢
  have hl : lv_has ls 3 [(0, .ref (kA κ 0)), (1, .int x), (2, .int y)] := hl
  have ho := fun w (h : w ∈ ow_k_canPlanY) => hts w (List.mem_cons_of_mem _ (List.mem_append_left _ h))
  have hin11 : ∀ w ∈ u_ws RX11 TX11 17, w ∈ vs_k_canPlanY := fun w h => (List.mem_cons_of_mem _ (List.mem_append_right _ (List.mem_append_right _ (List.mem_append_right _ h))))
  refine zQ (fun Q hQ => ?_)
  refine zH (A := A) (ws := (cW κ σ)) (fun H hP hS => ?_) hP
  have hk0 := hk.1
  have hk1 := hk.2.1
  have hk2 := hk.2.2.1
  refine lv_aload_n hx hb dX11_canPlan_0 rfl (lv_at hl 0 rfl) ?_
  refine va_get (D := (dC, dI)) (ci := 11) (v := .ref (kA κ 6)) (C := RX11) (T := TX11) (N := 17) hx hb hts hin11 hown hK hP 0 rfl rfl 4 (Nat.le_of_ble_eq_true rfl) (ho (.fieldLink RX11 26 "NearEnough" "told" "LNearEnough$Program;") (List.mem_of_getElem? (i := 0) rfl)) (fun _ h9 => h9) rfl dX11_canPlan_1 ?_
  refine lv_iload_n hx hb dX11_canPlan_4 rfl (lv_at hl 1 rfl) ?_
  have o1 : 0 ≤ x.toInt := by omega
  have o2 : x.toInt < (pI κ 2).toInt := by omega
  refine zy_i (va_runV (As := [.int x]) (rest := []) ⟨hx, hb, hml, hown, hts⟩ (k_hasEndY l dC dI κ H.size σ x hk hI ⟨o1, o2⟩) (cwV 1 hts gd_k_canPlanY_227_k_hasEndY rfl rfl rfl dd_k_hasEndY ⟨Nat.le_of_ble_eq_true rfl, Nat.le_of_ble_eq_true rfl⟩) (preVy hP hK hD hE (ci := 3) (q0 := 6) rfl rfl) rfl rfl hl.1 rfl (lv_room (Nat.le_of_ble_eq_true rfl)) dX11_canPlan_5 ⟨Nat.le_of_ble_eq_true rfl, Nat.le_of_ble_eq_true rfl⟩) hD hS hA (fun z1_ τ2_ H locs hq hP hD hS => ?_)
  obtain ⟨hτ2_, q3_⟩ := hq
  rw [hτ2_] at hP hD
  have q3_ : z1_.toInt = 1 := q3_
  refine W.widen (k := 0) (n := 0) (Nat.le_of_ble_eq_true rfl) (Nat.le_of_ble_eq_true rfl) ?_
  refine lv_if_eq (tgt := 26) hx hb dX11_canPlan_8 rfl (fun c4_ => ?_) (fun c4_ => ?_)
  · have tc4_ := (show z1_.toInt = 0 from ti_eq rfl rg_11 c4_)
    refine lv_iconst (v := 0) hx hb dX11_canPlan_26 rg_0 ?_
    have kk5_ : (0 : Int32).toInt = 0 := rg_11
    have o3 : (0 : Int32).toInt = 1 := by omega
    rw [hQ]
    exact W.zret (v := 0) hx hb hr rfl (fun t ht hW => ⟨⟨0, σ, rfl, ⟨rfl, o3⟩, wEn_of hP (hK.sub [] rfl) hD ht hW⟩, hS.F ht⟩) hS.2.2 dX11_canPlan_27
  · have tc4_ := (show z1_.toInt ≠ 0 from ti_ne rfl rg_11 c4_)
    refine lv_iload_n hx hb dX11_canPlan_11 rfl (lv_at hl 2 rfl) ?_
    refine lv_if_lt (tgt := 26) hx hb dX11_canPlan_12 rfl (fun c6_ => ?_) (fun c6_ => ?_)
    · have tc6_ := (show y.toInt < 0 from ti_lt rfl rg_11 c6_)
      refine lv_iconst (v := 0) hx hb dX11_canPlan_26 rg_0 ?_
      have kk7_ : (0 : Int32).toInt = 0 := rg_11
      have o4 : (0 : Int32).toInt = 1 := by omega
      rw [hQ]
      exact W.zret (v := 0) hx hb hr rfl (fun t ht hW => ⟨⟨0, σ, rfl, ⟨rfl, o4⟩, wEn_of hP (hK.sub [] rfl) hD ht hW⟩, hS.F ht⟩) hS.2.2 dX11_canPlan_27
    · have tc6_ := (show 0 ≤ y.toInt from ti_nlt rfl rg_11 c6_)
      refine lv_iload_n hx hb dX11_canPlan_15 rfl (lv_at hl 2 rfl) ?_
      refine lv_sipush (v := 400) hx hb dX11_canPlan_16 rx_435ef8e752 ?_
      refine lv_icmp_gt (tgt := 26) hx hb dX11_canPlan_19 rfl (fun c8_ => ?_) (fun c8_ => ?_)
      · have tc8_ := (show 400 < y.toInt from ti_lt rx_e958b5e9fa rfl c8_)
        refine lv_iconst (v := 0) hx hb dX11_canPlan_26 rg_0 ?_
        have kk9_ : (0 : Int32).toInt = 0 := rg_11
        have o5 : (0 : Int32).toInt = 1 := by omega
        rw [hQ]
        exact W.zret (v := 0) hx hb hr rfl (fun t ht hW => ⟨⟨0, σ, rfl, ⟨rfl, o5⟩, wEn_of hP (hK.sub [] rfl) hD ht hW⟩, hS.F ht⟩) hS.2.2 dX11_canPlan_27
      · have tc8_ := (show y.toInt ≤ 400 from ti_nlt rx_e958b5e9fa rfl c8_)
        refine lv_iconst (v := 1) hx hb dX11_canPlan_22 rg_6 ?_
        refine lv_goto (tgt := 27) hx hb dX11_canPlan_23 rfl ?_
        have kk10_ : (1 : Int32).toInt = 1 := rg_18
        have o6 : (1 : Int32).toInt = 1 := by omega
        rw [hQ]
        exact W.zret (v := 1) hx hb hr rfl (fun t ht hW => ⟨⟨1, σ, rfl, ⟨rfl, o6⟩, wEn_of hP (hK.sub [] rfl) hD ht hW⟩, hS.F ht⟩) hS.2.2 dX11_canPlan_27
def ow_k_hasN : List Cond := [.fieldLink RX7 19 "NearEnough$Sheets" "count" "I"]
def vs_k_hasN : List Cond := .code yX7_has cX7_has 2 (some .boolean) :: (ow_k_hasN ++ (wsX70))
theorem vg_k_hasN : vs_k_hasN.all goodWord = true := by decide +kernel
theorem dd_k_hasN : yX7_has.cls = RX7 ∧ yX7_has.cls ≠ "java/lang/invoke/MethodHandle" ∧ yX7_has.cls ≠ "java/lang/invoke/VarHandle" ∧ (parseMethodDescriptor yX7_has.desc).map (fun d => d.parameters.length) = some 1 := by decide +kernel
def rm_k_hasN : Room := { frames := 0, cells := 0, slots := 0, locals := 0 }
set_option maxHeartbeats 4000000 in
set_option maxRecDepth 100000 in
theorem k_hasN (l : Launch) (dC : Nat → ClassId) (dI : Nat → Nat → Nat) (κ : CE) (sz : Nat) (σ : MS) (x : Int32) (hk : PInv κ) (hI : CInv σ) (hn : ¬ (0 ≤ x.toInt ∧ x.toInt < (σ.1 12).toInt)) : Met l yX7_has vs_k_hasN rm_k_hasN (va_Pc [.ref (kA κ 12), .int x] (wSy dC dI (cW κ σ) (cT κ) sz)) (va_Qi (fun (r : Int32) (τ : MS) => τ = σ ∧ (r.toInt = 0)) (fun (τ : MS) => wEn dC dI (va_A (cW κ σ) sz) (cW κ τ) []) (va_A (cW κ σ) sz)) 0 0 (va_A (cW κ σ) sz) := by
  refine Met.ofW (cc := cX7_has) (maxL := 2) (ret := (some .boolean)) (by decide +kernel) rfl ?_
  intro p e s m args below meth c s₁ B hml hv
  obtain ⟨rfl, hsz, hP, hK, hD0, hE⟩ := hv
  have hx := B.exec
  have hb := B.bytes
  have hr := B.returns
  have hts := atoms_spec (ws := vs_k_hasN) B.pre
  have hown : s.vm.findClass RX7 = some m.cls := findClass_of_methodNamed B.named
  have hlocks := B.notSynchronized
  subst hsz
  have hD := hD0.self (sz := s.heap.size)
  generalize hAe : va_A (cW κ σ) s.heap.size = A at hD ⊢
  have hA : ∀ q : Nat, s.heap.size ≤ q → A q := fun q h => by rw [← hAe]; exact Or.inr h
  have hl := lv_entry ([.ref (kA κ 12), .int x]) (n := 2) (Nat.le_of_ble_eq_true rfl)
  rw [lg_entry_eq]
  generalize (lg_sl ([.ref (kA κ 12), .int x]) ++ List.replicate (2 - (lg_sl ([.ref (kA κ 12), .int x])).length) Slot.unset).toArray = ls at hl ⊢
  have hl : lv_has ls 2 [(0, .ref (kA κ 12)), (1, .int x)] := hl
  have ho := fun w (h : w ∈ ow_k_hasN) => hts w (List.mem_cons_of_mem _ (List.mem_append_left _ h))
  have hin7 : ∀ w ∈ u_ws RX7 TX7 3, w ∈ vs_k_hasN := fun w h => (List.mem_cons_of_mem _ (List.mem_append_right _ h))
  refine zQ (fun Q hQ => ?_)
  refine zH (A := A) (ws := (cW κ σ)) (fun H hP hS => ?_) hP
  have hk0 := hk.1
  have hk1 := hk.2.1
  have hk2 := hk.2.2.1
  refine lv_iload_n hx hb dX7_has_0 rfl (lv_at hl 1 rfl) ?_
  refine lv_if_lt (tgt := 16) hx hb dX7_has_1 rfl (fun c1_ => ?_) (fun c1_ => ?_)
  · have tc1_ := (show x.toInt < 0 from ti_lt rfl rg_11 c1_)
    refine lv_iconst (v := 0) hx hb dX7_has_16 rg_0 ?_
    have kk2_ : (0 : Int32).toInt = 0 := rg_11
    have o1 : (0 : Int32).toInt = 0 := by omega
    rw [hQ]
    exact W.zret (v := 0) hx hb hr rfl (fun t ht hW => ⟨⟨0, σ, rfl, ⟨rfl, o1⟩, wEn_of hP (hK.sub [] rfl) hD ht hW⟩, hS.F ht⟩) hS.2.2 dX7_has_17
  · have tc1_ := (show 0 ≤ x.toInt from ti_nlt rfl rg_11 c1_)
    refine lv_iload_n hx hb dX7_has_4 rfl (lv_at hl 1 rfl) ?_
    refine lv_aload_n hx hb dX7_has_5 rfl (lv_at hl 0 rfl) ?_
    have bσ_12 : 0 ≤ (σ.1 12).toInt ∧ (σ.1 12).toInt ≤ 40 := hI.1 12
    refine va_get (D := (dC, dI)) (ci := 7) (v := .int (σ.1 12)) (C := RX7) (T := TX7) (N := 3) hx hb hts hin7 hown hK hP 12 rfl rfl 2 (Nat.le_of_ble_eq_true rfl) (ho (.fieldLink RX7 19 "NearEnough$Sheets" "count" "I") (List.mem_of_getElem? (i := 0) rfl)) (fun _ h9 => h9) rfl dX7_has_6 ?_
    refine lv_icmp_ge (tgt := 16) hx hb dX7_has_9 rfl (fun c3_ => ?_) (fun c3_ => ?_)
    · have tc3_ := (show (σ.1 12).toInt ≤ x.toInt from ti_le rfl rfl c3_)
      refine lv_iconst (v := 0) hx hb dX7_has_16 rg_0 ?_
      have kk4_ : (0 : Int32).toInt = 0 := rg_11
      have o2 : (0 : Int32).toInt = 0 := by omega
      rw [hQ]
      exact W.zret (v := 0) hx hb hr rfl (fun t ht hW => ⟨⟨0, σ, rfl, ⟨rfl, o2⟩, wEn_of hP (hK.sub [] rfl) hD ht hW⟩, hS.F ht⟩) hS.2.2 dX7_has_17
    · have tc3_ := (show x.toInt < (σ.1 12).toInt from ti_nle rfl rfl c3_)
      refine lv_iconst (v := 1) hx hb dX7_has_12 rg_6 ?_
      refine lv_goto (tgt := 17) hx hb dX7_has_13 rfl ?_
      have kk5_ : (1 : Int32).toInt = 1 := rg_18
      have o3 : (1 : Int32).toInt = 0 := by omega
      rw [hQ]
      exact W.zret (v := 1) hx hb hr rfl (fun t ht hW => ⟨⟨1, σ, rfl, ⟨rfl, o3⟩, wEn_of hP (hK.sub [] rfl) hD ht hW⟩, hS.F ht⟩) hS.2.2 dX7_has_17
def ow_k_hasY : List Cond := [.fieldLink RX7 19 "NearEnough$Sheets" "count" "I"]
def vs_k_hasY : List Cond := .code yX7_has cX7_has 2 (some .boolean) :: (ow_k_hasY ++ (wsX70))
theorem vg_k_hasY : vs_k_hasY.all goodWord = true := by decide +kernel
theorem dd_k_hasY : yX7_has.cls = RX7 ∧ yX7_has.cls ≠ "java/lang/invoke/MethodHandle" ∧ yX7_has.cls ≠ "java/lang/invoke/VarHandle" ∧ (parseMethodDescriptor yX7_has.desc).map (fun d => d.parameters.length) = some 1 := by decide +kernel
def rm_k_hasY : Room := { frames := 0, cells := 0, slots := 0, locals := 0 }
set_option maxHeartbeats 4000000 in
set_option maxRecDepth 100000 in
theorem k_hasY (l : Launch) (dC : Nat → ClassId) (dI : Nat → Nat → Nat) (κ : CE) (sz : Nat) (σ : MS) (x : Int32) (hk : PInv κ) (hI : CInv σ) (hn : 0 ≤ x.toInt ∧ x.toInt < (σ.1 12).toInt) : Met l yX7_has vs_k_hasY rm_k_hasY (va_Pc [.ref (kA κ 12), .int x] (wSy dC dI (cW κ σ) (cT κ) sz)) (va_Qi (fun (r : Int32) (τ : MS) => τ = σ ∧ (r.toInt = 1)) (fun (τ : MS) => wEn dC dI (va_A (cW κ σ) sz) (cW κ τ) []) (va_A (cW κ σ) sz)) 0 0 (va_A (cW κ σ) sz) := by
  refine Met.ofW (cc := cX7_has) (maxL := 2) (ret := (some .boolean)) (by decide +kernel) rfl ?_
  intro p e s m args below meth c s₁ B hml hv
  obtain ⟨rfl, hsz, hP, hK, hD0, hE⟩ := hv
  have hx := B.exec
  have hb := B.bytes
  have hr := B.returns
  have hts := atoms_spec (ws := vs_k_hasY) B.pre
  have hown : s.vm.findClass RX7 = some m.cls := findClass_of_methodNamed B.named
  have hlocks := B.notSynchronized
  subst hsz
  have hD := hD0.self (sz := s.heap.size)
  generalize hAe : va_A (cW κ σ) s.heap.size = A at hD ⊢
  have hA : ∀ q : Nat, s.heap.size ≤ q → A q := fun q h => by rw [← hAe]; exact Or.inr h
  have hl := lv_entry ([.ref (kA κ 12), .int x]) (n := 2) (Nat.le_of_ble_eq_true rfl)
  rw [lg_entry_eq]
  generalize (lg_sl ([.ref (kA κ 12), .int x]) ++ List.replicate (2 - (lg_sl ([.ref (kA κ 12), .int x])).length) Slot.unset).toArray = ls at hl ⊢
  have hl : lv_has ls 2 [(0, .ref (kA κ 12)), (1, .int x)] := hl
  have ho := fun w (h : w ∈ ow_k_hasY) => hts w (List.mem_cons_of_mem _ (List.mem_append_left _ h))
  have hin7 : ∀ w ∈ u_ws RX7 TX7 3, w ∈ vs_k_hasY := fun w h => (List.mem_cons_of_mem _ (List.mem_append_right _ h))
  refine zQ (fun Q hQ => ?_)
  refine zH (A := A) (ws := (cW κ σ)) (fun H hP hS => ?_) hP
  have hk0 := hk.1
  have hk1 := hk.2.1
  have hk2 := hk.2.2.1
  refine lv_iload_n hx hb dX7_has_0 rfl (lv_at hl 1 rfl) ?_
  refine lv_if_lt (tgt := 16) hx hb dX7_has_1 rfl (fun c1_ => ?_) (fun c1_ => ?_)
  · have tc1_ := (show x.toInt < 0 from ti_lt rfl rg_11 c1_)
    refine lv_iconst (v := 0) hx hb dX7_has_16 rg_0 ?_
    have kk2_ : (0 : Int32).toInt = 0 := rg_11
    have o1 : (0 : Int32).toInt = 1 := by omega
    rw [hQ]
    exact W.zret (v := 0) hx hb hr rfl (fun t ht hW => ⟨⟨0, σ, rfl, ⟨rfl, o1⟩, wEn_of hP (hK.sub [] rfl) hD ht hW⟩, hS.F ht⟩) hS.2.2 dX7_has_17
  · have tc1_ := (show 0 ≤ x.toInt from ti_nlt rfl rg_11 c1_)
    refine lv_iload_n hx hb dX7_has_4 rfl (lv_at hl 1 rfl) ?_
    refine lv_aload_n hx hb dX7_has_5 rfl (lv_at hl 0 rfl) ?_
    have bσ_12 : 0 ≤ (σ.1 12).toInt ∧ (σ.1 12).toInt ≤ 40 := hI.1 12
    refine va_get (D := (dC, dI)) (ci := 7) (v := .int (σ.1 12)) (C := RX7) (T := TX7) (N := 3) hx hb hts hin7 hown hK hP 12 rfl rfl 2 (Nat.le_of_ble_eq_true rfl) (ho (.fieldLink RX7 19 "NearEnough$Sheets" "count" "I") (List.mem_of_getElem? (i := 0) rfl)) (fun _ h9 => h9) rfl dX7_has_6 ?_
    refine lv_icmp_ge (tgt := 16) hx hb dX7_has_9 rfl (fun c3_ => ?_) (fun c3_ => ?_)
    · have tc3_ := (show (σ.1 12).toInt ≤ x.toInt from ti_le rfl rfl c3_)
      refine lv_iconst (v := 0) hx hb dX7_has_16 rg_0 ?_
      have kk4_ : (0 : Int32).toInt = 0 := rg_11
      have o2 : (0 : Int32).toInt = 1 := by omega
      rw [hQ]
      exact W.zret (v := 0) hx hb hr rfl (fun t ht hW => ⟨⟨0, σ, rfl, ⟨rfl, o2⟩, wEn_of hP (hK.sub [] rfl) hD ht hW⟩, hS.F ht⟩) hS.2.2 dX7_has_17
    · have tc3_ := (show x.toInt < (σ.1 12).toInt from ti_nle rfl rfl c3_)
      refine lv_iconst (v := 1) hx hb dX7_has_12 rg_6 ?_
      refine lv_goto (tgt := 17) hx hb dX7_has_13 rfl ?_
      have kk5_ : (1 : Int32).toInt = 1 := rg_18
      have o3 : (1 : Int32).toInt = 1 := by omega
      rw [hQ]
      exact W.zret (v := 1) hx hb hr rfl (fun t ht hW => ⟨⟨1, σ, rfl, ⟨rfl, o3⟩, wEn_of hP (hK.sub [] rfl) hD ht hW⟩, hS.F ht⟩) hS.2.2 dX7_has_17
def ow_v_planN : List Cond := []
def vs_v_planN : List Cond := .code yX11_plan cX11_plan 4 (some .int) :: (ow_v_planN ++ (([.methodLink RX11 357 yX11_canPlan, .instanceMethod yX11_canPlan, .selects RX11 yX11_canPlan yX11_canPlan, .initialized RX11] : List Cond) ++ (vs_k_canPlanN)))
theorem vg_v_planN : vs_v_planN.all goodWord = true := by decide +kernel
theorem dd_v_planN : yX11_plan.cls = RX11 ∧ yX11_plan.cls ≠ "java/lang/invoke/MethodHandle" ∧ yX11_plan.cls ≠ "java/lang/invoke/VarHandle" ∧ (parseMethodDescriptor yX11_plan.desc).map (fun d => d.parameters.length) = some 2 := by decide +kernel
def rm_v_planN : Room := { frames := 2, cells := 0, slots := 0, locals := 43 }
theorem gd_v_planN_357_k_canPlanN : GoodIn vs_v_planN (wsV RX11 357 RX11 yX11_canPlan vs_k_canPlanN) := goodIn_app (goodIn_sub (fun w h => (List.mem_cons_of_mem _ (List.mem_append_right _ (List.mem_append_left _ h)))) (by decide +kernel)) (goodIn_sub (fun w h => (List.mem_cons_of_mem _ (List.mem_append_right _ (List.mem_append_right _ h)))) vg_k_canPlanN)
set_option maxHeartbeats 4000000 in
set_option maxRecDepth 100000 in
theorem v_planN (l : Launch) (dC : Nat → ClassId) (dI : Nat → Nat → Nat) (κ : CE) (sz : Nat) (φ ψ σ : MS) (x : Int32) (y : Int32) (hk : PInv κ) (hI : CInv σ) (hF : FInv φ) (hn : ¬ (0 ≤ x.toInt ∧ x.toInt < (pI κ 2).toInt ∧ 0 ≤ y.toInt ∧ y.toInt ≤ 400)) : Met l yX11_plan vs_v_planN rm_v_planN (va_Pc [.ref (kA κ 0), .int x, .int y] (wSy dC dI (xW κ (xX κ φ ψ) σ) (tT κ) sz)) (va_Qi (fun (r : Int32) (u : MS × MS × MS) => CInv u.2.2 ∧ FInv u.1 ∧ True) (fun (u : MS × MS × MS) => wEn dC dI (va_A (xW κ (xX κ φ ψ) σ) sz) (xW κ (xX κ u.1 u.2.1) u.2.2) []) (va_A (xW κ (xX κ φ ψ) σ) sz)) 0 0 (va_A (xW κ (xX κ φ ψ) σ) sz) := by
  refine Met.ofW (cc := cX11_plan) (maxL := 4) (ret := (some .int)) (by decide +kernel) rfl ?_
  intro p e s m args below meth c s₁ B hml hv
  obtain ⟨rfl, hsz, hP, hK, hD0, hE⟩ := hv
  have hx := B.exec
  have hb := B.bytes
  have hr := B.returns
  have hts := atoms_spec (ws := vs_v_planN) B.pre
  have hown : s.vm.findClass RX11 = some m.cls := findClass_of_methodNamed B.named
  have hlocks := B.notSynchronized
  subst hsz
  have hD := hD0.self (sz := s.heap.size)
  generalize hAe : va_A (xW κ (xX κ φ ψ) σ) s.heap.size = A at hD ⊢
  have hA : ∀ q : Nat, s.heap.size ≤ q → A q := fun q h => by rw [← hAe]; exact Or.inr h
  have hl := lv_entry ([.ref (kA κ 0), .int x, .int y]) (n := 4) (Nat.le_of_ble_eq_true rfl)
  rw [lg_entry_eq]
  generalize (lg_sl ([.ref (kA κ 0), .int x, .int y]) ++ List.replicate (4 - (lg_sl ([.ref (kA κ 0), .int x, .int y])).length) Slot.unset).toArray = ls at hl ⊢
  have hl : lv_has ls 4 [(0, .ref (kA κ 0)), (1, .int x), (2, .int y)] := hl
  have ho := fun w (h : w ∈ ow_v_planN) => hts w (List.mem_cons_of_mem _ (List.mem_append_left _ h))
  refine zQ (fun Q hQ => ?_)
  refine zH (A := A) (ws := (xW κ (xX κ φ ψ) σ)) (fun H hP hS => ?_) hP
  have hk0 := hk.1
  have hk1 := hk.2.1
  have hk2 := hk.2.2.1
  have hKc : va_K (dC, dI) vwCl (cT κ) s := hK.sub [0, 1, 2, 3, 4, 5, 6, 7, 8, 9, 10, 11, 12, 13, 14, 15, 16, 17, 18, 19, 20] rfl
  refine lv_aload_n hx hb dX11_plan_0 rfl (lv_at hl 0 rfl) ?_
  refine lv_iload_n hx hb dX11_plan_1 rfl (lv_at hl 1 rfl) ?_
  refine lv_iload_n hx hb dX11_plan_2 rfl (lv_at hl 2 rfl) ?_
  refine zy_i (va_runV (As := [.int x, .int y]) (rest := []) ⟨hx, hb, hml, hown, hts⟩ (k_canPlanN l dC dI (ky κ (xX κ φ ψ)) H.size σ x y hk hI hn) (cwV 2 hts gd_v_planN_357_k_canPlanN rfl rfl rfl dd_k_canPlanN ⟨Nat.le_of_ble_eq_true rfl, Nat.le_of_ble_eq_true rfl⟩) (preVy (xcP hP) hKc (xcD hD) hE (ci := 11) (q0 := 0) rfl rfl) rfl rfl hl.1 rfl (lv_room (Nat.le_of_ble_eq_true rfl)) dX11_plan_3 ⟨Nat.le_of_ble_eq_true rfl, Nat.le_of_ble_eq_true rfl⟩) (xcD hD) hS hA (fun z1_ τ2_ H locs hq hP hD hS => ?_)
  obtain ⟨hτ2_, q3_⟩ := hq
  rw [hτ2_] at hP hD
  have hP : va_P (dC, dI) vwCl (xW κ (xX κ φ ψ) σ) H := cxP hP
  have hD : va_D A (xW κ (xX κ φ ψ) σ) := cxD hD
  have q3_ : z1_.toInt = 0 := q3_
  refine W.widen (k := 0) (n := 0) (Nat.le_of_ble_eq_true rfl) (Nat.le_of_ble_eq_true rfl) ?_
  refine lv_if_ne (tgt := 11) hx hb dX11_plan_6 rfl (fun c4_ => ?_) (fun c4_ => ?_)
  · have tc4_ := (show z1_.toInt ≠ 0 from ti_ne rfl rg_11 c4_)
    exfalso; omega
  · have tc4_ := (show z1_.toInt = 0 from ti_eq rfl rg_11 c4_)
    refine lv_iconst (v := (-1)) hx hb dX11_plan_9 rg_53 ?_
    have kk5_ : ((-1) : Int32).toInt = (-1) := rg_489
    rw [hQ]
    exact W.iret (v := (-1)) hx hb hr (fun t ht hW => ⟨⟨(-1), (φ, ψ, σ), rfl, ⟨hI, hF, trivial⟩, wEn_of hP (hK.sub [] rfl) hD ht hW⟩, hS.F ht⟩) hS.2.2 dX11_plan_10
def ow_v_plannedN : List Cond := []
def vs_v_plannedN : List Cond := .code yX11_planned cX11_planned 5 (some .int) :: (ow_v_plannedN ++ (([.methodLink RX11 357 yX11_canPlan, .instanceMethod yX11_canPlan, .selects RX11 yX11_canPlan yX11_canPlan, .initialized RX11] : List Cond) ++ (vs_k_canPlanN)))
theorem vg_v_plannedN : vs_v_plannedN.all goodWord = true := by decide +kernel
theorem dd_v_plannedN : yX11_planned.cls = RX11 ∧ yX11_planned.cls ≠ "java/lang/invoke/MethodHandle" ∧ yX11_planned.cls ≠ "java/lang/invoke/VarHandle" ∧ (parseMethodDescriptor yX11_planned.desc).map (fun d => d.parameters.length) = some 3 := by decide +kernel
def rm_v_plannedN : Room := { frames := 2, cells := 0, slots := 0, locals := 43 }
theorem gd_v_plannedN_357_k_canPlanN : GoodIn vs_v_plannedN (wsV RX11 357 RX11 yX11_canPlan vs_k_canPlanN) := goodIn_app (goodIn_sub (fun w h => (List.mem_cons_of_mem _ (List.mem_append_right _ (List.mem_append_left _ h)))) (by decide +kernel)) (goodIn_sub (fun w h => (List.mem_cons_of_mem _ (List.mem_append_right _ (List.mem_append_right _ h)))) vg_k_canPlanN)
set_option maxHeartbeats 4000000 in
set_option maxRecDepth 100000 in
theorem v_plannedN (l : Launch) (dC : Nat → ClassId) (dI : Nat → Nat → Nat) (κ : CE) (sz : Nat) (φ ψ σ : MS) (x : Int32) (y : Int32) (z : Int32) (hk : PInv κ) (hI : CInv σ) (hF : FInv φ) (hn : ¬ (0 ≤ x.toInt ∧ x.toInt < (pI κ 2).toInt ∧ 0 ≤ y.toInt ∧ y.toInt ≤ 400)) : Met l yX11_planned vs_v_plannedN rm_v_plannedN (va_Pc [.ref (kA κ 0), .int x, .int y, .int z] (wSy dC dI (xW κ (xX κ φ ψ) σ) (tT κ) sz)) (va_Qi (fun (r : Int32) (u : MS × MS × MS) => CInv u.2.2 ∧ FInv u.1 ∧ True) (fun (u : MS × MS × MS) => wEn dC dI (va_A (xW κ (xX κ φ ψ) σ) sz) (xW κ (xX κ u.1 u.2.1) u.2.2) []) (va_A (xW κ (xX κ φ ψ) σ) sz)) 0 0 (va_A (xW κ (xX κ φ ψ) σ) sz) := by
  refine Met.ofW (cc := cX11_planned) (maxL := 5) (ret := (some .int)) (by decide +kernel) rfl ?_
  intro p e s m args below meth c s₁ B hml hv
  obtain ⟨rfl, hsz, hP, hK, hD0, hE⟩ := hv
  have hx := B.exec
  have hb := B.bytes
  have hr := B.returns
  have hts := atoms_spec (ws := vs_v_plannedN) B.pre
  have hown : s.vm.findClass RX11 = some m.cls := findClass_of_methodNamed B.named
  have hlocks := B.notSynchronized
  subst hsz
  have hD := hD0.self (sz := s.heap.size)
  generalize hAe : va_A (xW κ (xX κ φ ψ) σ) s.heap.size = A at hD ⊢
  have hA : ∀ q : Nat, s.heap.size ≤ q → A q := fun q h => by rw [← hAe]; exact Or.inr h
  have hl := lv_entry ([.ref (kA κ 0), .int x, .int y, .int z]) (n := 5) (Nat.le_of_ble_eq_true rfl)
  rw [lg_entry_eq]
  generalize (lg_sl ([.ref (kA κ 0), .int x, .int y, .int z]) ++ List.replicate (5 - (lg_sl ([.ref (kA κ 0), .int x, .int y, .int z])).length) Slot.unset).toArray = ls at hl ⊢
  have hl : lv_has ls 5 [(0, .ref (kA κ 0)), (1, .int x), (2, .int y), (3, .int z)] := hl
  have ho := fun w (h : w ∈ ow_v_plannedN) => hts w (List.mem_cons_of_mem _ (List.mem_append_left _ h))
  refine zQ (fun Q hQ => ?_)
  refine zH (A := A) (ws := (xW κ (xX κ φ ψ) σ)) (fun H hP hS => ?_) hP
  have hk0 := hk.1
  have hk1 := hk.2.1
  have hk2 := hk.2.2.1
  have hKc : va_K (dC, dI) vwCl (cT κ) s := hK.sub [0, 1, 2, 3, 4, 5, 6, 7, 8, 9, 10, 11, 12, 13, 14, 15, 16, 17, 18, 19, 20] rfl
  refine lv_aload_n hx hb dX11_planned_0 rfl (lv_at hl 0 rfl) ?_
  refine lv_iload_n hx hb dX11_planned_1 rfl (lv_at hl 1 rfl) ?_
  refine lv_iload_n hx hb dX11_planned_2 rfl (lv_at hl 2 rfl) ?_
  refine zy_i (va_runV (As := [.int x, .int y]) (rest := []) ⟨hx, hb, hml, hown, hts⟩ (k_canPlanN l dC dI (ky κ (xX κ φ ψ)) H.size σ x y hk hI hn) (cwV 2 hts gd_v_plannedN_357_k_canPlanN rfl rfl rfl dd_k_canPlanN ⟨Nat.le_of_ble_eq_true rfl, Nat.le_of_ble_eq_true rfl⟩) (preVy (xcP hP) hKc (xcD hD) hE (ci := 11) (q0 := 0) rfl rfl) rfl rfl hl.1 rfl (lv_room (Nat.le_of_ble_eq_true rfl)) dX11_planned_3 ⟨Nat.le_of_ble_eq_true rfl, Nat.le_of_ble_eq_true rfl⟩) (xcD hD) hS hA (fun z1_ τ2_ H locs hq hP hD hS => ?_)
  obtain ⟨hτ2_, q3_⟩ := hq
  rw [hτ2_] at hP hD
  have hP : va_P (dC, dI) vwCl (xW κ (xX κ φ ψ) σ) H := cxP hP
  have hD : va_D A (xW κ (xX κ φ ψ) σ) := cxD hD
  have q3_ : z1_.toInt = 0 := q3_
  refine W.widen (k := 0) (n := 0) (Nat.le_of_ble_eq_true rfl) (Nat.le_of_ble_eq_true rfl) ?_
  refine lv_if_eq (tgt := 20) hx hb dX11_planned_6 rfl (fun c4_ => ?_) (fun c4_ => ?_)
  · have tc4_ := (show z1_.toInt = 0 from ti_eq rfl rg_11 c4_)
    refine lv_iconst (v := (-1)) hx hb dX11_planned_20 rg_53 ?_
    have kk5_ : ((-1) : Int32).toInt = (-1) := rg_489
    rw [hQ]
    exact W.iret (v := (-1)) hx hb hr (fun t ht hW => ⟨⟨(-1), (φ, ψ, σ), rfl, ⟨hI, hF, trivial⟩, wEn_of hP (hK.sub [] rfl) hD ht hW⟩, hS.F ht⟩) hS.2.2 dX11_planned_21
  · have tc4_ := (show z1_.toInt ≠ 0 from ti_ne rfl rg_11 c4_)
    exfalso; omega
def ow_v_plannedM : List Cond := [.fieldLink RX11 33 "NearEnough" "sheets" "LNearEnough$Sheets;"]
def vs_v_plannedM : List Cond := .code yX11_planned cX11_planned 5 (some .int) :: (ow_v_plannedM ++ (([.methodLink RX11 357 yX11_canPlan, .instanceMethod yX11_canPlan, .selects RX11 yX11_canPlan yX11_canPlan, .initialized RX11] : List Cond) ++ (vs_k_canPlan ++ (([.methodLink RX11 167 yX7_has, .instanceMethod yX7_has, .selects RX7 yX7_has yX7_has, .initialized RX7] : List Cond) ++ (vs_k_hasN ++ (wsX110))))))
theorem vg_v_plannedM : vs_v_plannedM.all goodWord = true := by decide +kernel
theorem dd_v_plannedM : yX11_planned.cls = RX11 ∧ yX11_planned.cls ≠ "java/lang/invoke/MethodHandle" ∧ yX11_planned.cls ≠ "java/lang/invoke/VarHandle" ∧ (parseMethodDescriptor yX11_planned.desc).map (fun d => d.parameters.length) = some 3 := by decide +kernel
def rm_v_plannedM : Room := { frames := 2, cells := 0, slots := 0, locals := 43 }
theorem gd_v_plannedM_357_k_canPlan : GoodIn vs_v_plannedM (wsV RX11 357 RX11 yX11_canPlan vs_k_canPlan) := goodIn_app (goodIn_sub (fun w h => (List.mem_cons_of_mem _ (List.mem_append_right _ (List.mem_append_left _ h)))) (by decide +kernel)) (goodIn_sub (fun w h => (List.mem_cons_of_mem _ (List.mem_append_right _ (List.mem_append_right _ (List.mem_append_left _ h))))) vg_k_canPlan)
theorem gd_v_plannedM_167_k_hasN : GoodIn vs_v_plannedM (wsV RX11 167 RX7 yX7_has vs_k_hasN) := goodIn_app (goodIn_sub (fun w h => (List.mem_cons_of_mem _ (List.mem_append_right _ (List.mem_append_right _ (List.mem_append_right _ (List.mem_append_left _ h)))))) (by decide +kernel)) (goodIn_sub (fun w h => (List.mem_cons_of_mem _ (List.mem_append_right _ (List.mem_append_right _ (List.mem_append_right _ (List.mem_append_right _ (List.mem_append_left _ h))))))) vg_k_hasN)
set_option maxHeartbeats 4000000 in
set_option maxRecDepth 100000 in
theorem v_plannedM (l : Launch) (dC : Nat → ClassId) (dI : Nat → Nat → Nat) (κ : CE) (sz : Nat) (φ ψ σ : MS) (x : Int32) (y : Int32) (z : Int32) (hk : PInv κ) (hI : CInv σ) (hF : FInv φ) (hs : ¬ (0 ≤ z.toInt ∧ z.toInt < (σ.1 12).toInt)) : Met l yX11_planned vs_v_plannedM rm_v_plannedM (va_Pc [.ref (kA κ 0), .int x, .int y, .int z] (wSy dC dI (xW κ (xX κ φ ψ) σ) (tT κ) sz)) (va_Qi (fun (r : Int32) (u : MS × MS × MS) => CInv u.2.2 ∧ FInv u.1 ∧ True) (fun (u : MS × MS × MS) => wEn dC dI (va_A (xW κ (xX κ φ ψ) σ) sz) (xW κ (xX κ u.1 u.2.1) u.2.2) []) (va_A (xW κ (xX κ φ ψ) σ) sz)) 0 0 (va_A (xW κ (xX κ φ ψ) σ) sz) := by
  refine Met.ofW (cc := cX11_planned) (maxL := 5) (ret := (some .int)) (by decide +kernel) rfl ?_
  intro p e s m args below meth c s₁ B hml hv
  obtain ⟨rfl, hsz, hP, hK, hD0, hE⟩ := hv
  have hx := B.exec
  have hb := B.bytes
  have hr := B.returns
  have hts := atoms_spec (ws := vs_v_plannedM) B.pre
  have hown : s.vm.findClass RX11 = some m.cls := findClass_of_methodNamed B.named
  have hlocks := B.notSynchronized
  subst hsz
  have hD := hD0.self (sz := s.heap.size)
  generalize hAe : va_A (xW κ (xX κ φ ψ) σ) s.heap.size = A at hD ⊢
  have hA : ∀ q : Nat, s.heap.size ≤ q → A q := fun q h => by rw [← hAe]; exact Or.inr h
  have hl := lv_entry ([.ref (kA κ 0), .int x, .int y, .int z]) (n := 5) (Nat.le_of_ble_eq_true rfl)
  rw [lg_entry_eq]
  generalize (lg_sl ([.ref (kA κ 0), .int x, .int y, .int z]) ++ List.replicate (5 - (lg_sl ([.ref (kA κ 0), .int x, .int y, .int z])).length) Slot.unset).toArray = ls at hl ⊢
  have hl : lv_has ls 5 [(0, .ref (kA κ 0)), (1, .int x), (2, .int y), (3, .int z)] := hl
  have ho := fun w (h : w ∈ ow_v_plannedM) => hts w (List.mem_cons_of_mem _ (List.mem_append_left _ h))
  have hin11 : ∀ w ∈ u_ws RX11 TX11 17, w ∈ vs_v_plannedM := fun w h => (List.mem_cons_of_mem _ (List.mem_append_right _ (List.mem_append_right _ (List.mem_append_right _ (List.mem_append_right _ (List.mem_append_right _ h))))))
  refine zQ (fun Q hQ => ?_)
  refine zH (A := A) (ws := (xW κ (xX κ φ ψ) σ)) (fun H hP hS => ?_) hP
  have hk0 := hk.1
  have hk1 := hk.2.1
  have hk2 := hk.2.2.1
  have hKc : va_K (dC, dI) vwCl (cT κ) s := hK.sub [0, 1, 2, 3, 4, 5, 6, 7, 8, 9, 10, 11, 12, 13, 14, 15, 16, 17, 18, 19, 20] rfl
  refine lv_aload_n hx hb dX11_planned_0 rfl (lv_at hl 0 rfl) ?_
  refine lv_iload_n hx hb dX11_planned_1 rfl (lv_at hl 1 rfl) ?_
  refine lv_iload_n hx hb dX11_planned_2 rfl (lv_at hl 2 rfl) ?_
  refine zy_i (va_runV (As := [.int x, .int y]) (rest := []) ⟨hx, hb, hml, hown, hts⟩ (k_canPlan l dC dI (ky κ (xX κ φ ψ)) H.size σ x y hk hI ) (cwV 2 hts gd_v_plannedM_357_k_canPlan rfl rfl rfl dd_k_canPlan ⟨Nat.le_of_ble_eq_true rfl, Nat.le_of_ble_eq_true rfl⟩) (preVy (xcP hP) hKc (xcD hD) hE (ci := 11) (q0 := 0) rfl rfl) rfl rfl hl.1 rfl (lv_room (Nat.le_of_ble_eq_true rfl)) dX11_planned_3 ⟨Nat.le_of_ble_eq_true rfl, Nat.le_of_ble_eq_true rfl⟩) (xcD hD) hS hA (fun z1_ τ2_ H locs hq hP hD hS => ?_)
  obtain ⟨hτ2_, q3_⟩ := hq
  rw [hτ2_] at hP hD
  have hP : va_P (dC, dI) vwCl (xW κ (xX κ φ ψ) σ) H := cxP hP
  have hD : va_D A (xW κ (xX κ φ ψ) σ) := cxD hD
  have q3_ : (z1_.toInt = 1 ∧ 0 ≤ x.toInt ∧ x.toInt < (pI κ 2).toInt ∧ 0 ≤ y.toInt ∧ y.toInt ≤ 400) ∨ z1_.toInt = 0 := q3_
  refine W.widen (k := 0) (n := 0) (Nat.le_of_ble_eq_true rfl) (Nat.le_of_ble_eq_true rfl) ?_
  refine lv_if_eq (tgt := 20) hx hb dX11_planned_6 rfl (fun c4_ => ?_) (fun c4_ => ?_)
  · have tc4_ := (show z1_.toInt = 0 from ti_eq rfl rg_11 c4_)
    refine lv_iconst (v := (-1)) hx hb dX11_planned_20 rg_53 ?_
    have kk5_ : ((-1) : Int32).toInt = (-1) := rg_489
    rw [hQ]
    exact W.iret (v := (-1)) hx hb hr (fun t ht hW => ⟨⟨(-1), (φ, ψ, σ), rfl, ⟨hI, hF, trivial⟩, wEn_of hP (hK.sub [] rfl) hD ht hW⟩, hS.F ht⟩) hS.2.2 dX11_planned_21
  · have tc4_ := (show z1_.toInt ≠ 0 from ti_ne rfl rg_11 c4_)
    refine lv_aload_n hx hb dX11_planned_9 rfl (lv_at hl 0 rfl) ?_
    refine va_get (D := (dC, dI)) (ci := 11) (v := .ref (kA κ 12)) (C := RX11) (T := TX11) (N := 17) hx hb hts hin11 hown hK hP 0 rfl rfl 5 (Nat.le_of_ble_eq_true rfl) (ho (.fieldLink RX11 33 "NearEnough" "sheets" "LNearEnough$Sheets;") (List.mem_of_getElem? (i := 0) rfl)) (fun _ h9 => h9) rfl dX11_planned_10 ?_
    refine lv_iload_n hx hb dX11_planned_13 rfl (lv_at hl 3 rfl) ?_
    refine zy_i (va_runV (As := [.int z]) (rest := []) ⟨hx, hb, hml, hown, hts⟩ (k_hasN l dC dI (ky κ (xX κ φ ψ)) H.size σ z hk hI hs) (cwV 1 hts gd_v_plannedM_167_k_hasN rfl rfl rfl dd_k_hasN ⟨Nat.le_of_ble_eq_true rfl, Nat.le_of_ble_eq_true rfl⟩) (preVy (xcP hP) hKc (xcD hD) hE (ci := 7) (q0 := 12) rfl rfl) rfl rfl hl.1 rfl (lv_room (Nat.le_of_ble_eq_true rfl)) dX11_planned_14 ⟨Nat.le_of_ble_eq_true rfl, Nat.le_of_ble_eq_true rfl⟩) (xcD hD) hS hA (fun z6_ τ7_ H locs hq hP hD hS => ?_)
    obtain ⟨hτ7_, q8_⟩ := hq
    rw [hτ7_] at hP hD
    have hP : va_P (dC, dI) vwCl (xW κ (xX κ φ ψ) σ) H := cxP hP
    have hD : va_D A (xW κ (xX κ φ ψ) σ) := cxD hD
    have q8_ : z6_.toInt = 0 := q8_
    refine W.widen (k := 0) (n := 0) (Nat.le_of_ble_eq_true rfl) (Nat.le_of_ble_eq_true rfl) ?_
    refine lv_if_ne (tgt := 22) hx hb dX11_planned_17 rfl (fun c9_ => ?_) (fun c9_ => ?_)
    · have tc9_ := (show z6_.toInt ≠ 0 from ti_ne rfl rg_11 c9_)
      exfalso; omega
    · have tc9_ := (show z6_.toInt = 0 from ti_eq rfl rg_11 c9_)
      refine lv_iconst (v := (-1)) hx hb dX11_planned_20 rg_53 ?_
      have kk10_ : ((-1) : Int32).toInt = (-1) := rg_489
      rw [hQ]
      exact W.iret (v := (-1)) hx hb hr (fun t ht hW => ⟨⟨(-1), (φ, ψ, σ), rfl, ⟨hI, hF, trivial⟩, wEn_of hP (hK.sub [] rfl) hD ht hW⟩, hS.F ht⟩) hS.2.2 dX11_planned_21
def ow_t_plan : List Cond := []
def vs_t_plan : List Cond := .code yX11_plan cX11_plan 4 (some .int) :: (ow_t_plan ++ (([.methodLink RX11 357 yX11_canPlan, .instanceMethod yX11_canPlan, .selects RX11 yX11_canPlan yX11_canPlan, .initialized RX11] : List Cond) ++ (vs_k_canPlanY ++ (([.methodLink RX11 360 yX11_madePlan, .instanceMethod yX11_madePlan, .selects RX11 yX11_madePlan yX11_madePlan, .initialized RX11] : List Cond) ++ (vs_t_madeP ++ (([.methodLink RX11 364 yX2_prepare, .instanceMethod yX2_prepare, .selects RX2 yX2_prepare yX2_prepare, .initialized RX2] : List Cond) ++ (vs_p_prepare ++ (([.methodLink RX11 367 yX2_savesFor, .instanceMethod yX2_savesFor, .selects RX2 yX2_savesFor yX2_savesFor, .initialized RX2] : List Cond) ++ (vs_p_savesFor)))))))))
theorem vg_t_plan : vs_t_plan.all goodWord = true := by decide +kernel
theorem dd_t_plan : yX11_plan.cls = RX11 ∧ yX11_plan.cls ≠ "java/lang/invoke/MethodHandle" ∧ yX11_plan.cls ≠ "java/lang/invoke/VarHandle" ∧ (parseMethodDescriptor yX11_plan.desc).map (fun d => d.parameters.length) = some 2 := by decide +kernel
def rm_t_plan : Room := { frames := 7, cells := 3, slots := 32489, locals := 185 }
theorem gd_t_plan_357_k_canPlanY : GoodIn vs_t_plan (wsV RX11 357 RX11 yX11_canPlan vs_k_canPlanY) := goodIn_app (goodIn_sub (fun w h => (List.mem_cons_of_mem _ (List.mem_append_right _ (List.mem_append_left _ h)))) (by decide +kernel)) (goodIn_sub (fun w h => (List.mem_cons_of_mem _ (List.mem_append_right _ (List.mem_append_right _ (List.mem_append_left _ h))))) vg_k_canPlanY)
theorem gd_t_plan_360_t_madeP : GoodIn vs_t_plan (wsV RX11 360 RX11 yX11_madePlan vs_t_madeP) := goodIn_app (goodIn_sub (fun w h => (List.mem_cons_of_mem _ (List.mem_append_right _ (List.mem_append_right _ (List.mem_append_right _ (List.mem_append_left _ h)))))) (by decide +kernel)) (goodIn_sub (fun w h => (List.mem_cons_of_mem _ (List.mem_append_right _ (List.mem_append_right _ (List.mem_append_right _ (List.mem_append_right _ (List.mem_append_left _ h))))))) vg_t_madeP)
theorem gd_t_plan_364_p_prepare : GoodIn vs_t_plan (wsV RX11 364 RX2 yX2_prepare vs_p_prepare) := goodIn_app (goodIn_sub (fun w h => (List.mem_cons_of_mem _ (List.mem_append_right _ (List.mem_append_right _ (List.mem_append_right _ (List.mem_append_right _ (List.mem_append_right _ (List.mem_append_left _ h)))))))) (by decide +kernel)) (goodIn_sub (fun w h => (List.mem_cons_of_mem _ (List.mem_append_right _ (List.mem_append_right _ (List.mem_append_right _ (List.mem_append_right _ (List.mem_append_right _ (List.mem_append_right _ (List.mem_append_left _ h))))))))) vg_p_prepare)
theorem gd_t_plan_367_p_savesFor : GoodIn vs_t_plan (wsV RX11 367 RX2 yX2_savesFor vs_p_savesFor) := goodIn_app (goodIn_sub (fun w h => (List.mem_cons_of_mem _ (List.mem_append_right _ (List.mem_append_right _ (List.mem_append_right _ (List.mem_append_right _ (List.mem_append_right _ (List.mem_append_right _ (List.mem_append_right _ (List.mem_append_left _ h)))))))))) (by decide +kernel)) (goodIn_sub (fun w h => (List.mem_cons_of_mem _ (List.mem_append_right _ (List.mem_append_right _ (List.mem_append_right _ (List.mem_append_right _ (List.mem_append_right _ (List.mem_append_right _ (List.mem_append_right _ (List.mem_append_right _ h)))))))))) vg_p_savesFor)
set_option maxHeartbeats 4000000 in
set_option maxRecDepth 100000 in
theorem t_plan (l : Launch) (dC : Nat → ClassId) (dI : Nat → Nat → Nat) (κ : CE) (sz : Nat) (φ ψ σ : MS) (x : Int32) (y : Int32) (hk : PInv κ) (hI : CInv σ) (hF : FInv φ) (he : kP κ = none) (hn : 0 ≤ x.toInt ∧ x.toInt < (pI κ 2).toInt ∧ 0 ≤ y.toInt ∧ y.toInt ≤ 400) : Met l yX11_plan vs_t_plan rm_t_plan (va_Pc [.ref (kA κ 0), .int x, .int y] (wSy dC dI (xW κ (xX κ φ ψ) σ) (tT κ) sz)) (va_Qi (fun (r : Int32) (u : CE × MS × MS × MS) => PInv u.1 ∧ CInv u.2.2.2 ∧ FInv u.2.1 ∧ kA u.1 0 = kA κ 0 ∧ (kE u.1 = kE κ ∧ ∃ a9, kP u.1 = some a9)) (fun (u : CE × MS × MS × MS) => wEn dC dI (va_A (xW κ (xX κ φ ψ) σ) sz) (xW u.1 (xX u.1 u.2.1 u.2.2.1) u.2.2.2) (tT u.1)) (va_A (xW κ (xX κ φ ψ) σ) sz)) 3 32489 (va_A (xW κ (xX κ φ ψ) σ) sz) := by
  refine Met.ofW (cc := cX11_plan) (maxL := 4) (ret := (some .int)) (by decide +kernel) rfl ?_
  intro p e s m args below meth c s₁ B hml hv
  obtain ⟨rfl, hsz, hP, hK, hD0, hE⟩ := hv
  have hx := B.exec
  have hb := B.bytes
  have hr := B.returns
  have hts := atoms_spec (ws := vs_t_plan) B.pre
  have hown : s.vm.findClass RX11 = some m.cls := findClass_of_methodNamed B.named
  have hlocks := B.notSynchronized
  subst hsz
  have hD := hD0.self (sz := s.heap.size)
  generalize hAe : va_A (xW κ (xX κ φ ψ) σ) s.heap.size = A at hD ⊢
  have hA : ∀ q : Nat, s.heap.size ≤ q → A q := fun q h => by rw [← hAe]; exact Or.inr h
  have hl := lv_entry ([.ref (kA κ 0), .int x, .int y]) (n := 4) (Nat.le_of_ble_eq_true rfl)
  rw [lg_entry_eq]
  generalize (lg_sl ([.ref (kA κ 0), .int x, .int y]) ++ List.replicate (4 - (lg_sl ([.ref (kA κ 0), .int x, .int y])).length) Slot.unset).toArray = ls at hl ⊢
  have hl : lv_has ls 4 [(0, .ref (kA κ 0)), (1, .int x), (2, .int y)] := hl
  have ho := fun w (h : w ∈ ow_t_plan) => hts w (List.mem_cons_of_mem _ (List.mem_append_left _ h))
  refine zQ (fun Q hQ => ?_)
  refine zH (A := A) (ws := (xW κ (xX κ φ ψ) σ)) (fun H hP hS => ?_) hP
  have hk0 := hk.1
  have hk1 := hk.2.1
  have hk2 := hk.2.2.1
  have hKc : va_K (dC, dI) vwCl (cT κ) s := hK.sub [0, 1, 2, 3, 4, 5, 6, 7, 8, 9, 10, 11, 12, 13, 14, 15, 16, 17, 18, 19, 20] rfl
  refine lv_aload_n hx hb dX11_plan_0 rfl (lv_at hl 0 rfl) ?_
  refine lv_iload_n hx hb dX11_plan_1 rfl (lv_at hl 1 rfl) ?_
  refine lv_iload_n hx hb dX11_plan_2 rfl (lv_at hl 2 rfl) ?_
  have o1 : 0 ≤ x.toInt := by omega
  have o2 : x.toInt < (pI κ 2).toInt := by omega
  have o3 : 0 ≤ y.toInt := by omega
  have o4 : y.toInt ≤ 400 := by omega
  refine zy_i (va_runV (As := [.int x, .int y]) (rest := []) ⟨hx, hb, hml, hown, hts⟩ (k_canPlanY l dC dI (ky κ (xX κ φ ψ)) H.size σ x y hk hI ⟨o1, o2, o3, o4⟩) (cwV 2 hts gd_t_plan_357_k_canPlanY rfl rfl rfl dd_k_canPlanY ⟨Nat.le_of_ble_eq_true rfl, Nat.le_of_ble_eq_true rfl⟩) (preVy (xcP hP) hKc (xcD hD) hE (ci := 11) (q0 := 0) rfl rfl) rfl rfl hl.1 rfl (lv_room (Nat.le_of_ble_eq_true rfl)) dX11_plan_3 ⟨Nat.le_of_ble_eq_true rfl, Nat.le_of_ble_eq_true rfl⟩) (xcD hD) hS hA (fun z1_ τ2_ H locs hq hP hD hS => ?_)
  obtain ⟨hτ2_, q3_⟩ := hq
  rw [hτ2_] at hP hD
  have hP : va_P (dC, dI) vwCl (xW κ (xX κ φ ψ) σ) H := cxP hP
  have hD : va_D A (xW κ (xX κ φ ψ) σ) := cxD hD
  have q3_ : z1_.toInt = 1 := q3_
  refine W.widen (k := 0) (n := 0) (Nat.le_of_ble_eq_true rfl) (Nat.le_of_ble_eq_true rfl) ?_
  refine lv_if_ne (tgt := 11) hx hb dX11_plan_6 rfl (fun c4_ => ?_) (fun c4_ => ?_)
  · have tc4_ := (show z1_.toInt ≠ 0 from ti_ne rfl rg_11 c4_)
    refine lv_aload_n hx hb dX11_plan_11 rfl (lv_at hl 0 rfl) ?_
    refine zk_q (va_runV (As := []) (rest := []) ⟨hx, hb, hml, hown, hts⟩ (t_madeP l dC dI κ H.size φ ψ σ  hk hI hF he) (cwV 0 hts gd_t_plan_360_t_madeP rfl rfl rfl dd_t_madeP ⟨Nat.le_of_ble_eq_true rfl, Nat.le_of_ble_eq_true rfl⟩) (preVy hP hK hD hE (ci := 11) (q0 := 0) rfl rfl) rfl rfl hl.1 rfl (lv_room (Nat.le_of_ble_eq_true rfl)) dX11_plan_12 ⟨Nat.le_of_ble_eq_true rfl, Nat.le_of_ble_eq_true rfl⟩) hD hS hA (fun z5_ τ6_ H locs hq hKn_ hP hD hS => ?_)
    obtain ⟨κ8_, φ9_, ψ10_, τ11_⟩ := τ6_
    obtain ⟨hkκ8_, hτ11_, hφ9_, haκ8_, q7_⟩ := hq
    have hP : va_P (dC, dI) vwCl (xW κ8_ (xX κ8_ φ9_ ψ10_) τ11_) H := hP
    have hD : va_D A (xW κ8_ (xX κ8_ φ9_ ψ10_) τ11_) := hD
    have hK : va_K (dC, dI) vwCl (tT κ8_) s := hKn_
    have hKc : va_K (dC, dI) vwCl (cT κ8_) s := hK.sub [0, 1, 2, 3, 4, 5, 6, 7, 8, 9, 10, 11, 12, 13, 14, 15, 16, 17, 18, 19, 20] rfl
    refine W.widen (k := 3) (n := 32489) (Nat.le_of_ble_eq_true rfl) (Nat.le_of_ble_eq_true rfl) ?_
    obtain ⟨e12_, e13_, e14_, e15_, e16_⟩ := q7_
    refine zv (v := .ref e15_) (by rw [e12_, e16_]; rfl) ?_
    have pp17_ : (pI κ8_ 0).toInt = (pI κ 0).toInt := by rw [e14_]
    have pp18_ : (pI κ8_ 1).toInt = (pI κ 1).toInt := by rw [e14_]
    have pp19_ : (pI κ8_ 2).toInt = (pI κ 2).toInt := by rw [e14_]
    have hk1h20_ := hkκ8_.2.1
    refine lv_astore_n (lv' := [(3, .ref e15_), (0, .ref (kA κ 0)), (1, .int x), (2, .int y)]) hx hb dX11_plan_15 rfl hl (Nat.le_of_ble_eq_true rfl) rfl (fun ls hl => ?_)
    refine lv_aload_n hx hb dX11_plan_16 rfl (lv_at hl 0 rfl) ?_
    refine lv_iload_n hx hb dX11_plan_17 rfl (lv_at hl 2 rfl) ?_
    have o5 : x.toInt < (pI κ8_ 2).toInt := by omega
    refine zy_v (va_runV (As := [.int x]) (rest := []) ⟨hx, hb, hml, hown, hts⟩ (p_prepare l dC dI κ8_ e15_ (fX κ8_ (kE κ8_) φ9_) H.size ψ10_ τ11_ x hkκ8_ hτ11_ trivial ⟨o1, o5⟩) (cwV 1 hts gd_t_plan_364_p_prepare rfl rfl rfl dd_p_prepare ⟨Nat.le_of_ble_eq_true rfl, Nat.le_of_ble_eq_true rfl⟩) (preVy ((vpP e16_).mp hP) hK ((vpD e16_).mp hD) hE (ci := 2) (q0 := 27) rfl rfl) rfl rfl hl.1 rfl (lv_room (Nat.le_of_ble_eq_true rfl)) dX11_plan_18 ⟨Nat.le_of_ble_eq_true rfl, Nat.le_of_ble_eq_true rfl⟩) ((vpD e16_).mp hD) hS hA (fun τ22_ H locs hq hP hD hS => ?_)
    obtain ⟨φ24_, τ25_⟩ := τ22_
    obtain ⟨hτ25_, hφ24_, q23_⟩ := hq
    have hP : va_P (dC, dI) vwCl (xW κ8_ (xX κ8_ φ9_ φ24_) τ25_) H := (vpP e16_).mpr hP
    have hD : va_D A (xW κ8_ (xX κ8_ φ9_ φ24_) τ25_) := (vpD e16_).mpr hD
    refine W.widen (k := 3) (n := 32489) (Nat.le_of_ble_eq_true rfl) (Nat.le_of_ble_eq_true rfl) ?_
    refine lv_aload_n hx hb dX11_plan_21 rfl (lv_at hl 0 rfl) ?_
    refine lv_iload_n hx hb dX11_plan_22 rfl (lv_at hl 3 rfl) ?_
    refine zy_i (va_runV (As := [.int y]) (rest := []) ⟨hx, hb, hml, hown, hts⟩ (p_savesFor l dC dI κ8_ e15_ (fX κ8_ (kE κ8_) φ9_) H.size φ24_ τ25_ y hkκ8_ hτ25_ trivial ⟨o3, o4⟩) (cwV 1 hts gd_t_plan_367_p_savesFor rfl rfl rfl dd_p_savesFor ⟨Nat.le_of_ble_eq_true rfl, Nat.le_of_ble_eq_true rfl⟩) (preVy ((vpP e16_).mp hP) hK ((vpD e16_).mp hD) hE (ci := 2) (q0 := 27) rfl rfl) rfl rfl hl.1 rfl (lv_room (Nat.le_of_ble_eq_true rfl)) dX11_plan_23 ⟨Nat.le_of_ble_eq_true rfl, Nat.le_of_ble_eq_true rfl⟩) ((vpD e16_).mp hD) hS hA (fun z26_ τ27_ H locs hq hP hD hS => ?_)
    obtain ⟨hτ27_, q28_⟩ := hq
    rw [hτ27_] at hP hD
    have hP : va_P (dC, dI) vwCl (xW κ8_ (xX κ8_ φ9_ φ24_) τ25_) H := (vpP e16_).mpr hP
    have hD : va_D A (xW κ8_ (xX κ8_ φ9_ φ24_) τ25_) := (vpD e16_).mpr hD
    refine W.widen (k := 3) (n := 32489) (Nat.le_of_ble_eq_true rfl) (Nat.le_of_ble_eq_true rfl) ?_
    refine W.widen (k := 3) (n := 32489) (Nat.le_of_ble_eq_true rfl) (Nat.le_of_ble_eq_true rfl) ?_
    rw [hQ]
    exact W.iret (v := z26_) hx hb hr (fun t ht hW => ⟨⟨z26_, (κ8_, φ9_, φ24_, τ25_), rfl, ⟨hkκ8_, hτ25_, hφ9_, haκ8_, ⟨e13_, ⟨_, e16_⟩⟩⟩, wEn_of hP hK hD ht hW⟩, hS.F ht⟩) hS.2.2 dX11_plan_26
  · have tc4_ := (show z1_.toInt = 0 from ti_eq rfl rg_11 c4_)
    exfalso; omega
def ow_t_planned : List Cond := [.fieldLink RX11 33 "NearEnough" "sheets" "LNearEnough$Sheets;"]
def vs_t_planned : List Cond := .code yX11_planned cX11_planned 5 (some .int) :: (ow_t_planned ++ (([.methodLink RX11 357 yX11_canPlan, .instanceMethod yX11_canPlan, .selects RX11 yX11_canPlan yX11_canPlan, .initialized RX11] : List Cond) ++ (vs_k_canPlanY ++ (([.methodLink RX11 167 yX7_has, .instanceMethod yX7_has, .selects RX7 yX7_has yX7_has, .initialized RX7] : List Cond) ++ (vs_k_hasY ++ (([.methodLink RX11 360 yX11_madePlan, .instanceMethod yX11_madePlan, .selects RX11 yX11_madePlan yX11_madePlan, .initialized RX11] : List Cond) ++ (vs_t_madeP ++ (([.methodLink RX11 364 yX2_prepare, .instanceMethod yX2_prepare, .selects RX2 yX2_prepare yX2_prepare, .initialized RX2] : List Cond) ++ (vs_p_prepare ++ (([.methodLink RX11 370 yX2_choiceFor, .instanceMethod yX2_choiceFor, .selects RX2 yX2_choiceFor yX2_choiceFor, .initialized RX2] : List Cond) ++ (vs_p_choiceFor ++ (wsX110))))))))))))
theorem vg_t_planned : vs_t_planned.all goodWord = true := by decide +kernel
theorem dd_t_planned : yX11_planned.cls = RX11 ∧ yX11_planned.cls ≠ "java/lang/invoke/MethodHandle" ∧ yX11_planned.cls ≠ "java/lang/invoke/VarHandle" ∧ (parseMethodDescriptor yX11_planned.desc).map (fun d => d.parameters.length) = some 3 := by decide +kernel
def rm_t_planned : Room := { frames := 7, cells := 3, slots := 32489, locals := 185 }
theorem gd_t_planned_357_k_canPlanY : GoodIn vs_t_planned (wsV RX11 357 RX11 yX11_canPlan vs_k_canPlanY) := goodIn_app (goodIn_sub (fun w h => (List.mem_cons_of_mem _ (List.mem_append_right _ (List.mem_append_left _ h)))) (by decide +kernel)) (goodIn_sub (fun w h => (List.mem_cons_of_mem _ (List.mem_append_right _ (List.mem_append_right _ (List.mem_append_left _ h))))) vg_k_canPlanY)
theorem gd_t_planned_167_k_hasY : GoodIn vs_t_planned (wsV RX11 167 RX7 yX7_has vs_k_hasY) := goodIn_app (goodIn_sub (fun w h => (List.mem_cons_of_mem _ (List.mem_append_right _ (List.mem_append_right _ (List.mem_append_right _ (List.mem_append_left _ h)))))) (by decide +kernel)) (goodIn_sub (fun w h => (List.mem_cons_of_mem _ (List.mem_append_right _ (List.mem_append_right _ (List.mem_append_right _ (List.mem_append_right _ (List.mem_append_left _ h))))))) vg_k_hasY)
theorem gd_t_planned_360_t_madeP : GoodIn vs_t_planned (wsV RX11 360 RX11 yX11_madePlan vs_t_madeP) := goodIn_app (goodIn_sub (fun w h => (List.mem_cons_of_mem _ (List.mem_append_right _ (List.mem_append_right _ (List.mem_append_right _ (List.mem_append_right _ (List.mem_append_right _ (List.mem_append_left _ h)))))))) (by decide +kernel)) (goodIn_sub (fun w h => (List.mem_cons_of_mem _ (List.mem_append_right _ (List.mem_append_right _ (List.mem_append_right _ (List.mem_append_right _ (List.mem_append_right _ (List.mem_append_right _ (List.mem_append_left _ h))))))))) vg_t_madeP)
theorem gd_t_planned_364_p_prepare : GoodIn vs_t_planned (wsV RX11 364 RX2 yX2_prepare vs_p_prepare) := goodIn_app (goodIn_sub (fun w h => (List.mem_cons_of_mem _ (List.mem_append_right _ (List.mem_append_right _ (List.mem_append_right _ (List.mem_append_right _ (List.mem_append_right _ (List.mem_append_right _ (List.mem_append_right _ (List.mem_append_left _ h)))))))))) (by decide +kernel)) (goodIn_sub (fun w h => (List.mem_cons_of_mem _ (List.mem_append_right _ (List.mem_append_right _ (List.mem_append_right _ (List.mem_append_right _ (List.mem_append_right _ (List.mem_append_right _ (List.mem_append_right _ (List.mem_append_right _ (List.mem_append_left _ h))))))))))) vg_p_prepare)
theorem gd_t_planned_370_p_choiceFor : GoodIn vs_t_planned (wsV RX11 370 RX2 yX2_choiceFor vs_p_choiceFor) := goodIn_app (goodIn_sub (fun w h => (List.mem_cons_of_mem _ (List.mem_append_right _ (List.mem_append_right _ (List.mem_append_right _ (List.mem_append_right _ (List.mem_append_right _ (List.mem_append_right _ (List.mem_append_right _ (List.mem_append_right _ (List.mem_append_right _ (List.mem_append_left _ h)))))))))))) (by decide +kernel)) (goodIn_sub (fun w h => (List.mem_cons_of_mem _ (List.mem_append_right _ (List.mem_append_right _ (List.mem_append_right _ (List.mem_append_right _ (List.mem_append_right _ (List.mem_append_right _ (List.mem_append_right _ (List.mem_append_right _ (List.mem_append_right _ (List.mem_append_right _ (List.mem_append_left _ h))))))))))))) vg_p_choiceFor)
set_option maxHeartbeats 4000000 in
set_option maxRecDepth 100000 in
theorem t_planned (l : Launch) (dC : Nat → ClassId) (dI : Nat → Nat → Nat) (κ : CE) (sz : Nat) (φ ψ σ : MS) (x : Int32) (y : Int32) (z : Int32) (hk : PInv κ) (hI : CInv σ) (hF : FInv φ) (he : kP κ = none) (hn : 0 ≤ x.toInt ∧ x.toInt < (pI κ 2).toInt ∧ 0 ≤ y.toInt ∧ y.toInt ≤ 400) (hs : 0 ≤ z.toInt ∧ z.toInt < (σ.1 12).toInt) : Met l yX11_planned vs_t_planned rm_t_planned (va_Pc [.ref (kA κ 0), .int x, .int y, .int z] (wSy dC dI (xW κ (xX κ φ ψ) σ) (tT κ) sz)) (va_Qi (fun (r : Int32) (u : CE × MS × MS × MS) => PInv u.1 ∧ CInv u.2.2.2 ∧ FInv u.2.1 ∧ kA u.1 0 = kA κ 0 ∧ (kE u.1 = kE κ ∧ ∃ a9, kP u.1 = some a9)) (fun (u : CE × MS × MS × MS) => wEn dC dI (va_A (xW κ (xX κ φ ψ) σ) sz) (xW u.1 (xX u.1 u.2.1 u.2.2.1) u.2.2.2) (tT u.1)) (va_A (xW κ (xX κ φ ψ) σ) sz)) 3 32489 (va_A (xW κ (xX κ φ ψ) σ) sz) := by
  refine Met.ofW (cc := cX11_planned) (maxL := 5) (ret := (some .int)) (by decide +kernel) rfl ?_
  intro p e s m args below meth c s₁ B hml hv
  obtain ⟨rfl, hsz, hP, hK, hD0, hE⟩ := hv
  have hx := B.exec
  have hb := B.bytes
  have hr := B.returns
  have hts := atoms_spec (ws := vs_t_planned) B.pre
  have hown : s.vm.findClass RX11 = some m.cls := findClass_of_methodNamed B.named
  have hlocks := B.notSynchronized
  subst hsz
  have hD := hD0.self (sz := s.heap.size)
  generalize hAe : va_A (xW κ (xX κ φ ψ) σ) s.heap.size = A at hD ⊢
  have hA : ∀ q : Nat, s.heap.size ≤ q → A q := fun q h => by rw [← hAe]; exact Or.inr h
  have hl := lv_entry ([.ref (kA κ 0), .int x, .int y, .int z]) (n := 5) (Nat.le_of_ble_eq_true rfl)
  rw [lg_entry_eq]
  generalize (lg_sl ([.ref (kA κ 0), .int x, .int y, .int z]) ++ List.replicate (5 - (lg_sl ([.ref (kA κ 0), .int x, .int y, .int z])).length) Slot.unset).toArray = ls at hl ⊢
  have hl : lv_has ls 5 [(0, .ref (kA κ 0)), (1, .int x), (2, .int y), (3, .int z)] := hl
  have ho := fun w (h : w ∈ ow_t_planned) => hts w (List.mem_cons_of_mem _ (List.mem_append_left _ h))
  have hin11 : ∀ w ∈ u_ws RX11 TX11 17, w ∈ vs_t_planned := fun w h => (List.mem_cons_of_mem _ (List.mem_append_right _ (List.mem_append_right _ (List.mem_append_right _ (List.mem_append_right _ (List.mem_append_right _ (List.mem_append_right _ (List.mem_append_right _ (List.mem_append_right _ (List.mem_append_right _ (List.mem_append_right _ (List.mem_append_right _ h))))))))))))
  refine zQ (fun Q hQ => ?_)
  refine zH (A := A) (ws := (xW κ (xX κ φ ψ) σ)) (fun H hP hS => ?_) hP
  have hk0 := hk.1
  have hk1 := hk.2.1
  have hk2 := hk.2.2.1
  have hKc : va_K (dC, dI) vwCl (cT κ) s := hK.sub [0, 1, 2, 3, 4, 5, 6, 7, 8, 9, 10, 11, 12, 13, 14, 15, 16, 17, 18, 19, 20] rfl
  have bσ_12 : 0 ≤ (σ.1 12).toInt ∧ (σ.1 12).toInt ≤ 40 := hI.1 12
  refine lv_aload_n hx hb dX11_planned_0 rfl (lv_at hl 0 rfl) ?_
  refine lv_iload_n hx hb dX11_planned_1 rfl (lv_at hl 1 rfl) ?_
  refine lv_iload_n hx hb dX11_planned_2 rfl (lv_at hl 2 rfl) ?_
  have o1 : 0 ≤ x.toInt := by omega
  have o2 : x.toInt < (pI κ 2).toInt := by omega
  have o3 : 0 ≤ y.toInt := by omega
  have o4 : y.toInt ≤ 400 := by omega
  refine zy_i (va_runV (As := [.int x, .int y]) (rest := []) ⟨hx, hb, hml, hown, hts⟩ (k_canPlanY l dC dI (ky κ (xX κ φ ψ)) H.size σ x y hk hI ⟨o1, o2, o3, o4⟩) (cwV 2 hts gd_t_planned_357_k_canPlanY rfl rfl rfl dd_k_canPlanY ⟨Nat.le_of_ble_eq_true rfl, Nat.le_of_ble_eq_true rfl⟩) (preVy (xcP hP) hKc (xcD hD) hE (ci := 11) (q0 := 0) rfl rfl) rfl rfl hl.1 rfl (lv_room (Nat.le_of_ble_eq_true rfl)) dX11_planned_3 ⟨Nat.le_of_ble_eq_true rfl, Nat.le_of_ble_eq_true rfl⟩) (xcD hD) hS hA (fun z1_ τ2_ H locs hq hP hD hS => ?_)
  obtain ⟨hτ2_, q3_⟩ := hq
  rw [hτ2_] at hP hD
  have hP : va_P (dC, dI) vwCl (xW κ (xX κ φ ψ) σ) H := cxP hP
  have hD : va_D A (xW κ (xX κ φ ψ) σ) := cxD hD
  have q3_ : z1_.toInt = 1 := q3_
  refine W.widen (k := 0) (n := 0) (Nat.le_of_ble_eq_true rfl) (Nat.le_of_ble_eq_true rfl) ?_
  refine lv_if_eq (tgt := 20) hx hb dX11_planned_6 rfl (fun c4_ => ?_) (fun c4_ => ?_)
  · have tc4_ := (show z1_.toInt = 0 from ti_eq rfl rg_11 c4_)
    exfalso; omega
  · have tc4_ := (show z1_.toInt ≠ 0 from ti_ne rfl rg_11 c4_)
    refine lv_aload_n hx hb dX11_planned_9 rfl (lv_at hl 0 rfl) ?_
    refine va_get (D := (dC, dI)) (ci := 11) (v := .ref (kA κ 12)) (C := RX11) (T := TX11) (N := 17) hx hb hts hin11 hown hK hP 0 rfl rfl 5 (Nat.le_of_ble_eq_true rfl) (ho (.fieldLink RX11 33 "NearEnough" "sheets" "LNearEnough$Sheets;") (List.mem_of_getElem? (i := 0) rfl)) (fun _ h9 => h9) rfl dX11_planned_10 ?_
    refine lv_iload_n hx hb dX11_planned_13 rfl (lv_at hl 3 rfl) ?_
    have o5 : 0 ≤ z.toInt := by omega
    have o6 : z.toInt < (σ.1 12).toInt := by omega
    refine zy_i (va_runV (As := [.int z]) (rest := []) ⟨hx, hb, hml, hown, hts⟩ (k_hasY l dC dI (ky κ (xX κ φ ψ)) H.size σ z hk hI ⟨o5, o6⟩) (cwV 1 hts gd_t_planned_167_k_hasY rfl rfl rfl dd_k_hasY ⟨Nat.le_of_ble_eq_true rfl, Nat.le_of_ble_eq_true rfl⟩) (preVy (xcP hP) hKc (xcD hD) hE (ci := 7) (q0 := 12) rfl rfl) rfl rfl hl.1 rfl (lv_room (Nat.le_of_ble_eq_true rfl)) dX11_planned_14 ⟨Nat.le_of_ble_eq_true rfl, Nat.le_of_ble_eq_true rfl⟩) (xcD hD) hS hA (fun z5_ τ6_ H locs hq hP hD hS => ?_)
    obtain ⟨hτ6_, q7_⟩ := hq
    rw [hτ6_] at hP hD
    have hP : va_P (dC, dI) vwCl (xW κ (xX κ φ ψ) σ) H := cxP hP
    have hD : va_D A (xW κ (xX κ φ ψ) σ) := cxD hD
    have q7_ : z5_.toInt = 1 := q7_
    refine W.widen (k := 0) (n := 0) (Nat.le_of_ble_eq_true rfl) (Nat.le_of_ble_eq_true rfl) ?_
    refine lv_if_ne (tgt := 22) hx hb dX11_planned_17 rfl (fun c8_ => ?_) (fun c8_ => ?_)
    · have tc8_ := (show z5_.toInt ≠ 0 from ti_ne rfl rg_11 c8_)
      refine lv_aload_n hx hb dX11_planned_22 rfl (lv_at hl 0 rfl) ?_
      refine zk_q (va_runV (As := []) (rest := []) ⟨hx, hb, hml, hown, hts⟩ (t_madeP l dC dI κ H.size φ ψ σ  hk hI hF he) (cwV 0 hts gd_t_planned_360_t_madeP rfl rfl rfl dd_t_madeP ⟨Nat.le_of_ble_eq_true rfl, Nat.le_of_ble_eq_true rfl⟩) (preVy hP hK hD hE (ci := 11) (q0 := 0) rfl rfl) rfl rfl hl.1 rfl (lv_room (Nat.le_of_ble_eq_true rfl)) dX11_planned_23 ⟨Nat.le_of_ble_eq_true rfl, Nat.le_of_ble_eq_true rfl⟩) hD hS hA (fun z9_ τ10_ H locs hq hKn_ hP hD hS => ?_)
      obtain ⟨κ12_, φ13_, ψ14_, τ15_⟩ := τ10_
      obtain ⟨hkκ12_, hτ15_, hφ13_, haκ12_, q11_⟩ := hq
      have hP : va_P (dC, dI) vwCl (xW κ12_ (xX κ12_ φ13_ ψ14_) τ15_) H := hP
      have hD : va_D A (xW κ12_ (xX κ12_ φ13_ ψ14_) τ15_) := hD
      have hK : va_K (dC, dI) vwCl (tT κ12_) s := hKn_
      have hKc : va_K (dC, dI) vwCl (cT κ12_) s := hK.sub [0, 1, 2, 3, 4, 5, 6, 7, 8, 9, 10, 11, 12, 13, 14, 15, 16, 17, 18, 19, 20] rfl
      have bτ15__12 : 0 ≤ (τ15_.1 12).toInt ∧ (τ15_.1 12).toInt ≤ 40 := hτ15_.1 12
      refine W.widen (k := 3) (n := 32489) (Nat.le_of_ble_eq_true rfl) (Nat.le_of_ble_eq_true rfl) ?_
      obtain ⟨e16_, e17_, e18_, e19_, e20_⟩ := q11_
      refine zv (v := .ref e19_) (by rw [e16_, e20_]; rfl) ?_
      have pp21_ : (pI κ12_ 0).toInt = (pI κ 0).toInt := by rw [e18_]
      have pp22_ : (pI κ12_ 1).toInt = (pI κ 1).toInt := by rw [e18_]
      have pp23_ : (pI κ12_ 2).toInt = (pI κ 2).toInt := by rw [e18_]
      have hk1h24_ := hkκ12_.2.1
      refine lv_astore (lv' := [(4, .ref e19_), (0, .ref (kA κ 0)), (1, .int x), (2, .int y), (3, .int z)]) hx hb dX11_planned_26 hl (Nat.le_of_ble_eq_true rfl) rfl (fun ls hl => ?_)
      refine lv_aload hx hb dX11_planned_28 (lv_at hl 0 rfl) ?_
      refine lv_iload_n hx hb dX11_planned_30 rfl (lv_at hl 2 rfl) ?_
      have o7 : x.toInt < (pI κ12_ 2).toInt := by omega
      refine zy_v (va_runV (As := [.int x]) (rest := []) ⟨hx, hb, hml, hown, hts⟩ (p_prepare l dC dI κ12_ e19_ (fX κ12_ (kE κ12_) φ13_) H.size ψ14_ τ15_ x hkκ12_ hτ15_ trivial ⟨o1, o7⟩) (cwV 1 hts gd_t_planned_364_p_prepare rfl rfl rfl dd_p_prepare ⟨Nat.le_of_ble_eq_true rfl, Nat.le_of_ble_eq_true rfl⟩) (preVy ((vpP e20_).mp hP) hK ((vpD e20_).mp hD) hE (ci := 2) (q0 := 27) rfl rfl) rfl rfl hl.1 rfl (lv_room (Nat.le_of_ble_eq_true rfl)) dX11_planned_31 ⟨Nat.le_of_ble_eq_true rfl, Nat.le_of_ble_eq_true rfl⟩) ((vpD e20_).mp hD) hS hA (fun τ26_ H locs hq hP hD hS => ?_)
      obtain ⟨φ28_, τ29_⟩ := τ26_
      obtain ⟨hτ29_, hφ28_, q27_⟩ := hq
      have hP : va_P (dC, dI) vwCl (xW κ12_ (xX κ12_ φ13_ φ28_) τ29_) H := (vpP e20_).mpr hP
      have hD : va_D A (xW κ12_ (xX κ12_ φ13_ φ28_) τ29_) := (vpD e20_).mpr hD
      have bτ29__12 : 0 ≤ (τ29_.1 12).toInt ∧ (τ29_.1 12).toInt ≤ 40 := hτ29_.1 12
      refine W.widen (k := 3) (n := 32489) (Nat.le_of_ble_eq_true rfl) (Nat.le_of_ble_eq_true rfl) ?_
      refine lv_aload hx hb dX11_planned_34 (lv_at hl 0 rfl) ?_
      refine lv_iload_n hx hb dX11_planned_36 rfl (lv_at hl 3 rfl) ?_
      refine lv_iload_n hx hb dX11_planned_37 rfl (lv_at hl 4 rfl) ?_
      have o8 : z.toInt ≤ 39 := by omega
      refine zy_i (va_runV (As := [.int y, .int z]) (rest := []) ⟨hx, hb, hml, hown, hts⟩ (p_choiceFor l dC dI κ12_ e19_ (fX κ12_ (kE κ12_) φ13_) H.size φ28_ τ29_ y z hkκ12_ hτ29_ trivial ⟨o3, o4⟩ ⟨o5, o8⟩) (cwV 2 hts gd_t_planned_370_p_choiceFor rfl rfl rfl dd_p_choiceFor ⟨Nat.le_of_ble_eq_true rfl, Nat.le_of_ble_eq_true rfl⟩) (preVy ((vpP e20_).mp hP) hK ((vpD e20_).mp hD) hE (ci := 2) (q0 := 27) rfl rfl) rfl rfl hl.1 rfl (lv_room (Nat.le_of_ble_eq_true rfl)) dX11_planned_38 ⟨Nat.le_of_ble_eq_true rfl, Nat.le_of_ble_eq_true rfl⟩) ((vpD e20_).mp hD) hS hA (fun z30_ τ31_ H locs hq hP hD hS => ?_)
      obtain ⟨hτ31_, q32_⟩ := hq
      rw [hτ31_] at hP hD
      have hP : va_P (dC, dI) vwCl (xW κ12_ (xX κ12_ φ13_ φ28_) τ29_) H := (vpP e20_).mpr hP
      have hD : va_D A (xW κ12_ (xX κ12_ φ13_ φ28_) τ29_) := (vpD e20_).mpr hD
      have bτ29__12 : 0 ≤ (τ29_.1 12).toInt ∧ (τ29_.1 12).toInt ≤ 40 := hτ29_.1 12
      refine W.widen (k := 3) (n := 32489) (Nat.le_of_ble_eq_true rfl) (Nat.le_of_ble_eq_true rfl) ?_
      refine W.widen (k := 3) (n := 32489) (Nat.le_of_ble_eq_true rfl) (Nat.le_of_ble_eq_true rfl) ?_
      rw [hQ]
      exact W.iret (v := z30_) hx hb hr (fun t ht hW => ⟨⟨z30_, (κ12_, φ13_, φ28_, τ29_), rfl, ⟨hkκ12_, hτ29_, hφ13_, haκ12_, ⟨e17_, ⟨_, e20_⟩⟩⟩, wEn_of hP hK hD ht hW⟩, hS.F ht⟩) hS.2.2 dX11_planned_41
    · have tc8_ := (show z5_.toInt = 0 from ti_eq rfl rg_11 c8_)
      exfalso; omega

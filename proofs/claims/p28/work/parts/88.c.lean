theorem dX9_init_0 : decode cX9_init 0 = .ok (.aload_n 0, 1) := by decide +kernel
theorem dX9_init_1 : decode cX9_init 1 = .ok (.invokespecial 1, 3) := by decide +kernel
theorem dX9_init_4 : decode cX9_init 4 = .ok (.aload_n 0, 1) := by decide +kernel
theorem dX9_init_5 : decode cX9_init 5 = .ok (.aconst_null, 1) := by decide +kernel
theorem dX9_init_6 : decode cX9_init 6 = .ok (.putfield 7, 3) := by decide +kernel
theorem dX9_init_9 : decode cX9_init 9 = .ok (.aload_n 0, 1) := by decide +kernel
theorem dX9_init_10 : decode cX9_init 10 = .ok (.iconst 0, 1) := by decide +kernel
theorem dX9_init_11 : decode cX9_init 11 = .ok (.putfield 13, 3) := by decide +kernel
theorem dX9_init_14 : decode cX9_init 14 = .ok (.aload_n 0, 1) := by decide +kernel
theorem dX9_init_15 : decode cX9_init 15 = .ok (.iconst 0, 1) := by decide +kernel
theorem dX9_init_16 : decode cX9_init 16 = .ok (.putfield 17, 3) := by decide +kernel
theorem dX9_init_19 : decode cX9_init 19 = .ok (.aload_n 0, 1) := by decide +kernel
theorem dX9_init_20 : decode cX9_init 20 = .ok (.iconst 0, 1) := by decide +kernel
theorem dX9_init_21 : decode cX9_init 21 = .ok (.putfield 20, 3) := by decide +kernel
theorem dX9_init_24 : decode cX9_init 24 = .ok (.aload_n 0, 1) := by decide +kernel
theorem dX9_init_25 : decode cX9_init 25 = .ok (.iconst 0, 1) := by decide +kernel
theorem dX9_init_26 : decode cX9_init 26 = .ok (.putfield 23, 3) := by decide +kernel
theorem dX9_init_29 : decode cX9_init 29 = .ok (.aload_n 0, 1) := by decide +kernel
theorem dX9_init_30 : decode cX9_init 30 = .ok (.iconst 0, 1) := by decide +kernel
theorem dX9_init_31 : decode cX9_init 31 = .ok (.putfield 26, 3) := by decide +kernel
theorem dX9_init_34 : decode cX9_init 34 = .ok (.aload_n 0, 1) := by decide +kernel
theorem dX9_init_35 : decode cX9_init 35 = .ok (.iconst 1, 1) := by decide +kernel
theorem dX9_init_36 : decode cX9_init 36 = .ok (.putfield 29, 3) := by decide +kernel
theorem dX9_init_39 : decode cX9_init 39 = .ok (.aload_n 0, 1) := by decide +kernel
theorem dX9_init_40 : decode cX9_init 40 = .ok (.lconst 0, 1) := by decide +kernel
theorem dX9_init_41 : decode cX9_init 41 = .ok (.putfield 32, 3) := by decide +kernel
theorem dX9_init_44 : decode cX9_init 44 = .ok (.aload_n 0, 1) := by decide +kernel
theorem dX9_init_45 : decode cX9_init 45 = .ok (.lconst 0, 1) := by decide +kernel
theorem dX9_init_46 : decode cX9_init 46 = .ok (.putfield 36, 3) := by decide +kernel
theorem dX9_init_49 : decode cX9_init 49 = .ok (.aload_n 0, 1) := by decide +kernel
theorem dX9_init_50 : decode cX9_init 50 = .ok (.iload_n 1, 1) := by decide +kernel
theorem dX9_init_51 : decode cX9_init 51 = .ok (.putfield 39, 3) := by decide +kernel
theorem dX9_init_54 : decode cX9_init 54 = .ok (.aload_n 0, 1) := by decide +kernel
theorem dX9_init_55 : decode cX9_init 55 = .ok (.lload_n 2, 1) := by decide +kernel
theorem dX9_init_56 : decode cX9_init 56 = .ok (.putfield 42, 3) := by decide +kernel
theorem dX9_init_59 : decode cX9_init 59 = .ok (.return_, 1) := by decide +kernel
theorem dX5_init_0 : decode cX5_init 0 = .ok (.aload_n 0, 1) := by decide +kernel
theorem dX5_init_1 : decode cX5_init 1 = .ok (.invokespecial 1, 3) := by decide +kernel
theorem dX5_init_4 : decode cX5_init 4 = .ok (.aload_n 0, 1) := by decide +kernel
theorem dX5_init_5 : decode cX5_init 5 = .ok (.lload_n 1, 1) := by decide +kernel
theorem dX5_init_6 : decode cX5_init 6 = .ok (.putfield 7, 3) := by decide +kernel
theorem dX5_init_9 : decode cX5_init 9 = .ok (.aload_n 0, 1) := by decide +kernel
theorem dX5_init_10 : decode cX5_init 10 = .ok (.iload_n 3, 1) := by decide +kernel
theorem dX5_init_11 : decode cX5_init 11 = .ok (.putfield 13, 3) := by decide +kernel
theorem dX5_init_14 : decode cX5_init 14 = .ok (.aload_n 0, 1) := by decide +kernel
theorem dX5_init_15 : decode cX5_init 15 = .ok (.iload 4, 2) := by decide +kernel
theorem dX5_init_17 : decode cX5_init 17 = .ok (.putfield 17, 3) := by decide +kernel
theorem dX5_init_20 : decode cX5_init 20 = .ok (.aload_n 0, 1) := by decide +kernel
theorem dX5_init_21 : decode cX5_init 21 = .ok (.iload 5, 2) := by decide +kernel
theorem dX5_init_23 : decode cX5_init 23 = .ok (.putfield 20, 3) := by decide +kernel
theorem dX5_init_26 : decode cX5_init 26 = .ok (.aload_n 0, 1) := by decide +kernel
theorem dX5_init_27 : decode cX5_init 27 = .ok (.iload 6, 2) := by decide +kernel
theorem dX5_init_29 : decode cX5_init 29 = .ok (.putfield 23, 3) := by decide +kernel
theorem dX5_init_32 : decode cX5_init 32 = .ok (.return_, 1) := by decide +kernel
theorem dX9_spread_0 : decode cX9_spread 0 = .ok (.aload_n 0, 1) := by decide +kernel
theorem dX9_spread_1 : decode cX9_spread 1 = .ok (.lload_n 1, 1) := by decide +kernel
theorem dX9_spread_2 : decode cX9_spread 2 = .ok (.lload_n 3, 1) := by decide +kernel
theorem dX9_spread_3 : decode cX9_spread 3 = .ok (.invokestatic 45, 3) := by decide +kernel
theorem dX9_spread_6 : decode cX9_spread 6 = .ok (.putfield 32, 3) := by decide +kernel
theorem dX9_spread_9 : decode cX9_spread 9 = .ok (.aload_n 0, 1) := by decide +kernel
theorem dX9_spread_10 : decode cX9_spread 10 = .ok (.lload_n 1, 1) := by decide +kernel
theorem dX9_spread_11 : decode cX9_spread 11 = .ok (.lload_n 3, 1) := by decide +kernel
theorem dX9_spread_12 : decode cX9_spread 12 = .ok (.invokestatic 51, 3) := by decide +kernel
theorem dX9_spread_15 : decode cX9_spread 15 = .ok (.putfield 36, 3) := by decide +kernel
theorem dX9_spread_18 : decode cX9_spread 18 = .ok (.return_, 1) := by decide +kernel

def ow_g_Step : List Cond := [.methodLink RX9 1 objectInit, .instanceMethod objectInit, .code objectInit ⟨#[0xb1]⟩ 1 none, .fieldLink RX9 7 "NearEnough$Step" "row" "LNearEnough$Row;", .fieldLink RX9 13 "NearEnough$Step" "a" "I", .fieldLink RX9 17 "NearEnough$Step" "b" "I", .fieldLink RX9 20 "NearEnough$Step" "under" "I", .fieldLink RX9 23 "NearEnough$Step" "other" "I", .fieldLink RX9 26 "NearEnough$Step" "by" "I", .fieldLink RX9 29 "NearEnough$Step" "over" "I", .fieldLink RX9 32 "NearEnough$Step" "low" "J", .fieldLink RX9 36 "NearEnough$Step" "high" "J", .fieldLink RX9 39 "NearEnough$Step" "kind" "I", .fieldLink RX9 42 "NearEnough$Step" "name" "J"]
def vs_g_Step : List Cond := .code yX9_init cX9_init 4 none :: (ow_g_Step ++ (wsX90))
theorem vg_g_Step : vs_g_Step.all goodWord = true := by decide +kernel
theorem dd_g_Step : yX9_init.cls = RX9 ∧ yX9_init.cls ≠ "java/lang/invoke/MethodHandle" ∧ yX9_init.cls ≠ "java/lang/invoke/VarHandle" ∧ (parseMethodDescriptor yX9_init.desc).map (fun d => d.parameters.length) = some 2 := by decide +kernel
def rm_g_Step : Room := { frames := 1, cells := 0, slots := 0, locals := 24 }
set_option maxHeartbeats 4000000 in
set_option maxRecDepth 100000 in
theorem g_Step (l : Launch) (dC : Nat → ClassId) (dI : Nat → Nat → Nat) (adK adV : Nat → Nat) (κ : CE) (sz : Nat) (σ : MS) (a : Nat) (t_a : TT) (x : Int32) (y : Int64) (ha : a ∈ kL κ) (hk : ∀ t : TT, PInv (ku κ a t)) (hI : RInv σ)  : Met l yX9_init vs_g_Step rm_g_Step (va_Pc [.ref a, .int x, .long y] (wSr dC dI adK adV (rW (ku κ a t_a) σ) (rT κ) sz)) (va_Qv (fun (u : TT × MS) => RInv u.2 ∧ (u.1.1 0 = x ∧ (∀ j, 1 ≤ j → j ≤ 4 → u.1.1 j = 0) ∧ u.1.2.2 = none ∧ u.2 = σ)) (fun (u : TT × MS) => wEn dC dI (va_A (rW (ku κ a t_a) σ) sz) (rW (ku κ a u.1) u.2) []) (va_A (rW (ku κ a t_a) σ) sz)) 0 0 (va_A (rW (ku κ a t_a) σ) sz) := by
  refine Met.ofW (cc := cX9_init) (maxL := 4) (ret := none) (by decide +kernel) rfl ?_
  intro p e s m args below meth c s₁ B hml hv
  obtain ⟨rfl, ⟨hsz, hP, hK, hD0, hE⟩, hZ, hR⟩ := hv
  have hx := B.exec
  have hb := B.bytes
  have hr := B.returns
  have hts := atoms_spec (ws := vs_g_Step) B.pre
  have hown : s.vm.findClass RX9 = some m.cls := findClass_of_methodNamed B.named
  have hlocks := B.notSynchronized
  subst hsz
  have hD := hD0.self (sz := s.heap.size)
  generalize hAe : va_A (rW (ku κ a t_a) σ) s.heap.size = A at hD hZ ⊢
  have hA : ∀ q : Nat, s.heap.size ≤ q → A q := fun q h => by rw [← hAe]; exact Or.inr h
  have hl := lv_entry ([.ref a, .int x, .long y]) (n := 4) (Nat.le_of_ble_eq_true rfl)
  rw [lg_entry_eq]
  generalize (lg_sl ([.ref a, .int x, .long y]) ++ List.replicate (4 - (lg_sl ([.ref a, .int x, .long y])).length) Slot.unset).toArray = ls at hl ⊢
  have hl : lv_has ls 4 [(0, .ref a), (1, .int x), (2, .long y)] := hl
  have ho := fun w (h : w ∈ ow_g_Step) => hts w (List.mem_cons_of_mem _ (List.mem_append_left _ h))
  have hin9 : ∀ w ∈ u_ws RX9 TX9 11, w ∈ vs_g_Step := fun w h => (List.mem_cons_of_mem _ (List.mem_append_right _ h))
  refine zQ (fun Q hQ => ?_)
  refine zH (A := A) (ws := (rW (ku κ a t_a) σ)) (fun H hP hS => ?_) hP
  have hk0 : 0 ≤ (pI κ 0).toInt ∧ (pI κ 0).toInt ≤ 2 := (hk t_a).1
  have hk1 : 0 ≤ (pI κ 1).toInt ∧ (pI κ 1).toInt ≤ 12 := (hk t_a).2.1
  have hk2 : 0 ≤ (pI κ 2).toInt ∧ (pI κ 2).toInt ≤ 4 := (hk t_a).2.2.1
  have hin : meth.name = "<init>" := (name_of_methodNamed B.named B.method).1
  refine lv_aload_n hx hb dX9_init_0 rfl (lv_at hl 0 rfl) ?_
  refine W.objInit hx hb hown (ho (.methodLink RX9 1 objectInit) (List.mem_of_getElem? (i := 0) rfl)) (ho (.instanceMethod objectInit) (List.mem_of_getElem? (i := 1) rfl)) (ho (.code objectInit ⟨#[0xb1]⟩ 1 none) (List.mem_of_getElem? (i := 2) rfl)) rfl (by rw [hml]; exact hl.1) rfl dX9_init_1 (Nat.le_of_ble_eq_true rfl) (Nat.le_of_ble_eq_true rfl) ?_
  refine W.eq (g2 := F0 m 4 ls []) rfl ?_
  refine lv_aload_n hx hb dX9_init_4 rfl (lv_at hl 0 rfl) ?_
  refine lv_null hx hb dX9_init_5 ?_
  obtain ⟨kn1_, hkn1_⟩ := rpl (κ := (ku κ a t_a)) (σ := σ) (a := a) ha kf_self
  have hD2_ := hD
  refine va_put (D := (dC, dI)) (ci := 9) (v := .null) (ty := tyX9 2) (C := RX9) (T := TX9) (N := 11) hx hb hts hin9 tyX9 tyX9_ok nmX9 hown hK hP hD hS kn1_ hkn1_ rfl 2 (Nat.le_of_ble_eq_true rfl) (ho (.fieldLink RX9 7 "NearEnough$Step" "row" "LNearEnough$Row;") (List.mem_of_getElem? (i := 3) rfl)) (fun _ h9 => h9) rfl (tyX9_ok 2 (Nat.le_of_ble_eq_true rfl)) rfl rfl (Nat.le_of_ble_eq_true rfl) dX9_init_6 (fun H locs hP hD hS => ?_)
  obtain ⟨T3_, eT3_⟩ : ∃ x9 : TT, x9 = (t_a.1, t_a.2.1, none) := ⟨_, rfl⟩
  have hP : va_P (dC, dI) vwCl (rW (ku κ a T3_) σ) H := by rw [show (rW (ku κ a T3_) σ) = _ from (rW_kw (e' := .inr (9, stV T3_)) hD2_ ha hkn1_).symm, eT3_]; exact hP
  have hD : va_D A (rW (ku κ a T3_) σ) := by rw [show (rW (ku κ a T3_) σ) = _ from (rW_kw (e' := .inr (9, stV T3_)) hD2_ ha hkn1_).symm, eT3_]; exact hD
  have i4_ : T3_.1 0 = (t_a.1 0) := (congrArg (fun z9 : TT => z9.1 0) eT3_).trans rfl
  have i5_ : T3_.1 1 = (t_a.1 1) := (congrArg (fun z9 : TT => z9.1 1) eT3_).trans rfl
  have i6_ : T3_.1 2 = (t_a.1 2) := (congrArg (fun z9 : TT => z9.1 2) eT3_).trans rfl
  have i7_ : T3_.1 3 = (t_a.1 3) := (congrArg (fun z9 : TT => z9.1 3) eT3_).trans rfl
  have i8_ : T3_.1 4 = (t_a.1 4) := (congrArg (fun z9 : TT => z9.1 4) eT3_).trans rfl
  have i9_ : T3_.2.2 = none := congrArg (fun z9 : TT => z9.2.2) eT3_
  refine lv_aload_n hx hb dX9_init_9 rfl (lv_at hl 0 rfl) ?_
  refine lv_iconst (v := 0) hx hb dX9_init_10 rg_0 ?_
  obtain ⟨kn10_, hkn10_⟩ := rpl (κ := (ku κ a T3_)) (σ := σ) (a := a) ha kf_self
  have hD11_ := hD
  refine va_put (D := (dC, dI)) (ci := 9) (v := .int 0) (ty := tyX9 3) (C := RX9) (T := TX9) (N := 11) hx hb hts hin9 tyX9 tyX9_ok nmX9 hown hK hP hD hS kn10_ hkn10_ rfl 3 (Nat.le_of_ble_eq_true rfl) (ho (.fieldLink RX9 13 "NearEnough$Step" "a" "I") (List.mem_of_getElem? (i := 4) rfl)) (fun _ h9 => h9) rfl (tyX9_ok 3 (Nat.le_of_ble_eq_true rfl)) rfl rfl (Nat.le_of_ble_eq_true rfl) dX9_init_11 (fun H locs hP hD hS => ?_)
  obtain ⟨T12_, eT12_⟩ : ∃ x9 : TT, x9 = (upd T3_.1 1 0, T3_.2.1, T3_.2.2) := ⟨_, rfl⟩
  have hP : va_P (dC, dI) vwCl (rW (ku κ a T12_) σ) H := by rw [show (rW (ku κ a T12_) σ) = _ from (rW_kw (e' := .inr (9, stV T12_)) hD11_ ha hkn10_).symm, eT12_]; exact hP
  have hD : va_D A (rW (ku κ a T12_) σ) := by rw [show (rW (ku κ a T12_) σ) = _ from (rW_kw (e' := .inr (9, stV T12_)) hD11_ ha hkn10_).symm, eT12_]; exact hD
  have i13_ : T12_.1 0 = (t_a.1 0) := (congrArg (fun z9 : TT => z9.1 0) eT12_).trans i4_
  have kk15_ : (0 : Int32).toInt = 0 := rg_11
  have i14_ : T12_.1 1 = (0 : Int32) := congrArg (fun z9 : TT => z9.1 1) eT12_
  have i16_ : T12_.1 2 = (t_a.1 2) := (congrArg (fun z9 : TT => z9.1 2) eT12_).trans i6_
  have i17_ : T12_.1 3 = (t_a.1 3) := (congrArg (fun z9 : TT => z9.1 3) eT12_).trans i7_
  have i18_ : T12_.1 4 = (t_a.1 4) := (congrArg (fun z9 : TT => z9.1 4) eT12_).trans i8_
  have i19_ : T12_.2.2 = none := (congrArg (fun z9 : TT => z9.2.2) eT12_).trans i9_
  refine lv_aload_n hx hb dX9_init_14 rfl (lv_at hl 0 rfl) ?_
  refine lv_iconst (v := 0) hx hb dX9_init_15 rg_0 ?_
  obtain ⟨kn20_, hkn20_⟩ := rpl (κ := (ku κ a T12_)) (σ := σ) (a := a) ha kf_self
  have hD21_ := hD
  refine va_put (D := (dC, dI)) (ci := 9) (v := .int 0) (ty := tyX9 4) (C := RX9) (T := TX9) (N := 11) hx hb hts hin9 tyX9 tyX9_ok nmX9 hown hK hP hD hS kn20_ hkn20_ rfl 4 (Nat.le_of_ble_eq_true rfl) (ho (.fieldLink RX9 17 "NearEnough$Step" "b" "I") (List.mem_of_getElem? (i := 5) rfl)) (fun _ h9 => h9) rfl (tyX9_ok 4 (Nat.le_of_ble_eq_true rfl)) rfl rfl (Nat.le_of_ble_eq_true rfl) dX9_init_16 (fun H locs hP hD hS => ?_)
  obtain ⟨T22_, eT22_⟩ : ∃ x9 : TT, x9 = (upd T12_.1 2 0, T12_.2.1, T12_.2.2) := ⟨_, rfl⟩
  have hP : va_P (dC, dI) vwCl (rW (ku κ a T22_) σ) H := by rw [show (rW (ku κ a T22_) σ) = _ from (rW_kw (e' := .inr (9, stV T22_)) hD21_ ha hkn20_).symm, eT22_]; exact hP
  have hD : va_D A (rW (ku κ a T22_) σ) := by rw [show (rW (ku κ a T22_) σ) = _ from (rW_kw (e' := .inr (9, stV T22_)) hD21_ ha hkn20_).symm, eT22_]; exact hD
  have i23_ : T22_.1 0 = (t_a.1 0) := (congrArg (fun z9 : TT => z9.1 0) eT22_).trans i13_
  have i24_ : T22_.1 1 = (0 : Int32) := (congrArg (fun z9 : TT => z9.1 1) eT22_).trans i14_
  have kk26_ : (0 : Int32).toInt = 0 := rg_11
  have i25_ : T22_.1 2 = (0 : Int32) := congrArg (fun z9 : TT => z9.1 2) eT22_
  have i27_ : T22_.1 3 = (t_a.1 3) := (congrArg (fun z9 : TT => z9.1 3) eT22_).trans i17_
  have i28_ : T22_.1 4 = (t_a.1 4) := (congrArg (fun z9 : TT => z9.1 4) eT22_).trans i18_
  have i29_ : T22_.2.2 = none := (congrArg (fun z9 : TT => z9.2.2) eT22_).trans i19_
  refine lv_aload_n hx hb dX9_init_19 rfl (lv_at hl 0 rfl) ?_
  refine lv_iconst (v := 0) hx hb dX9_init_20 rg_0 ?_
  obtain ⟨kn30_, hkn30_⟩ := rpl (κ := (ku κ a T22_)) (σ := σ) (a := a) ha kf_self
  have hD31_ := hD
  refine va_put (D := (dC, dI)) (ci := 9) (v := .int 0) (ty := tyX9 5) (C := RX9) (T := TX9) (N := 11) hx hb hts hin9 tyX9 tyX9_ok nmX9 hown hK hP hD hS kn30_ hkn30_ rfl 5 (Nat.le_of_ble_eq_true rfl) (ho (.fieldLink RX9 20 "NearEnough$Step" "under" "I") (List.mem_of_getElem? (i := 6) rfl)) (fun _ h9 => h9) rfl (tyX9_ok 5 (Nat.le_of_ble_eq_true rfl)) rfl rfl (Nat.le_of_ble_eq_true rfl) dX9_init_21 (fun H locs hP hD hS => ?_)
  obtain ⟨T32_, eT32_⟩ : ∃ x9 : TT, x9 = (upd T22_.1 3 0, T22_.2.1, T22_.2.2) := ⟨_, rfl⟩
  have hP : va_P (dC, dI) vwCl (rW (ku κ a T32_) σ) H := by rw [show (rW (ku κ a T32_) σ) = _ from (rW_kw (e' := .inr (9, stV T32_)) hD31_ ha hkn30_).symm, eT32_]; exact hP
  have hD : va_D A (rW (ku κ a T32_) σ) := by rw [show (rW (ku κ a T32_) σ) = _ from (rW_kw (e' := .inr (9, stV T32_)) hD31_ ha hkn30_).symm, eT32_]; exact hD
  have i33_ : T32_.1 0 = (t_a.1 0) := (congrArg (fun z9 : TT => z9.1 0) eT32_).trans i23_
  have i34_ : T32_.1 1 = (0 : Int32) := (congrArg (fun z9 : TT => z9.1 1) eT32_).trans i24_
  have i35_ : T32_.1 2 = (0 : Int32) := (congrArg (fun z9 : TT => z9.1 2) eT32_).trans i25_
  have kk37_ : (0 : Int32).toInt = 0 := rg_11
  have i36_ : T32_.1 3 = (0 : Int32) := congrArg (fun z9 : TT => z9.1 3) eT32_
  have i38_ : T32_.1 4 = (t_a.1 4) := (congrArg (fun z9 : TT => z9.1 4) eT32_).trans i28_
  have i39_ : T32_.2.2 = none := (congrArg (fun z9 : TT => z9.2.2) eT32_).trans i29_
  refine lv_aload_n hx hb dX9_init_24 rfl (lv_at hl 0 rfl) ?_
  refine lv_iconst (v := 0) hx hb dX9_init_25 rg_0 ?_
  obtain ⟨kn40_, hkn40_⟩ := rpl (κ := (ku κ a T32_)) (σ := σ) (a := a) ha kf_self
  have hD41_ := hD
  refine va_put (D := (dC, dI)) (ci := 9) (v := .int 0) (ty := tyX9 6) (C := RX9) (T := TX9) (N := 11) hx hb hts hin9 tyX9 tyX9_ok nmX9 hown hK hP hD hS kn40_ hkn40_ rfl 6 (Nat.le_of_ble_eq_true rfl) (ho (.fieldLink RX9 23 "NearEnough$Step" "other" "I") (List.mem_of_getElem? (i := 7) rfl)) (fun _ h9 => h9) rfl (tyX9_ok 6 (Nat.le_of_ble_eq_true rfl)) rfl rfl (Nat.le_of_ble_eq_true rfl) dX9_init_26 (fun H locs hP hD hS => ?_)
  obtain ⟨T42_, eT42_⟩ : ∃ x9 : TT, x9 = (upd T32_.1 4 0, T32_.2.1, T32_.2.2) := ⟨_, rfl⟩
  have hP : va_P (dC, dI) vwCl (rW (ku κ a T42_) σ) H := by rw [show (rW (ku κ a T42_) σ) = _ from (rW_kw (e' := .inr (9, stV T42_)) hD41_ ha hkn40_).symm, eT42_]; exact hP
  have hD : va_D A (rW (ku κ a T42_) σ) := by rw [show (rW (ku κ a T42_) σ) = _ from (rW_kw (e' := .inr (9, stV T42_)) hD41_ ha hkn40_).symm, eT42_]; exact hD
  have i43_ : T42_.1 0 = (t_a.1 0) := (congrArg (fun z9 : TT => z9.1 0) eT42_).trans i33_
  have i44_ : T42_.1 1 = (0 : Int32) := (congrArg (fun z9 : TT => z9.1 1) eT42_).trans i34_
  have i45_ : T42_.1 2 = (0 : Int32) := (congrArg (fun z9 : TT => z9.1 2) eT42_).trans i35_
  have i46_ : T42_.1 3 = (0 : Int32) := (congrArg (fun z9 : TT => z9.1 3) eT42_).trans i36_
  have kk48_ : (0 : Int32).toInt = 0 := rg_11
  have i47_ : T42_.1 4 = (0 : Int32) := congrArg (fun z9 : TT => z9.1 4) eT42_
  have i49_ : T42_.2.2 = none := (congrArg (fun z9 : TT => z9.2.2) eT42_).trans i39_
  refine lv_aload_n hx hb dX9_init_29 rfl (lv_at hl 0 rfl) ?_
  refine lv_iconst (v := 0) hx hb dX9_init_30 rg_0 ?_
  obtain ⟨kn50_, hkn50_⟩ := rpl (κ := (ku κ a T42_)) (σ := σ) (a := a) ha kf_self
  have hD51_ := hD
  refine va_put (D := (dC, dI)) (ci := 9) (v := .int 0) (ty := tyX9 7) (C := RX9) (T := TX9) (N := 11) hx hb hts hin9 tyX9 tyX9_ok nmX9 hown hK hP hD hS kn50_ hkn50_ rfl 7 (Nat.le_of_ble_eq_true rfl) (ho (.fieldLink RX9 26 "NearEnough$Step" "by" "I") (List.mem_of_getElem? (i := 8) rfl)) (fun _ h9 => h9) rfl (tyX9_ok 7 (Nat.le_of_ble_eq_true rfl)) rfl rfl (Nat.le_of_ble_eq_true rfl) dX9_init_31 (fun H locs hP hD hS => ?_)
  obtain ⟨T52_, eT52_⟩ : ∃ x9 : TT, x9 = (upd T42_.1 5 0, T42_.2.1, T42_.2.2) := ⟨_, rfl⟩
  have hP : va_P (dC, dI) vwCl (rW (ku κ a T52_) σ) H := by rw [show (rW (ku κ a T52_) σ) = _ from (rW_kw (e' := .inr (9, stV T52_)) hD51_ ha hkn50_).symm, eT52_]; exact hP
  have hD : va_D A (rW (ku κ a T52_) σ) := by rw [show (rW (ku κ a T52_) σ) = _ from (rW_kw (e' := .inr (9, stV T52_)) hD51_ ha hkn50_).symm, eT52_]; exact hD
  have i53_ : T52_.1 0 = (t_a.1 0) := (congrArg (fun z9 : TT => z9.1 0) eT52_).trans i43_
  have i54_ : T52_.1 1 = (0 : Int32) := (congrArg (fun z9 : TT => z9.1 1) eT52_).trans i44_
  have i55_ : T52_.1 2 = (0 : Int32) := (congrArg (fun z9 : TT => z9.1 2) eT52_).trans i45_
  have i56_ : T52_.1 3 = (0 : Int32) := (congrArg (fun z9 : TT => z9.1 3) eT52_).trans i46_
  have i57_ : T52_.1 4 = (0 : Int32) := (congrArg (fun z9 : TT => z9.1 4) eT52_).trans i47_
  have i58_ : T52_.2.2 = none := (congrArg (fun z9 : TT => z9.2.2) eT52_).trans i49_
  refine lv_aload_n hx hb dX9_init_34 rfl (lv_at hl 0 rfl) ?_
  refine lv_iconst (v := 1) hx hb dX9_init_35 rg_6 ?_
  obtain ⟨kn59_, hkn59_⟩ := rpl (κ := (ku κ a T52_)) (σ := σ) (a := a) ha kf_self
  have hD60_ := hD
  refine va_put (D := (dC, dI)) (ci := 9) (v := .int 1) (ty := tyX9 8) (C := RX9) (T := TX9) (N := 11) hx hb hts hin9 tyX9 tyX9_ok nmX9 hown hK hP hD hS kn59_ hkn59_ rfl 8 (Nat.le_of_ble_eq_true rfl) (ho (.fieldLink RX9 29 "NearEnough$Step" "over" "I") (List.mem_of_getElem? (i := 9) rfl)) (fun _ h9 => h9) rfl (tyX9_ok 8 (Nat.le_of_ble_eq_true rfl)) rfl rfl (Nat.le_of_ble_eq_true rfl) dX9_init_36 (fun H locs hP hD hS => ?_)
  obtain ⟨T61_, eT61_⟩ : ∃ x9 : TT, x9 = (upd T52_.1 6 1, T52_.2.1, T52_.2.2) := ⟨_, rfl⟩
  have hP : va_P (dC, dI) vwCl (rW (ku κ a T61_) σ) H := by rw [show (rW (ku κ a T61_) σ) = _ from (rW_kw (e' := .inr (9, stV T61_)) hD60_ ha hkn59_).symm, eT61_]; exact hP
  have hD : va_D A (rW (ku κ a T61_) σ) := by rw [show (rW (ku κ a T61_) σ) = _ from (rW_kw (e' := .inr (9, stV T61_)) hD60_ ha hkn59_).symm, eT61_]; exact hD
  have i62_ : T61_.1 0 = (t_a.1 0) := (congrArg (fun z9 : TT => z9.1 0) eT61_).trans i53_
  have i63_ : T61_.1 1 = (0 : Int32) := (congrArg (fun z9 : TT => z9.1 1) eT61_).trans i54_
  have i64_ : T61_.1 2 = (0 : Int32) := (congrArg (fun z9 : TT => z9.1 2) eT61_).trans i55_
  have i65_ : T61_.1 3 = (0 : Int32) := (congrArg (fun z9 : TT => z9.1 3) eT61_).trans i56_
  have i66_ : T61_.1 4 = (0 : Int32) := (congrArg (fun z9 : TT => z9.1 4) eT61_).trans i57_
  have i67_ : T61_.2.2 = none := (congrArg (fun z9 : TT => z9.2.2) eT61_).trans i58_
  refine lv_aload_n hx hb dX9_init_39 rfl (lv_at hl 0 rfl) ?_
  refine lv_lconst (v := 0) hx hb dX9_init_40 (by decide) ?_
  obtain ⟨kn68_, hkn68_⟩ := rpl (κ := (ku κ a T61_)) (σ := σ) (a := a) ha kf_self
  have hD69_ := hD
  refine va_put (D := (dC, dI)) (ci := 9) (v := .long 0) (ty := tyX9 9) (C := RX9) (T := TX9) (N := 11) hx hb hts hin9 tyX9 tyX9_ok nmX9 hown hK hP hD hS kn68_ hkn68_ rfl 9 (Nat.le_of_ble_eq_true rfl) (ho (.fieldLink RX9 32 "NearEnough$Step" "low" "J") (List.mem_of_getElem? (i := 10) rfl)) (fun _ h9 => h9) rfl (tyX9_ok 9 (Nat.le_of_ble_eq_true rfl)) rfl rfl (Nat.le_of_ble_eq_true rfl) dX9_init_41 (fun H locs hP hD hS => ?_)
  obtain ⟨T70_, eT70_⟩ : ∃ x9 : TT, x9 = (T61_.1, vp_updL T61_.2.1 1 0, T61_.2.2) := ⟨_, rfl⟩
  have hP : va_P (dC, dI) vwCl (rW (ku κ a T70_) σ) H := by rw [show (rW (ku κ a T70_) σ) = _ from (rW_kw (e' := .inr (9, stV T70_)) hD69_ ha hkn68_).symm, eT70_]; exact hP
  have hD : va_D A (rW (ku κ a T70_) σ) := by rw [show (rW (ku κ a T70_) σ) = _ from (rW_kw (e' := .inr (9, stV T70_)) hD69_ ha hkn68_).symm, eT70_]; exact hD
  have i71_ : T70_.1 0 = (t_a.1 0) := (congrArg (fun z9 : TT => z9.1 0) eT70_).trans i62_
  have i72_ : T70_.1 1 = (0 : Int32) := (congrArg (fun z9 : TT => z9.1 1) eT70_).trans i63_
  have i73_ : T70_.1 2 = (0 : Int32) := (congrArg (fun z9 : TT => z9.1 2) eT70_).trans i64_
  have i74_ : T70_.1 3 = (0 : Int32) := (congrArg (fun z9 : TT => z9.1 3) eT70_).trans i65_
  have i75_ : T70_.1 4 = (0 : Int32) := (congrArg (fun z9 : TT => z9.1 4) eT70_).trans i66_
  have i76_ : T70_.2.2 = none := (congrArg (fun z9 : TT => z9.2.2) eT70_).trans i67_
  refine lv_aload_n hx hb dX9_init_44 rfl (lv_at hl 0 rfl) ?_
  refine lv_lconst (v := 0) hx hb dX9_init_45 (by decide) ?_
  obtain ⟨kn77_, hkn77_⟩ := rpl (κ := (ku κ a T70_)) (σ := σ) (a := a) ha kf_self
  have hD78_ := hD
  refine va_put (D := (dC, dI)) (ci := 9) (v := .long 0) (ty := tyX9 10) (C := RX9) (T := TX9) (N := 11) hx hb hts hin9 tyX9 tyX9_ok nmX9 hown hK hP hD hS kn77_ hkn77_ rfl 10 (Nat.le_of_ble_eq_true rfl) (ho (.fieldLink RX9 36 "NearEnough$Step" "high" "J") (List.mem_of_getElem? (i := 11) rfl)) (fun _ h9 => h9) rfl (tyX9_ok 10 (Nat.le_of_ble_eq_true rfl)) rfl rfl (Nat.le_of_ble_eq_true rfl) dX9_init_46 (fun H locs hP hD hS => ?_)
  obtain ⟨T79_, eT79_⟩ : ∃ x9 : TT, x9 = (T70_.1, vp_updL T70_.2.1 2 0, T70_.2.2) := ⟨_, rfl⟩
  have hP : va_P (dC, dI) vwCl (rW (ku κ a T79_) σ) H := by rw [show (rW (ku κ a T79_) σ) = _ from (rW_kw (e' := .inr (9, stV T79_)) hD78_ ha hkn77_).symm, eT79_]; exact hP
  have hD : va_D A (rW (ku κ a T79_) σ) := by rw [show (rW (ku κ a T79_) σ) = _ from (rW_kw (e' := .inr (9, stV T79_)) hD78_ ha hkn77_).symm, eT79_]; exact hD
  have i80_ : T79_.1 0 = (t_a.1 0) := (congrArg (fun z9 : TT => z9.1 0) eT79_).trans i71_
  have i81_ : T79_.1 1 = (0 : Int32) := (congrArg (fun z9 : TT => z9.1 1) eT79_).trans i72_
  have i82_ : T79_.1 2 = (0 : Int32) := (congrArg (fun z9 : TT => z9.1 2) eT79_).trans i73_
  have i83_ : T79_.1 3 = (0 : Int32) := (congrArg (fun z9 : TT => z9.1 3) eT79_).trans i74_
  have i84_ : T79_.1 4 = (0 : Int32) := (congrArg (fun z9 : TT => z9.1 4) eT79_).trans i75_
  have i85_ : T79_.2.2 = none := (congrArg (fun z9 : TT => z9.2.2) eT79_).trans i76_
  refine lv_aload_n hx hb dX9_init_49 rfl (lv_at hl 0 rfl) ?_
  refine lv_iload_n hx hb dX9_init_50 rfl (lv_at hl 1 rfl) ?_
  obtain ⟨kn86_, hkn86_⟩ := rpl (κ := (ku κ a T79_)) (σ := σ) (a := a) ha kf_self
  have hD87_ := hD
  refine va_putF (D := (dC, dI)) (ci := 9) (v := .int x) (ty := tyX9 0) (C := RX9) (T := TX9) (N := 11) hx hb hts hin9 tyX9 tyX9_ok nmX9 hown hK hP hD hS kn86_ hkn86_ rfl 0 (Nat.le_of_ble_eq_true rfl) (ho (.fieldLink RX9 39 "NearEnough$Step" "kind" "I") (List.mem_of_getElem? (i := 12) rfl)) (fun _ h9 => h9) rfl hin rfl (tyX9_ok 0 (Nat.le_of_ble_eq_true rfl)) rfl rfl (Nat.le_of_ble_eq_true rfl) dX9_init_51 (fun H locs hP hD hS => ?_)
  obtain ⟨T88_, eT88_⟩ : ∃ x9 : TT, x9 = (upd T79_.1 0 x, T79_.2.1, T79_.2.2) := ⟨_, rfl⟩
  have hP : va_P (dC, dI) vwCl (rW (ku κ a T88_) σ) H := by rw [show (rW (ku κ a T88_) σ) = _ from (rW_kw (e' := .inr (9, stV T88_)) hD87_ ha hkn86_).symm, eT88_]; exact hP
  have hD : va_D A (rW (ku κ a T88_) σ) := by rw [show (rW (ku κ a T88_) σ) = _ from (rW_kw (e' := .inr (9, stV T88_)) hD87_ ha hkn86_).symm, eT88_]; exact hD
  have i89_ : T88_.1 0 = x := congrArg (fun z9 : TT => z9.1 0) eT88_
  have i90_ : T88_.1 1 = (0 : Int32) := (congrArg (fun z9 : TT => z9.1 1) eT88_).trans i81_
  have i91_ : T88_.1 2 = (0 : Int32) := (congrArg (fun z9 : TT => z9.1 2) eT88_).trans i82_
  have i92_ : T88_.1 3 = (0 : Int32) := (congrArg (fun z9 : TT => z9.1 3) eT88_).trans i83_
  have i93_ : T88_.1 4 = (0 : Int32) := (congrArg (fun z9 : TT => z9.1 4) eT88_).trans i84_
  have i94_ : T88_.2.2 = none := (congrArg (fun z9 : TT => z9.2.2) eT88_).trans i85_
  refine lv_aload_n hx hb dX9_init_54 rfl (lv_at hl 0 rfl) ?_
  refine lv_lload_n hx hb dX9_init_55 rfl (lv_at hl 2 rfl) ?_
  obtain ⟨kn95_, hkn95_⟩ := rpl (κ := (ku κ a T88_)) (σ := σ) (a := a) ha kf_self
  have hD96_ := hD
  refine va_putF (D := (dC, dI)) (ci := 9) (v := .long y) (ty := tyX9 1) (C := RX9) (T := TX9) (N := 11) hx hb hts hin9 tyX9 tyX9_ok nmX9 hown hK hP hD hS kn95_ hkn95_ rfl 1 (Nat.le_of_ble_eq_true rfl) (ho (.fieldLink RX9 42 "NearEnough$Step" "name" "J") (List.mem_of_getElem? (i := 13) rfl)) (fun _ h9 => h9) rfl hin rfl (tyX9_ok 1 (Nat.le_of_ble_eq_true rfl)) rfl rfl (Nat.le_of_ble_eq_true rfl) dX9_init_56 (fun H locs hP hD hS => ?_)
  obtain ⟨T97_, eT97_⟩ : ∃ x9 : TT, x9 = (T88_.1, vp_updL T88_.2.1 0 y, T88_.2.2) := ⟨_, rfl⟩
  have hP : va_P (dC, dI) vwCl (rW (ku κ a T97_) σ) H := by rw [show (rW (ku κ a T97_) σ) = _ from (rW_kw (e' := .inr (9, stV T97_)) hD96_ ha hkn95_).symm, eT97_]; exact hP
  have hD : va_D A (rW (ku κ a T97_) σ) := by rw [show (rW (ku κ a T97_) σ) = _ from (rW_kw (e' := .inr (9, stV T97_)) hD96_ ha hkn95_).symm, eT97_]; exact hD
  have i98_ : T97_.1 0 = x := (congrArg (fun z9 : TT => z9.1 0) eT97_).trans i89_
  have i99_ : T97_.1 1 = (0 : Int32) := (congrArg (fun z9 : TT => z9.1 1) eT97_).trans i90_
  have i100_ : T97_.1 2 = (0 : Int32) := (congrArg (fun z9 : TT => z9.1 2) eT97_).trans i91_
  have i101_ : T97_.1 3 = (0 : Int32) := (congrArg (fun z9 : TT => z9.1 3) eT97_).trans i92_
  have i102_ : T97_.1 4 = (0 : Int32) := (congrArg (fun z9 : TT => z9.1 4) eT97_).trans i93_
  have i103_ : T97_.2.2 = none := (congrArg (fun z9 : TT => z9.2.2) eT97_).trans i94_
  rw [hQ]
  exact W.vret hx hb hr (fun t ht hW => ⟨⟨(T97_, σ), rfl, ⟨hI, ⟨i98_, four (P := fun j => T97_.1 j = 0) i99_ i100_ i101_ i102_, i103_, rfl⟩⟩, wEn_of hP (hK.sub [] rfl) hD ht hW⟩, hS.F ht⟩) hS.2.2 dX9_init_59
def ow_g_Row : List Cond := [.methodLink RX5 1 objectInit, .instanceMethod objectInit, .code objectInit ⟨#[0xb1]⟩ 1 none, .fieldLink RX5 7 "NearEnough$Row" "name" "J", .fieldLink RX5 13 "NearEnough$Row" "count" "I", .fieldLink RX5 17 "NearEnough$Row" "low" "I", .fieldLink RX5 20 "NearEnough$Row" "high" "I", .fieldLink RX5 23 "NearEnough$Row" "first" "I"]
def vs_g_Row : List Cond := .code yX5_init cX5_init 7 none :: (ow_g_Row ++ (wsX50))
theorem vg_g_Row : vs_g_Row.all goodWord = true := by decide +kernel
theorem dd_g_Row : yX5_init.cls = RX5 ∧ yX5_init.cls ≠ "java/lang/invoke/MethodHandle" ∧ yX5_init.cls ≠ "java/lang/invoke/VarHandle" ∧ (parseMethodDescriptor yX5_init.desc).map (fun d => d.parameters.length) = some 5 := by decide +kernel
def rm_g_Row : Room := { frames := 1, cells := 0, slots := 0, locals := 24 }
set_option maxHeartbeats 4000000 in
set_option maxRecDepth 100000 in
theorem g_Row (l : Launch) (dC : Nat → ClassId) (dI : Nat → Nat → Nat) (adK adV : Nat → Nat) (κ : CE) (sz : Nat) (σ : MS) (a : Nat) (t_a : RT) (x : Int64) (y : Int32) (z : Int32) (v : Int32) (w : Int32) (ha : a ∈ kL κ) (hk : ∀ t : RT, PInv (kv κ a t)) (hI : RInv σ)  : Met l yX5_init vs_g_Row rm_g_Row (va_Pc [.ref a, .long x, .int y, .int z, .int v, .int w] (wSr dC dI adK adV (rW (kv κ a t_a) σ) (rT κ) sz)) (va_Qv (fun (u : RT × MS) => RInv u.2 ∧ (u.1.1 0 = y ∧ u.1.1 3 = w ∧ u.2 = σ)) (fun (u : RT × MS) => wEn dC dI (va_A (rW (kv κ a t_a) σ) sz) (rW (kv κ a u.1) u.2) []) (va_A (rW (kv κ a t_a) σ) sz)) 0 0 (va_A (rW (kv κ a t_a) σ) sz) := by
  refine Met.ofW (cc := cX5_init) (maxL := 7) (ret := none) (by decide +kernel) rfl ?_
  intro p e s m args below meth c s₁ B hml hv
  obtain ⟨rfl, ⟨hsz, hP, hK, hD0, hE⟩, hZ, hR⟩ := hv
  have hx := B.exec
  have hb := B.bytes
  have hr := B.returns
  have hts := atoms_spec (ws := vs_g_Row) B.pre
  have hown : s.vm.findClass RX5 = some m.cls := findClass_of_methodNamed B.named
  have hlocks := B.notSynchronized
  subst hsz
  have hD := hD0.self (sz := s.heap.size)
  generalize hAe : va_A (rW (kv κ a t_a) σ) s.heap.size = A at hD hZ ⊢
  have hA : ∀ q : Nat, s.heap.size ≤ q → A q := fun q h => by rw [← hAe]; exact Or.inr h
  have hl := lv_entry ([.ref a, .long x, .int y, .int z, .int v, .int w]) (n := 7) (Nat.le_of_ble_eq_true rfl)
  rw [lg_entry_eq]
  generalize (lg_sl ([.ref a, .long x, .int y, .int z, .int v, .int w]) ++ List.replicate (7 - (lg_sl ([.ref a, .long x, .int y, .int z, .int v, .int w])).length) Slot.unset).toArray = ls at hl ⊢
  have hl : lv_has ls 7 [(0, .ref a), (1, .long x), (3, .int y), (4, .int z), (5, .int v), (6, .int w)] := hl
  have ho := fun w (h : w ∈ ow_g_Row) => hts w (List.mem_cons_of_mem _ (List.mem_append_left _ h))
  have hin5 : ∀ w ∈ u_ws RX5 TX5 5, w ∈ vs_g_Row := fun w h => (List.mem_cons_of_mem _ (List.mem_append_right _ h))
  refine zQ (fun Q hQ => ?_)
  refine zH (A := A) (ws := (rW (kv κ a t_a) σ)) (fun H hP hS => ?_) hP
  have hk0 : 0 ≤ (pI κ 0).toInt ∧ (pI κ 0).toInt ≤ 2 := (hk t_a).1
  have hk1 : 0 ≤ (pI κ 1).toInt ∧ (pI κ 1).toInt ≤ 12 := (hk t_a).2.1
  have hk2 : 0 ≤ (pI κ 2).toInt ∧ (pI κ 2).toInt ≤ 4 := (hk t_a).2.2.1
  have hin : meth.name = "<init>" := (name_of_methodNamed B.named B.method).1
  refine lv_aload_n hx hb dX5_init_0 rfl (lv_at hl 0 rfl) ?_
  refine W.objInit hx hb hown (ho (.methodLink RX5 1 objectInit) (List.mem_of_getElem? (i := 0) rfl)) (ho (.instanceMethod objectInit) (List.mem_of_getElem? (i := 1) rfl)) (ho (.code objectInit ⟨#[0xb1]⟩ 1 none) (List.mem_of_getElem? (i := 2) rfl)) rfl (by rw [hml]; exact hl.1) rfl dX5_init_1 (Nat.le_of_ble_eq_true rfl) (Nat.le_of_ble_eq_true rfl) ?_
  refine W.eq (g2 := F0 m 4 ls []) rfl ?_
  refine lv_aload_n hx hb dX5_init_4 rfl (lv_at hl 0 rfl) ?_
  refine lv_lload_n hx hb dX5_init_5 rfl (lv_at hl 1 rfl) ?_
  obtain ⟨kn1_, hkn1_⟩ := rpl (κ := (kv κ a t_a)) (σ := σ) (a := a) ha kf_self
  have hD2_ := hD
  refine va_putF (D := (dC, dI)) (ci := 5) (v := .long x) (ty := tyX5 0) (C := RX5) (T := TX5) (N := 5) hx hb hts hin5 tyX5 tyX5_ok nmX5 hown hK hP hD hS kn1_ hkn1_ rfl 0 (Nat.le_of_ble_eq_true rfl) (ho (.fieldLink RX5 7 "NearEnough$Row" "name" "J") (List.mem_of_getElem? (i := 3) rfl)) (fun _ h9 => h9) rfl hin rfl (tyX5_ok 0 (Nat.le_of_ble_eq_true rfl)) rfl rfl (Nat.le_of_ble_eq_true rfl) dX5_init_6 (fun H locs hP hD hS => ?_)
  obtain ⟨T3_, eT3_⟩ : ∃ x9 : RT, x9 = (t_a.1, x) := ⟨_, rfl⟩
  have hP : va_P (dC, dI) vwCl (rW (kv κ a T3_) σ) H := by rw [show (rW (kv κ a T3_) σ) = _ from (rW_kw (e' := .inr (5, rwV T3_)) hD2_ ha hkn1_).symm, eT3_]; exact hP
  have hD : va_D A (rW (kv κ a T3_) σ) := by rw [show (rW (kv κ a T3_) σ) = _ from (rW_kw (e' := .inr (5, rwV T3_)) hD2_ ha hkn1_).symm, eT3_]; exact hD
  refine lv_aload_n hx hb dX5_init_9 rfl (lv_at hl 0 rfl) ?_
  refine lv_iload_n hx hb dX5_init_10 rfl (lv_at hl 2 rfl) ?_
  obtain ⟨kn8_, hkn8_⟩ := rpl (κ := (kv κ a T3_)) (σ := σ) (a := a) ha kf_self
  have hD9_ := hD
  refine va_putF (D := (dC, dI)) (ci := 5) (v := .int y) (ty := tyX5 1) (C := RX5) (T := TX5) (N := 5) hx hb hts hin5 tyX5 tyX5_ok nmX5 hown hK hP hD hS kn8_ hkn8_ rfl 1 (Nat.le_of_ble_eq_true rfl) (ho (.fieldLink RX5 13 "NearEnough$Row" "count" "I") (List.mem_of_getElem? (i := 4) rfl)) (fun _ h9 => h9) rfl hin rfl (tyX5_ok 1 (Nat.le_of_ble_eq_true rfl)) rfl rfl (Nat.le_of_ble_eq_true rfl) dX5_init_11 (fun H locs hP hD hS => ?_)
  obtain ⟨T10_, eT10_⟩ : ∃ x9 : RT, x9 = (upd T3_.1 0 y, T3_.2) := ⟨_, rfl⟩
  have hP : va_P (dC, dI) vwCl (rW (kv κ a T10_) σ) H := by rw [show (rW (kv κ a T10_) σ) = _ from (rW_kw (e' := .inr (5, rwV T10_)) hD9_ ha hkn8_).symm, eT10_]; exact hP
  have hD : va_D A (rW (kv κ a T10_) σ) := by rw [show (rW (kv κ a T10_) σ) = _ from (rW_kw (e' := .inr (5, rwV T10_)) hD9_ ha hkn8_).symm, eT10_]; exact hD
  have i11_ : T10_.1 0 = y := congrArg (fun z9 : RT => z9.1 0) eT10_
  refine lv_aload_n hx hb dX5_init_14 rfl (lv_at hl 0 rfl) ?_
  refine lv_iload hx hb dX5_init_15 (lv_at hl 3 rfl) ?_
  obtain ⟨kn15_, hkn15_⟩ := rpl (κ := (kv κ a T10_)) (σ := σ) (a := a) ha kf_self
  have hD16_ := hD
  refine va_putF (D := (dC, dI)) (ci := 5) (v := .int z) (ty := tyX5 2) (C := RX5) (T := TX5) (N := 5) hx hb hts hin5 tyX5 tyX5_ok nmX5 hown hK hP hD hS kn15_ hkn15_ rfl 2 (Nat.le_of_ble_eq_true rfl) (ho (.fieldLink RX5 17 "NearEnough$Row" "low" "I") (List.mem_of_getElem? (i := 5) rfl)) (fun _ h9 => h9) rfl hin rfl (tyX5_ok 2 (Nat.le_of_ble_eq_true rfl)) rfl rfl (Nat.le_of_ble_eq_true rfl) dX5_init_17 (fun H locs hP hD hS => ?_)
  obtain ⟨T17_, eT17_⟩ : ∃ x9 : RT, x9 = (upd T10_.1 1 z, T10_.2) := ⟨_, rfl⟩
  have hP : va_P (dC, dI) vwCl (rW (kv κ a T17_) σ) H := by rw [show (rW (kv κ a T17_) σ) = _ from (rW_kw (e' := .inr (5, rwV T17_)) hD16_ ha hkn15_).symm, eT17_]; exact hP
  have hD : va_D A (rW (kv κ a T17_) σ) := by rw [show (rW (kv κ a T17_) σ) = _ from (rW_kw (e' := .inr (5, rwV T17_)) hD16_ ha hkn15_).symm, eT17_]; exact hD
  have i18_ : T17_.1 0 = y := (congrArg (fun z9 : RT => z9.1 0) eT17_).trans i11_
  have i19_ : T17_.1 1 = z := congrArg (fun z9 : RT => z9.1 1) eT17_
  refine lv_aload_n hx hb dX5_init_20 rfl (lv_at hl 0 rfl) ?_
  refine lv_iload hx hb dX5_init_21 (lv_at hl 4 rfl) ?_
  obtain ⟨kn22_, hkn22_⟩ := rpl (κ := (kv κ a T17_)) (σ := σ) (a := a) ha kf_self
  have hD23_ := hD
  refine va_putF (D := (dC, dI)) (ci := 5) (v := .int v) (ty := tyX5 3) (C := RX5) (T := TX5) (N := 5) hx hb hts hin5 tyX5 tyX5_ok nmX5 hown hK hP hD hS kn22_ hkn22_ rfl 3 (Nat.le_of_ble_eq_true rfl) (ho (.fieldLink RX5 20 "NearEnough$Row" "high" "I") (List.mem_of_getElem? (i := 6) rfl)) (fun _ h9 => h9) rfl hin rfl (tyX5_ok 3 (Nat.le_of_ble_eq_true rfl)) rfl rfl (Nat.le_of_ble_eq_true rfl) dX5_init_23 (fun H locs hP hD hS => ?_)
  obtain ⟨T24_, eT24_⟩ : ∃ x9 : RT, x9 = (upd T17_.1 2 v, T17_.2) := ⟨_, rfl⟩
  have hP : va_P (dC, dI) vwCl (rW (kv κ a T24_) σ) H := by rw [show (rW (kv κ a T24_) σ) = _ from (rW_kw (e' := .inr (5, rwV T24_)) hD23_ ha hkn22_).symm, eT24_]; exact hP
  have hD : va_D A (rW (kv κ a T24_) σ) := by rw [show (rW (kv κ a T24_) σ) = _ from (rW_kw (e' := .inr (5, rwV T24_)) hD23_ ha hkn22_).symm, eT24_]; exact hD
  have i25_ : T24_.1 0 = y := (congrArg (fun z9 : RT => z9.1 0) eT24_).trans i18_
  have i26_ : T24_.1 1 = z := (congrArg (fun z9 : RT => z9.1 1) eT24_).trans i19_
  have i27_ : T24_.1 2 = v := congrArg (fun z9 : RT => z9.1 2) eT24_
  refine lv_aload_n hx hb dX5_init_26 rfl (lv_at hl 0 rfl) ?_
  refine lv_iload hx hb dX5_init_27 (lv_at hl 5 rfl) ?_
  obtain ⟨kn29_, hkn29_⟩ := rpl (κ := (kv κ a T24_)) (σ := σ) (a := a) ha kf_self
  have hD30_ := hD
  refine va_putF (D := (dC, dI)) (ci := 5) (v := .int w) (ty := tyX5 4) (C := RX5) (T := TX5) (N := 5) hx hb hts hin5 tyX5 tyX5_ok nmX5 hown hK hP hD hS kn29_ hkn29_ rfl 4 (Nat.le_of_ble_eq_true rfl) (ho (.fieldLink RX5 23 "NearEnough$Row" "first" "I") (List.mem_of_getElem? (i := 7) rfl)) (fun _ h9 => h9) rfl hin rfl (tyX5_ok 4 (Nat.le_of_ble_eq_true rfl)) rfl rfl (Nat.le_of_ble_eq_true rfl) dX5_init_29 (fun H locs hP hD hS => ?_)
  obtain ⟨T31_, eT31_⟩ : ∃ x9 : RT, x9 = (upd T24_.1 3 w, T24_.2) := ⟨_, rfl⟩
  have hP : va_P (dC, dI) vwCl (rW (kv κ a T31_) σ) H := by rw [show (rW (kv κ a T31_) σ) = _ from (rW_kw (e' := .inr (5, rwV T31_)) hD30_ ha hkn29_).symm, eT31_]; exact hP
  have hD : va_D A (rW (kv κ a T31_) σ) := by rw [show (rW (kv κ a T31_) σ) = _ from (rW_kw (e' := .inr (5, rwV T31_)) hD30_ ha hkn29_).symm, eT31_]; exact hD
  have i32_ : T31_.1 0 = y := (congrArg (fun z9 : RT => z9.1 0) eT31_).trans i25_
  have i33_ : T31_.1 1 = z := (congrArg (fun z9 : RT => z9.1 1) eT31_).trans i26_
  have i34_ : T31_.1 2 = v := (congrArg (fun z9 : RT => z9.1 2) eT31_).trans i27_
  have i35_ : T31_.1 3 = w := congrArg (fun z9 : RT => z9.1 3) eT31_
  rw [hQ]
  exact W.vret hx hb hr (fun t ht hW => ⟨⟨(T31_, σ), rfl, ⟨hI, ⟨i32_, i35_, rfl⟩⟩, wEn_of hP (hK.sub [] rfl) hD ht hW⟩, hS.F ht⟩) hS.2.2 dX5_init_32
def ow_g_spread : List Cond := [.methodLink RX9 45 Lib.MathLoose.min_long.x, .static Lib.MathLoose.min_long.x, .initialized "java/lang/Math", .code Lib.MathLoose.min_long.x Lib.MathLoose.min_long.code 4 (some .long), .fieldLink RX9 32 "NearEnough$Step" "low" "J", .methodLink RX9 51 Lib.MathLoose.max_long.x, .static Lib.MathLoose.max_long.x, .code Lib.MathLoose.max_long.x Lib.MathLoose.max_long.code 4 (some .long), .fieldLink RX9 36 "NearEnough$Step" "high" "J"]
def vs_g_spread : List Cond := .code yX9_spread cX9_spread 5 none :: (ow_g_spread ++ (wsX90))
theorem vg_g_spread : vs_g_spread.all goodWord = true := by decide +kernel
theorem dd_g_spread : yX9_spread.cls = RX9 ∧ yX9_spread.cls ≠ "java/lang/invoke/MethodHandle" ∧ yX9_spread.cls ≠ "java/lang/invoke/VarHandle" ∧ (parseMethodDescriptor yX9_spread.desc).map (fun d => d.parameters.length) = some 2 := by decide +kernel
def rm_g_spread : Room := { frames := 1, cells := 0, slots := 0, locals := 24 }
set_option maxHeartbeats 4000000 in
set_option maxRecDepth 100000 in
theorem g_spread (l : Launch) (dC : Nat → ClassId) (dI : Nat → Nat → Nat) (adK adV : Nat → Nat) (κ : CE) (sz : Nat) (σ : MS) (a : Nat) (t_a : TT) (x : Int64) (y : Int64) (ha : a ∈ kL κ) (hk : ∀ t : TT, PInv (ku κ a t)) (hI : RInv σ)  : Met l yX9_spread vs_g_spread rm_g_spread (va_Pc [.ref a, .long x, .long y] (wSr dC dI adK adV (rW (ku κ a t_a) σ) (rT κ) sz)) (va_Qv (fun (u : TT × MS) => RInv u.2 ∧ (u.1.1 = t_a.1 ∧ u.1.2.2 = t_a.2.2 ∧ u.2 = σ)) (fun (u : TT × MS) => wEn dC dI (va_A (rW (ku κ a t_a) σ) sz) (rW (ku κ a u.1) u.2) []) (va_A (rW (ku κ a t_a) σ) sz)) 0 0 (va_A (rW (ku κ a t_a) σ) sz) := by
  refine Met.ofW (cc := cX9_spread) (maxL := 5) (ret := none) (by decide +kernel) rfl ?_
  intro p e s m args below meth c s₁ B hml hv
  obtain ⟨rfl, ⟨hsz, hP, hK, hD0, hE⟩, hZ, hR⟩ := hv
  have hx := B.exec
  have hb := B.bytes
  have hr := B.returns
  have hts := atoms_spec (ws := vs_g_spread) B.pre
  have hown : s.vm.findClass RX9 = some m.cls := findClass_of_methodNamed B.named
  have hlocks := B.notSynchronized
  subst hsz
  have hD := hD0.self (sz := s.heap.size)
  generalize hAe : va_A (rW (ku κ a t_a) σ) s.heap.size = A at hD hZ ⊢
  have hA : ∀ q : Nat, s.heap.size ≤ q → A q := fun q h => by rw [← hAe]; exact Or.inr h
  have hl := lv_entry ([.ref a, .long x, .long y]) (n := 5) (Nat.le_of_ble_eq_true rfl)
  rw [lg_entry_eq]
  generalize (lg_sl ([.ref a, .long x, .long y]) ++ List.replicate (5 - (lg_sl ([.ref a, .long x, .long y])).length) Slot.unset).toArray = ls at hl ⊢
  have hl : lv_has ls 5 [(0, .ref a), (1, .long x), (3, .long y)] := hl
  have ho := fun w (h : w ∈ ow_g_spread) => hts w (List.mem_cons_of_mem _ (List.mem_append_left _ h))
  have hin9 : ∀ w ∈ u_ws RX9 TX9 11, w ∈ vs_g_spread := fun w h => (List.mem_cons_of_mem _ (List.mem_append_right _ h))
  refine zQ (fun Q hQ => ?_)
  refine zH (A := A) (ws := (rW (ku κ a t_a) σ)) (fun H hP hS => ?_) hP
  have hk0 : 0 ≤ (pI κ 0).toInt ∧ (pI κ 0).toInt ≤ 2 := (hk t_a).1
  have hk1 : 0 ≤ (pI κ 1).toInt ∧ (pI κ 1).toInt ≤ 12 := (hk t_a).2.1
  have hk2 : 0 ≤ (pI κ 2).toInt ∧ (pI κ 2).toInt ≤ 4 := (hk t_a).2.2.1
  refine lv_aload_n hx hb dX9_spread_0 rfl (lv_at hl 0 rfl) ?_
  refine lv_lload_n hx hb dX9_spread_1 rfl (lv_at hl 1 rfl) ?_
  refine lv_lload_n hx hb dX9_spread_2 rfl (lv_at hl 2 rfl) ?_
  refine va_mmin_long hx hb (hml.trans hl.1.symm) hown (ho (.methodLink RX9 45 Lib.MathLoose.min_long.x) (List.mem_of_getElem? (i := 0) rfl)) (ho (.static Lib.MathLoose.min_long.x) (List.mem_of_getElem? (i := 1) rfl)) (ho (.initialized "java/lang/Math") (List.mem_of_getElem? (i := 2) rfl)) (ho (.code Lib.MathLoose.min_long.x Lib.MathLoose.min_long.code 4 (some .long)) (List.mem_of_getElem? (i := 3) rfl)) (Nat.le_of_ble_eq_true rfl) (Nat.le_of_ble_eq_true rfl) (Nat.le_of_ble_eq_true rfl) (Nat.le_of_ble_eq_true rfl) dX9_spread_3 ?_
  refine lv_topl (fun y1_ ey1_ => ?_)
  obtain ⟨kn2_, hkn2_⟩ := rpl (κ := (ku κ a t_a)) (σ := σ) (a := a) ha kf_self
  have hD3_ := hD
  refine va_put (D := (dC, dI)) (ci := 9) (v := .long y1_) (ty := tyX9 9) (C := RX9) (T := TX9) (N := 11) hx hb hts hin9 tyX9 tyX9_ok nmX9 hown hK hP hD hS kn2_ hkn2_ rfl 9 (Nat.le_of_ble_eq_true rfl) (ho (.fieldLink RX9 32 "NearEnough$Step" "low" "J") (List.mem_of_getElem? (i := 4) rfl)) (fun _ h9 => h9) rfl (tyX9_ok 9 (Nat.le_of_ble_eq_true rfl)) rfl rfl (Nat.le_of_ble_eq_true rfl) dX9_spread_6 (fun H locs hP hD hS => ?_)
  obtain ⟨T4_, eT4_⟩ : ∃ x9 : TT, x9 = (t_a.1, vp_updL t_a.2.1 1 y1_, t_a.2.2) := ⟨_, rfl⟩
  have hP : va_P (dC, dI) vwCl (rW (ku κ a T4_) σ) H := by rw [show (rW (ku κ a T4_) σ) = _ from (rW_kw (e' := .inr (9, stV T4_)) hD3_ ha hkn2_).symm, eT4_]; exact hP
  have hD : va_D A (rW (ku κ a T4_) σ) := by rw [show (rW (ku κ a T4_) σ) = _ from (rW_kw (e' := .inr (9, stV T4_)) hD3_ ha hkn2_).symm, eT4_]; exact hD
  have i5_ : T4_.1 0 = (t_a.1 0) := (congrArg (fun z9 : TT => z9.1 0) eT4_).trans rfl
  have i6_ : T4_.1 1 = (t_a.1 1) := (congrArg (fun z9 : TT => z9.1 1) eT4_).trans rfl
  have i7_ : T4_.1 2 = (t_a.1 2) := (congrArg (fun z9 : TT => z9.1 2) eT4_).trans rfl
  have i8_ : T4_.1 3 = (t_a.1 3) := (congrArg (fun z9 : TT => z9.1 3) eT4_).trans rfl
  have i9_ : T4_.1 4 = (t_a.1 4) := (congrArg (fun z9 : TT => z9.1 4) eT4_).trans rfl
  refine lv_aload_n hx hb dX9_spread_9 rfl (lv_at hl 0 rfl) ?_
  refine lv_lload_n hx hb dX9_spread_10 rfl (lv_at hl 1 rfl) ?_
  refine lv_lload_n hx hb dX9_spread_11 rfl (lv_at hl 2 rfl) ?_
  refine va_mmax_long hx hb (hml.trans hl.1.symm) hown (ho (.methodLink RX9 51 Lib.MathLoose.max_long.x) (List.mem_of_getElem? (i := 5) rfl)) (ho (.static Lib.MathLoose.max_long.x) (List.mem_of_getElem? (i := 6) rfl)) (ho (.initialized "java/lang/Math") (List.mem_of_getElem? (i := 2) rfl)) (ho (.code Lib.MathLoose.max_long.x Lib.MathLoose.max_long.code 4 (some .long)) (List.mem_of_getElem? (i := 7) rfl)) (Nat.le_of_ble_eq_true rfl) (Nat.le_of_ble_eq_true rfl) (Nat.le_of_ble_eq_true rfl) (Nat.le_of_ble_eq_true rfl) dX9_spread_12 ?_
  refine lv_topl (fun y11_ ey11_ => ?_)
  obtain ⟨kn12_, hkn12_⟩ := rpl (κ := (ku κ a T4_)) (σ := σ) (a := a) ha kf_self
  have hD13_ := hD
  refine va_put (D := (dC, dI)) (ci := 9) (v := .long y11_) (ty := tyX9 10) (C := RX9) (T := TX9) (N := 11) hx hb hts hin9 tyX9 tyX9_ok nmX9 hown hK hP hD hS kn12_ hkn12_ rfl 10 (Nat.le_of_ble_eq_true rfl) (ho (.fieldLink RX9 36 "NearEnough$Step" "high" "J") (List.mem_of_getElem? (i := 8) rfl)) (fun _ h9 => h9) rfl (tyX9_ok 10 (Nat.le_of_ble_eq_true rfl)) rfl rfl (Nat.le_of_ble_eq_true rfl) dX9_spread_15 (fun H locs hP hD hS => ?_)
  obtain ⟨T14_, eT14_⟩ : ∃ x9 : TT, x9 = (T4_.1, vp_updL T4_.2.1 2 y11_, T4_.2.2) := ⟨_, rfl⟩
  have hP : va_P (dC, dI) vwCl (rW (ku κ a T14_) σ) H := by rw [show (rW (ku κ a T14_) σ) = _ from (rW_kw (e' := .inr (9, stV T14_)) hD13_ ha hkn12_).symm, eT14_]; exact hP
  have hD : va_D A (rW (ku κ a T14_) σ) := by rw [show (rW (ku κ a T14_) σ) = _ from (rW_kw (e' := .inr (9, stV T14_)) hD13_ ha hkn12_).symm, eT14_]; exact hD
  have i15_ : T14_.1 0 = (t_a.1 0) := (congrArg (fun z9 : TT => z9.1 0) eT14_).trans i5_
  have i16_ : T14_.1 1 = (t_a.1 1) := (congrArg (fun z9 : TT => z9.1 1) eT14_).trans i6_
  have i17_ : T14_.1 2 = (t_a.1 2) := (congrArg (fun z9 : TT => z9.1 2) eT14_).trans i7_
  have i18_ : T14_.1 3 = (t_a.1 3) := (congrArg (fun z9 : TT => z9.1 3) eT14_).trans i8_
  have i19_ : T14_.1 4 = (t_a.1 4) := (congrArg (fun z9 : TT => z9.1 4) eT14_).trans i9_
  rw [hQ]
  exact W.vret hx hb hr (fun t ht hW => ⟨⟨(T14_, σ), rfl, ⟨hI, ⟨(by rw [eT14_, eT4_]), (by rw [eT14_, eT4_]), rfl⟩⟩, wEn_of hP (hK.sub [] rfl) hD ht hW⟩, hS.F ht⟩) hS.2.2 dX9_spread_18
def ow_g_scaled : List Cond := [.fieldLink RX9 29 "NearEnough$Step" "over" "I", .fieldLink RX9 26 "NearEnough$Step" "by" "I"]
def vs_g_scaled : List Cond := .code yX9_scaled cX9_scaled 3 (some .long) :: (ow_g_scaled ++ (wsX90))
theorem vg_g_scaled : vs_g_scaled.all goodWord = true := by decide +kernel
theorem dd_g_scaled : yX9_scaled.cls = RX9 ∧ yX9_scaled.cls ≠ "java/lang/invoke/MethodHandle" ∧ yX9_scaled.cls ≠ "java/lang/invoke/VarHandle" ∧ (parseMethodDescriptor yX9_scaled.desc).map (fun d => d.parameters.length) = some 1 := by decide +kernel
def rm_g_scaled : Room := { frames := 0, cells := 0, slots := 0, locals := 0 }
set_option maxHeartbeats 4000000 in
set_option maxRecDepth 100000 in
theorem g_scaled (l : Launch) (dC : Nat → ClassId) (dI : Nat → Nat → Nat) (adK adV : Nat → Nat) (κ : CE) (sz : Nat) (σ : MS) (a : Nat) (t_a : TT) (x : Int64) (ha : a ∈ kL κ) (hk : ∀ t : TT, PInv (ku κ a t)) (hI : RInv σ)  : Met l yX9_scaled vs_g_scaled rm_g_scaled (va_Pc [.ref a, .long x] (wSr dC dI adK adV (rW (ku κ a t_a) σ) (rT κ) sz)) (va_Ql (fun (r : Int64) (u : TT × MS) => u = (t_a, σ) ∧ True) (fun (u : TT × MS) => wEn dC dI (va_A (rW (ku κ a t_a) σ) sz) (rW (ku κ a u.1) u.2) []) (va_A (rW (ku κ a t_a) σ) sz)) 0 0 (va_A (rW (ku κ a t_a) σ) sz) := by
  refine Met.ofW (cc := cX9_scaled) (maxL := 3) (ret := (some .long)) (by decide +kernel) rfl ?_
  intro p e s m args below meth c s₁ B hml hv
  obtain ⟨rfl, ⟨hsz, hP, hK, hD0, hE⟩, hZ, hR⟩ := hv
  have hx := B.exec
  have hb := B.bytes
  have hr := B.returns
  have hts := atoms_spec (ws := vs_g_scaled) B.pre
  have hown : s.vm.findClass RX9 = some m.cls := findClass_of_methodNamed B.named
  have hlocks := B.notSynchronized
  subst hsz
  have hD := hD0.self (sz := s.heap.size)
  generalize hAe : va_A (rW (ku κ a t_a) σ) s.heap.size = A at hD hZ ⊢
  have hA : ∀ q : Nat, s.heap.size ≤ q → A q := fun q h => by rw [← hAe]; exact Or.inr h
  have hl := lv_entry ([.ref a, .long x]) (n := 3) (Nat.le_of_ble_eq_true rfl)
  rw [lg_entry_eq]
  generalize (lg_sl ([.ref a, .long x]) ++ List.replicate (3 - (lg_sl ([.ref a, .long x])).length) Slot.unset).toArray = ls at hl ⊢
  have hl : lv_has ls 3 [(0, .ref a), (1, .long x)] := hl
  have ho := fun w (h : w ∈ ow_g_scaled) => hts w (List.mem_cons_of_mem _ (List.mem_append_left _ h))
  have hin9 : ∀ w ∈ u_ws RX9 TX9 11, w ∈ vs_g_scaled := fun w h => (List.mem_cons_of_mem _ (List.mem_append_right _ h))
  refine zQ (fun Q hQ => ?_)
  refine zH (A := A) (ws := (rW (ku κ a t_a) σ)) (fun H hP hS => ?_) hP
  have hk0 : 0 ≤ (pI κ 0).toInt ∧ (pI κ 0).toInt ≤ 2 := (hk t_a).1
  have hk1 : 0 ≤ (pI κ 1).toInt ∧ (pI κ 1).toInt ≤ 12 := (hk t_a).2.1
  have hk2 : 0 ≤ (pI κ 2).toInt ∧ (pI κ 2).toInt ≤ 4 := (hk t_a).2.2.1
  refine lv_aload_n hx hb dX9_scaled_0 rfl (lv_at hl 0 rfl) ?_
  obtain ⟨kn1_, hkn1_⟩ := rpl (κ := (ku κ a t_a)) (σ := σ) (a := a) ha kf_self
  refine va_get (D := (dC, dI)) (ci := 9) (v := .int (t_a.1 6)) (C := RX9) (T := TX9) (N := 11) hx hb hts hin9 hown hK hP kn1_ hkn1_ rfl 8 (Nat.le_of_ble_eq_true rfl) (ho (.fieldLink RX9 29 "NearEnough$Step" "over" "I") (List.mem_of_getElem? (i := 0) rfl)) (fun _ h9 => h9) rfl dX9_scaled_1 ?_
  refine lv_if_ne (tgt := 11) hx hb dX9_scaled_4 rfl (fun c2_ => ?_) (fun c2_ => ?_)
  · have tc2_ := (show (t_a.1 6).toInt ≠ 0 from ti_ne rfl rg_11 c2_)
    refine lv_lload_n hx hb dX9_scaled_11 rfl (lv_at hl 1 rfl) ?_
    refine lv_aload_n hx hb dX9_scaled_12 rfl (lv_at hl 0 rfl) ?_
    obtain ⟨kn3_, hkn3_⟩ := rpl (κ := (ku κ a t_a)) (σ := σ) (a := a) ha kf_self
    refine va_get (D := (dC, dI)) (ci := 9) (v := .int (t_a.1 5)) (C := RX9) (T := TX9) (N := 11) hx hb hts hin9 hown hK hP kn3_ hkn3_ rfl 7 (Nat.le_of_ble_eq_true rfl) (ho (.fieldLink RX9 26 "NearEnough$Step" "by" "I") (List.mem_of_getElem? (i := 1) rfl)) (fun _ h9 => h9) rfl dX9_scaled_13 ?_
    refine lv_i2l hx hb dX9_scaled_16 rfl ?_
    refine lv_topl (fun y4_ ey4_ => ?_)
    refine lv_lmul hx hb dX9_scaled_17 ?_
    refine lv_topl (fun y5_ ey5_ => ?_)
    refine lv_aload_n hx hb dX9_scaled_18 rfl (lv_at hl 0 rfl) ?_
    obtain ⟨kn6_, hkn6_⟩ := rpl (κ := (ku κ a t_a)) (σ := σ) (a := a) ha kf_self
    refine va_get (D := (dC, dI)) (ci := 9) (v := .int (t_a.1 6)) (C := RX9) (T := TX9) (N := 11) hx hb hts hin9 hown hK hP kn6_ hkn6_ rfl 8 (Nat.le_of_ble_eq_true rfl) (ho (.fieldLink RX9 29 "NearEnough$Step" "over" "I") (List.mem_of_getElem? (i := 0) rfl)) (fun _ h9 => h9) rfl dX9_scaled_19 ?_
    refine lv_i2l hx hb dX9_scaled_22 rfl ?_
    refine lv_topl (fun y7_ ey7_ => ?_)
    have o1 : (t_a.1 6).toInt ≠ 0 := by omega
    refine lv_ldiv hx hb dX9_scaled_23 (i2l_ne ey7_ o1) ?_
    refine lv_topl (fun y8_ ey8_ => ?_)
    rw [hQ]
    exact W.lret (v := y8_) hx hb hr (fun t ht hW => ⟨⟨y8_, (t_a, σ), rfl, ⟨rfl, trivial⟩, wEn_of hP (hK.sub [] rfl) hD ht hW⟩, hS.F ht⟩) hS.2.2 dX9_scaled_24
  · have tc2_ := (show (t_a.1 6).toInt = 0 from ti_eq rfl rg_11 c2_)
    refine lv_lconst (v := 0) hx hb dX9_scaled_7 (by decide) ?_
    refine lv_goto (tgt := 24) hx hb dX9_scaled_8 rfl ?_
    rw [hQ]
    exact W.lret (v := 0) hx hb hr (fun t ht hW => ⟨⟨0, (t_a, σ), rfl, ⟨rfl, trivial⟩, wEn_of hP (hK.sub [] rfl) hD ht hW⟩, hS.F ht⟩) hS.2.2 dX9_scaled_24

theorem sh_two : ∀ k, k < 11 → 1 ≤ k → 2 ≤ (shF (nI k)).toInt ∧ (shF (nI k)).toInt ≤ 1024 := by decide
theorem shF_bd {n : Int32} (h0 : 1 ≤ n.toInt) (h1 : n.toInt ≤ 10) : 2 ≤ (shF n).toInt ∧ (shF n).toInt ≤ 1024 := by
  obtain ⟨k, hk, e⟩ := nI_of2 (x := n) (M := 10) (n := 10) (by decide) (fun z => by have := Int32.lt_iff_toInt_lt.mp z; have e0 : (0 : Int32).toInt = 0 := (by decide); omega) (Int32.le_iff_toInt_le.mpr (by have e9 : (10 : Int32).toInt = 10 := (by decide); omega))
  have e2 : n.toInt = k := by rw [e]; exact nI_toInt (by omega)
  rw [e]; exact sh_two k (by omega) (by omega)
theorem mx_df {F G : Nat → Int} {d : Int} {n : Nat} (hn : 1 ≤ n) (hF : ∀ i, i < n → -1000000 ≤ F i) (hG : ∀ i, i < n → -1000000 ≤ G i) (h : ∀ i, i < n → -d ≤ F i - G i ∧ F i - G i ≤ 0) : -d ≤ mxf F n - mxf G n ∧ mxf F n - mxf G n ≤ 0 := by
  obtain ⟨i, hi, e1⟩ := mxf_in hn hF
  obtain ⟨k, hk, e2⟩ := mxf_in hn hG
  have a1 := mxf_ge (F := F) k hk
  have a2 := mxf_ge (F := G) i hi
  have b1 := h i hi
  have b2 := h k hk
  omega
theorem sm_rest {F : Nat → Int} {x y : Int} {n d : Nat} (h : ∀ i, i < n + d → x ≤ F i ∧ F i ≤ y) : (d : Int) * x ≤ sm F (n + d) - sm F n ∧ sm F (n + d) - sm F n ≤ (d : Int) * y := by
  induction d with
  | zero => simp
  | succ d ih =>
    have h1 := ih (fun i hi => h i (by omega))
    have h2 := h (n + d) (by omega)
    have e1 : ((d + 1 : Nat) : Int) * x = (d : Int) * x + x := by rw [Int.natCast_add, Int.add_mul]; simp
    have e2 : ((d + 1 : Nat) : Int) * y = (d : Int) * y + y := by rw [Int.natCast_add, Int.add_mul]; simp
    have e3 : sm F (n + (d + 1)) = sm F (n + d) + F (n + d) := rfl
    omega
theorem mxf_mono {F : Nat → Int} {n d : Nat} : mxf F n ≤ mxf F (n + d) := by
  induction d with
  | zero => exact Int.le_refl _
  | succ d ih =>
    show mxf F n ≤ (if F (n + d) < mxf F (n + d) then mxf F (n + d) else F (n + d))
    by_cases c : F (n + d) < mxf F (n + d)
    · rw [if_pos c]; exact ih
    · rw [if_neg c]; omega
/-- what comes of a STEP by its CHANGE -/
def caV (B : Nat) (T : Nat → Nat → Int32) (J : Nat → Nat → Int64) (c : Int32) (j : Nat) (W : Int64) : Int64 := if OnK T c 4 then FO (J 27 (12 * B + j) + J 28 (12 * B + j)) 2 else if OnK T c 1 then FO W (shF (T 35 c.toNatClampNeg)) * shF (T 35 c.toNatClampNeg) else W
section CAN
variable {B : Nat} {T : Nat → Nat → Int32} {J : Nat → Nat → Int64} {nb : Bool} {fr : Nat → Int32} {base c : Int32} {j : Nat} {pl cm L H : Nat → Int64}
/-- the ROW's numbers, as CHANGES read them -/
theorem row_num (hs : StOk (T 17 (12 * B + j)).toInt (T 18 (12 * B + j)).toInt (T 19 (12 * B + j)).toInt (T 20 (12 * B + j)).toInt (T 21 (12 * B + j)).toInt (T 11 B).toInt j) (hr : RwT B T) (hn : NumR B T nb fr base) (hk : (T 17 (12 * B + j)).toInt = 0 ∨ (T 17 (12 * B + j)).toInt = 1 ∨ (T 17 (12 * B + j)).toInt = 6) (c : Int32) : ∃ (X Y : Int), (ofA B T j).toInt = (T 14 (rw9 B T j)).toInt ∧ X = (T 15 (rw9 B T j)).toInt ∧ Y = (T 16 (rw9 B T j)).toInt ∧ 1 ≤ (ofA B T j).toInt ∧ (ofA B T j).toInt ≤ 6 ∧ -999 ≤ X ∧ X ≤ Y ∧ Y ≤ 999 ∧ (∀ i : Nat, (i : Int) < (ofA B T j).toInt → X ≤ uX fr base (aX B T j) i ∧ uX fr base (aX B T j) i ≤ Y) ∧ (∀ i : Nat, (i : Int) < (ofA B T j).toInt → X ≤ uX fr (bsF T nb base c) (aX B T j) i ∧ uX fr (bsF T nb base c) (aX B T j) i ≤ Y) := by
  obtain ⟨r1, r2, r3, r4, r5, r6⟩ := row_ctx hs hr hk
  exact ⟨_, _, rfl, rfl, rfl, r2, r3, r4, r5, r6, fun i hi => (hn _ r1 i hi).1, fun i hi => hn.bs c r1 hi⟩
theorem ski_snd (hs : StOk (T 17 (12 * B + j)).toInt (T 18 (12 * B + j)).toInt (T 19 (12 * B + j)).toInt (T 20 (12 * B + j)).toInt (T 21 (12 * B + j)).toInt (T 11 B).toInt j) (hr : RwT B T) (hn : NumR B T nb fr base) (hv : SpnV B (12 * B + j) T J (J 27 (12 * B + j)) (J 28 (12 * B + j))) (h0 : OnK T c 0) (hk : (T 17 (12 * B + j)).toInt = 0) (hN : 2 ≤ (T 35 c.toNatClampNeg).toInt ∧ (T 35 c.toNatClampNeg).toInt ≤ 6) :
    (shLo B T J L H c j).toInt ≤ (wkF B T nb fr cm j base c).toInt - (wkF B T nb fr pl j base (-1)).toInt ∧ (wkF B T nb fr cm j base c).toInt - (wkF B T nb fr pl j base (-1)).toInt ≤ (shHi B T J L H c j).toInt := by
  obtain ⟨X, Y, em, eX, eY, m1, m6, x1, xy, y1, hu, -⟩ := row_num hs hr hn (Or.inl hk) c
  have hu9 : ∀ i : Nat, (i : Int) < (ofA B T j).toInt → -999 ≤ uX fr base (aX B T j) i ∧ uX fr base (aX B T j) i ≤ 999 := fun i hi => ⟨Int.le_trans x1 (hu i hi).1, Int.le_trans (hu i hi).2 y1⟩
  have q := ti_cl (x := ofA B T j) rfl (by omega)
  have q2 := ti_cl (x := T 35 c.toNatClampNeg) rfl (by omega)
  obtain ⟨t, ht⟩ : ∃ t, t = ((ofA B T j).toNatClampNeg + (T 35 c.toNatClampNeg).toNatClampNeg - 1) / (T 35 c.toNatClampNeg).toNatClampNeg := ⟨_, rfl⟩
  have e1 := of_ski (nb := nb) (fr := fr) (base := base) ⟨m1, m6⟩ hu9 h0 hN ht hk
  have e2 := (of_neu (nb := nb) (fr := fr) (base := base) (c := -1) ⟨m1, m6⟩ hu9 m1_ng m1_ng m1_ng m1_ng).2 hk
  have sk := skip_int (v := uX fr base (aX B T j)) (X := X) (Y := Y) (m := (ofA B T j).toNatClampNeg) (n := (T 35 c.toNatClampNeg).toNatClampNeg) (t := t) (by omega) (by omega) ht (fun i hi => hu i (by omega))
  rw [q] at sk
  have ev := hv.1 hk
  have b1 := mul_abs (x := (ofA B T j).toInt) (y := X) (a := 6) (b := 999) (by omega) (by omega) (by omega) (by omega)
  have b2 := mul_abs (x := (ofA B T j).toInt) (y := Y) (a := 6) (b := 999) (by omega) (by omega) (by omega) (by omega)
  have j7 : (J 27 (12 * B + j)).toInt = (ofA B T j).toInt * X := by
    rw [ev.1]; exact t_mul (by rw [tz_i2l, em]) (by rw [tz_i2l, eX]) (by omega) (by omega)
  have j8 : (J 28 (12 * B + j)).toInt = (ofA B T j).toInt * Y := by
    rw [ev.2]; exact t_mul (by rw [tz_i2l, em]) (by rw [tz_i2l, eY]) (by omega) (by omega)
  have ht6 : t ≤ 6 := by
    have : t * 2 ≤ (ofA B T j).toNatClampNeg + (T 35 c.toNatClampNeg).toNatClampNeg - 1 := Nat.le_trans (Nat.mul_le_mul_left t (show 2 ≤ (T 35 c.toNatClampNeg).toNatClampNeg by omega)) (by rw [ht]; exact Nat.div_mul_le_self _ _)
    omega
  have sl : (skL B T j c).toInt = (ofA B T j).toInt - t := by
    unfold skL
    have d1 : (T 14 (rw9 B T j) + T 35 c.toNatClampNeg - 1).toInt = (ofA B T j).toInt + (T 35 c.toNatClampNeg).toInt - 1 := ti_sub rfl (ti_add rfl em.symm rfl (by omega) (by omega)) one_i (by omega) (by omega)
    have d2 : ((T 14 (rw9 B T j) + T 35 c.toNatClampNeg - 1) / T 35 c.toNatClampNeg).toInt = t := by
      rw [Int32.toInt_div, d1, ← q, ← q2, show ((((ofA B T j).toNatClampNeg : Nat) : Int) + ((T 35 c.toNatClampNeg).toNatClampNeg : Nat) - 1) = (((ofA B T j).toNatClampNeg + (T 35 c.toNatClampNeg).toNatClampNeg - 1 : Nat) : Int) by omega, ← Int.ofNat_tdiv, ← ht]
      exact Int.bmod_eq_of_le (by omega) (by omega)
    exact ti_sub rfl em.symm d2 (by omega) (by omega)
  have lf : -6 ≤ (ofA B T j).toInt - t ∧ (ofA B T j).toInt - t ≤ 6 := by omega
  have key : ∀ Z : Int, -12000 ≤ Z → Z ≤ 12000 → ∀ d : Int64, d.toInt = (ofA B T j).toInt * Z → ((skL B T j c).toInt64 * d / (T 14 (rw9 B T j)).toInt64).toInt = ((ofA B T j).toInt - t) * Z ∧ -100000 ≤ ((ofA B T j).toInt - t) * Z ∧ ((ofA B T j).toInt - t) * Z ≤ 100000 := fun Z z1 z2 d hd => by
    have b3 := mul_abs (x := (ofA B T j).toInt) (y := Z) (a := 6) (b := 12000) (by omega) (by omega) (by omega) (by omega)
    have b4 := mul_abs (x := (ofA B T j).toInt - t) (y := (ofA B T j).toInt * Z) (a := 6) (b := 72000) (by omega) (by omega) (by omega) (by omega)
    have b5 := mul_abs (x := (ofA B T j).toInt - t) (y := Z) (a := 6) (b := 12000) (by omega) (by omega) (by omega) (by omega)
    have p1 : ((skL B T j c).toInt64 * d).toInt = ((ofA B T j).toInt - t) * ((ofA B T j).toInt * Z) := t_mul (by rw [tz_i2l, sl]) hd (by omega) (by omega)
    refine ⟨?_, by omega, by omega⟩
    rw [t_div p1 (show (T 14 (rw9 B T j)).toInt64.toInt = (ofA B T j).toInt by rw [tz_i2l, em]) (by omega), Int.mul_left_comm]
    exact Int.mul_tdiv_cancel_left _ (by omega)
  have k1 := key (X - Y) (by omega) (by omega) (J 27 (12 * B + j) - J 28 (12 * B + j)) (by rw [t_sub j7 j8 (by omega) (by omega), Int.mul_sub])
  have k2 := key (Y - X) (by omega) (by omega) (J 28 (12 * B + j) - J 27 (12 * B + j)) (by rw [t_sub j8 j7 (by omega) (by omega), Int.mul_sub])
  rw [(sh_0 h0).1, (sh_0 h0).2, wk_0 (Or.inl hk), wk_0 (Or.inl hk), e1, e2, t_sub k1.1 o64 (by omega) (by omega), t_add k2.1 o64 (by omega) (by omega)]
  exact sk
end CAN

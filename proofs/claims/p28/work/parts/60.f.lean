/-- what comes of a STEP, within its SPAN; its ERROR, within what is SHOWN -/
def Snd (B : Nat) (J : Nat → Nat → Int64) (pl cm L H : Nat → Int64) (i : Nat) : Prop := (J 27 (12 * B + i)).toInt ≤ (pl i).toInt ∧ (pl i).toInt ≤ (J 28 (12 * B + i)).toInt ∧ (L i).toInt ≤ (cm i).toInt - (pl i).toInt ∧ (cm i).toInt - (pl i).toInt ≤ (H i).toInt ∧ -1000000000 ≤ (J 27 (12 * B + i)).toInt ∧ (J 28 (12 * B + i)).toInt ≤ 1000000000 ∧ -1000000000 ≤ (L i).toInt ∧ (H i).toInt ≤ 1000000000
/-- the part of it without CHANGES -/
def SndP (B : Nat) (J : Nat → Nat → Int64) (pl : Nat → Int64) (i : Nat) : Prop := (J 27 (12 * B + i)).toInt ≤ (pl i).toInt ∧ (pl i).toInt ≤ (J 28 (12 * B + i)).toInt ∧ -1000000000 ≤ (J 27 (12 * B + i)).toInt ∧ (J 28 (12 * B + i)).toInt ≤ 1000000000
theorem Snd.p {B : Nat} {J : Nat → Nat → Int64} {pl cm L H : Nat → Int64} {i : Nat} (h : Snd B J pl cm L H i) : SndP B J pl i := ⟨h.1, h.2.1, h.2.2.2.2.1, h.2.2.2.2.2.1⟩
theorem m1_ng {T : Nat → Nat → Int32} {k : Int} : ¬ OnK T (-1) k := on_ng (by rw [m1_toInt]; omega)
theorem tdiv_mono {a b c : Int} (hc : 0 < c) (h : a ≤ b) : a.tdiv c ≤ b.tdiv c := by
  have h1 := tdiv_bd (a := a) hc
  have h2 := tdiv_bd (a := b) hc
  rcases Int.le_total 0 a with p | p
  · -- both at or above 0
    have q1 := (h1.2.2.1 p).2
    have : c * a.tdiv c < c * (b.tdiv c + 1) := by rw [Int.mul_add, Int.mul_one]; omega
    have := Int.lt_of_mul_lt_mul_left this (by omega)
    omega
  · rcases Int.le_total 0 b with r | r
    · have := (h1.2.2.2 p).1; have := (h2.2.2.1 r).1; omega
    · have q2 := (h2.2.2.2 r).2
      have : c * a.tdiv c < c * (b.tdiv c + 1) := by rw [Int.mul_add, Int.mul_one]; omega
      have := Int.lt_of_mul_lt_mul_left this (by omega)
      omega
section PLN
variable {B : Nat} {T : Nat → Nat → Int32} {J : Nat → Nat → Int64} {nb : Bool} {fr : Nat → Int32} {base : Int32} {j : Nat} {pl : Nat → Int64}
/-- a STEP of a ROW that stands -/
theorem row_ctx (hs : StOk (T 17 (12 * B + j)).toInt (T 18 (12 * B + j)).toInt (T 19 (12 * B + j)).toInt (T 20 (12 * B + j)).toInt (T 21 (12 * B + j)).toInt (T 11 B).toInt j) (hr : RwT B T) (hk : (T 17 (12 * B + j)).toInt = 0 ∨ (T 17 (12 * B + j)).toInt = 1 ∨ (T 17 (12 * B + j)).toInt = 6) : (((T 18 (12 * B + j)).toNatClampNeg : Nat) : Int) < (T 11 B).toInt ∧ 1 ≤ (T 14 (2 * B + (T 18 (12 * B + j)).toNatClampNeg)).toInt ∧ (T 14 (2 * B + (T 18 (12 * B + j)).toNatClampNeg)).toInt ≤ 6 ∧ -999 ≤ (T 15 (2 * B + (T 18 (12 * B + j)).toNatClampNeg)).toInt ∧ (T 15 (2 * B + (T 18 (12 * B + j)).toNatClampNeg)).toInt ≤ (T 16 (2 * B + (T 18 (12 * B + j)).toNatClampNeg)).toInt ∧ (T 16 (2 * B + (T 18 (12 * B + j)).toNatClampNeg)).toInt ≤ 999 := by
  unfold StOk at hs
  have a := hs.2.2.1 hk
  have q : (((T 18 (12 * B + j)).toNatClampNeg : Nat) : Int) = (T 18 (12 * B + j)).toInt := ti_cl (x := T 18 (12 * B + j)) rfl a.1
  have h1 : (((T 18 (12 * B + j)).toNatClampNeg : Nat) : Int) < (T 11 B).toInt := by rw [q]; exact a.2
  exact ⟨h1, hr _ h1⟩
theorem wk_pl (hs : StOk (T 17 (12 * B + j)).toInt (T 18 (12 * B + j)).toInt (T 19 (12 * B + j)).toInt (T 20 (12 * B + j)).toInt (T 21 (12 * B + j)).toInt (T 11 B).toInt j) (hr : RwT B T) (hn : NumR B T nb fr base) (hv : SpnV B (12 * B + j) T J (J 27 (12 * B + j)) (J 28 (12 * B + j))) (ih : ∀ i, i < j → SndP B J pl i) :
    (J 27 (12 * B + j)).toInt ≤ (wkF B T nb fr pl j base (-1)).toInt ∧ (wkF B T nb fr pl j base (-1)).toInt ≤ (J 28 (12 * B + j)).toInt := by
  have hk : (T 17 (12 * B + j)).toInt = 0 ∨ (T 17 (12 * B + j)).toInt = 1 ∨ (T 17 (12 * B + j)).toInt = 2 ∨ (T 17 (12 * B + j)).toInt = 3 ∨ (T 17 (12 * B + j)).toInt = 4 ∨ (T 17 (12 * B + j)).toInt = 5 ∨ (T 17 (12 * B + j)).toInt = 6 ∨ (T 17 (12 * B + j)).toInt = 7 := by unfold StOk at hs; omega
  have hs' := hs
  unfold StOk at hs'
  obtain ⟨-, -, -, ha, hb, h5, hcd⟩ := hs'
  rcases hk with k | k | k | k | k | k | k | k
  · obtain ⟨r1, r2, r3, r4, r5, r6⟩ := row_ctx hs hr (Or.inl k)
    have hu : ∀ i : Nat, (i : Int) < (ofA B T j).toInt → (T 15 (2 * B + (T 18 (12 * B + j)).toNatClampNeg)).toInt ≤ uX fr base ((T 18 (12 * B + j)).toNatClampNeg) i ∧ uX fr base ((T 18 (12 * B + j)).toNatClampNeg) i ≤ (T 16 (2 * B + (T 18 (12 * B + j)).toNatClampNeg)).toInt := fun i hi => (hn _ r1 i hi).1
    have q := ti_cl (x := ofA B T j) rfl (show 0 ≤ (T 14 (2 * B + (T 18 (12 * B + j)).toNatClampNeg)).toInt by omega)
    have h := (of_neu (nb := nb) (fr := fr) (base := base) (c := -1) ⟨r2, r3⟩ (fun i hi => ⟨Int.le_trans r4 (hu i hi).1, Int.le_trans (hu i hi).2 r6⟩) m1_ng m1_ng m1_ng m1_ng).2 k
    rw [wk_0 (Or.inl k), h]
    have hb := sm_bd (n := (ofA B T j).toNatClampNeg) (fun i hi => hu i (by rw [← q]; omega))
    rw [q] at hb
    have e := hv.1 k
    have b1 := mul_abs (x := (T 14 (2 * B + (T 18 (12 * B + j)).toNatClampNeg)).toInt) (y := (T 15 (2 * B + (T 18 (12 * B + j)).toNatClampNeg)).toInt) (a := 6) (b := 999) (by omega) (by omega) (by omega) (by omega)
    have b2 := mul_abs (x := (T 14 (2 * B + (T 18 (12 * B + j)).toNatClampNeg)).toInt) (y := (T 16 (2 * B + (T 18 (12 * B + j)).toNatClampNeg)).toInt) (a := 6) (b := 999) (by omega) (by omega) (by omega) (by omega)
    rw [e.1, e.2, t_mul (tz_i2l _) (tz_i2l _) (by omega) (by omega), t_mul (tz_i2l _) (tz_i2l _) (by omega) (by omega)]
    exact hb
  · obtain ⟨r1, r2, r3, r4, r5, r6⟩ := row_ctx hs hr (Or.inr (Or.inl k))
    have hu : ∀ i : Nat, (i : Int) < (ofA B T j).toInt → (T 15 (2 * B + (T 18 (12 * B + j)).toNatClampNeg)).toInt ≤ uX fr base ((T 18 (12 * B + j)).toNatClampNeg) i ∧ uX fr base ((T 18 (12 * B + j)).toNatClampNeg) i ≤ (T 16 (2 * B + (T 18 (12 * B + j)).toNatClampNeg)).toInt := fun i hi => (hn _ r1 i hi).1
    have r2' : 1 ≤ (ofA B T j).toInt := r2
    have q := ti_cl (x := ofA B T j) rfl (by omega)
    have h := (of_neu (nb := nb) (fr := fr) (base := base) (c := -1) ⟨r2, r3⟩ (fun i hi => ⟨Int.le_trans r4 (hu i hi).1, Int.le_trans (hu i hi).2 r6⟩) m1_ng m1_ng m1_ng m1_ng).1 k
    rw [wk_0 (Or.inr k), h]
    have hb := mxf_bd (n := (ofA B T j).toNatClampNeg) (by omega) (by omega) (fun i hi => hu i (by rw [← q]; omega))
    have e := hv.2.1 (Or.inl k)
    rw [e.1, e.2, t_mul (a := 1) (by decide) (tz_i2l _) (by omega) (by omega), t_mul (a := 1) (by decide) (tz_i2l _) (by omega) (by omega)]
    rw [Int.one_mul, Int.one_mul]; exact hb
  · have a := ha (by omega); have b := hb (by omega)
    have s1 := ih _ (cl_lt a.1 a.2); have s2 := ih _ (cl_lt b.1 b.2)
    unfold SndP at s1 s2
    have e := hv.2.2.1 k
    rw [wk_2 k, e.1, e.2, t_add rfl rfl (by omega) (by omega), t_add rfl rfl (by omega) (by omega), t_add rfl rfl (by omega) (by omega)]
    omega
  · have a := ha (by omega); have b := hb (by omega)
    have s1 := ih _ (cl_lt a.1 a.2); have s2 := ih _ (cl_lt b.1 b.2)
    unfold SndP at s1 s2
    have e := hv.2.2.2.1 k
    rw [wk_3 k, e.1, e.2, t_sub rfl rfl (by omega) (by omega), t_sub rfl rfl (by omega) (by omega), t_sub rfl rfl (by omega) (by omega)]
    omega
  · have a := ha (by omega); have b := hb (by omega)
    have s1 := ih _ (cl_lt a.1 a.2); have s2 := ih _ (cl_lt b.1 b.2)
    unfold SndP at s1 s2
    have e := hv.2.2.2.2.1 k
    have P9 : ∀ x y : Int64, -1000000000 ≤ x.toInt → x.toInt ≤ 1000000000 → -1000000000 ≤ y.toInt → y.toInt ≤ 1000000000 → (x * y).toInt = x.toInt * y.toInt := fun x y h1 h2 h3 h4 => by
      have := mul_abs (x := x.toInt) (y := y.toInt) (a := 1000000000) (b := 1000000000) h1 h2 h3 h4
      exact t_mul rfl rfl (by omega) (by omega)
    have l := t_lo4 (J 27 (12 * B + (T 18 (12 * B + j)).toNatClampNeg) * J 27 (12 * B + (T 19 (12 * B + j)).toNatClampNeg)) (J 27 (12 * B + (T 18 (12 * B + j)).toNatClampNeg) * J 28 (12 * B + (T 19 (12 * B + j)).toNatClampNeg)) (J 28 (12 * B + (T 18 (12 * B + j)).toNatClampNeg) * J 27 (12 * B + (T 19 (12 * B + j)).toNatClampNeg)) (J 28 (12 * B + (T 18 (12 * B + j)).toNatClampNeg) * J 28 (12 * B + (T 19 (12 * B + j)).toNatClampNeg))
    have g := t_hi4 (J 27 (12 * B + (T 18 (12 * B + j)).toNatClampNeg) * J 27 (12 * B + (T 19 (12 * B + j)).toNatClampNeg)) (J 27 (12 * B + (T 18 (12 * B + j)).toNatClampNeg) * J 28 (12 * B + (T 19 (12 * B + j)).toNatClampNeg)) (J 28 (12 * B + (T 18 (12 * B + j)).toNatClampNeg) * J 27 (12 * B + (T 19 (12 * B + j)).toNatClampNeg)) (J 28 (12 * B + (T 18 (12 * B + j)).toNatClampNeg) * J 28 (12 * B + (T 19 (12 * B + j)).toNatClampNeg))
    rw [← e.1] at l
    rw [← e.2] at g
    rw [P9 _ _ (by omega) (by omega) (by omega) (by omega), P9 _ _ (by omega) (by omega) (by omega) (by omega), P9 _ _ (by omega) (by omega) (by omega) (by omega), P9 _ _ (by omega) (by omega) (by omega) (by omega)] at l g
    rw [wk_4 k, P9 _ _ (by omega) (by omega) (by omega) (by omega)]
    exact mul_box s1.1 s1.2.1 s2.1 s2.2.1 l.1 l.2.1 l.2.2.1 l.2.2.2.1 g.1 g.2.1 g.2.2.1 g.2.2.2.1
  · have a := ha (by omega)
    have s1 := ih _ (cl_lt a.1 a.2)
    have w5 := h5 k
    unfold SndP at s1
    have e := hv.2.2.2.2.2.1 k
    have P9 : ∀ x : Int64, -1000000000 ≤ x.toInt → x.toInt ≤ 1000000000 → (x * (T 19 (12 * B + j)).toInt64 / (T 20 (12 * B + j)).toInt64).toInt = (x.toInt * (T 19 (12 * B + j)).toInt).tdiv (T 20 (12 * B + j)).toInt := fun x h1 h2 => by
      have := mul_abs (x := x.toInt) (y := (T 19 (12 * B + j)).toInt) (a := 1000000000) (b := 99) h1 h2 (by omega) (by omega)
      exact t_div (t_mul rfl (tz_i2l _) (by omega) (by omega)) (tz_i2l _) (by omega)
    have l := t_ls (J 27 (12 * B + (T 18 (12 * B + j)).toNatClampNeg) * (T 19 (12 * B + j)).toInt64 / (T 20 (12 * B + j)).toInt64) (J 28 (12 * B + (T 18 (12 * B + j)).toNatClampNeg) * (T 19 (12 * B + j)).toInt64 / (T 20 (12 * B + j)).toInt64)
    have g := t_gt (J 27 (12 * B + (T 18 (12 * B + j)).toNatClampNeg) * (T 19 (12 * B + j)).toInt64 / (T 20 (12 * B + j)).toInt64) (J 28 (12 * B + (T 18 (12 * B + j)).toNatClampNeg) * (T 19 (12 * B + j)).toInt64 / (T 20 (12 * B + j)).toInt64)
    rw [← e.1] at l
    rw [← e.2] at g
    rw [P9 _ (by omega) (by omega), P9 _ (by omega) (by omega)] at l g
    rw [wk_5 k, P9 _ (by omega) (by omega)]
    rcases mul_le1 (y := (T 19 (12 * B + j)).toInt) s1.1 s1.2.1 with z | z
    · have z1 := tdiv_mono (c := (T 20 (12 * B + j)).toInt) (by omega) z.1
      have z2 := tdiv_mono (c := (T 20 (12 * B + j)).toInt) (by omega) z.2
      omega
    · have z1 := tdiv_mono (c := (T 20 (12 * B + j)).toInt) (by omega) z.1
      have z2 := tdiv_mono (c := (T 20 (12 * B + j)).toInt) (by omega) z.2
      omega
  · obtain ⟨r1, r2, r3, r4, r5, r6⟩ := row_ctx hs hr (Or.inr (Or.inr k))
    have e := hv.2.1 (Or.inr k)
    have hm := mod_rng (v := pl (T 19 (12 * B + j)).toNatClampNeg) (h := ofA B T j) r2 r3 rfl rfl
    have q := ti_cl (x := (pl (T 19 (12 * B + j)).toNatClampNeg - FO (pl (T 19 (12 * B + j)).toNatClampNeg) (ofA B T j).toInt64 * (ofA B T j).toInt64).toInt32) rfl hm.1
    have hu := (hn _ r1 (pl (T 19 (12 * B + j)).toNatClampNeg - FO (pl (T 19 (12 * B + j)).toNatClampNeg) (ofA B T j).toInt64 * (ofA B T j).toInt64).toInt32.toNatClampNeg (by rw [q]; exact hm.2)).1
    rw [wk_6 k, ← bs_n (T := T) (nb := nb) (base := base) (c := -1) (fun z => m1_ng z.1), ← by_n (T := T) (c := -1) m1_ng, tz_i2l]
    have cv := CO_val (v := fr (base.toNatClampNeg + 6 * (T 18 (12 * B + j)).toNatClampNeg + (pl (T 19 (12 * B + j)).toNatClampNeg - FO (pl (T 19 (12 * B + j)).toNatClampNeg) (ofA B T j).toInt64 * (ofA B T j).toInt64).toInt32.toNatClampNeg)) (n := 1) (by rw [one_i]; omega) (by rw [one_i]; omega) (by omega) (by omega)
    rw [one_i] at cv
    rw [e.1, e.2, t_mul (a := 1) (by decide) (tz_i2l _) (by omega) (by omega), t_mul (a := 1) (by decide) (tz_i2l _) (by omega) (by omega)]
    omega
  · have a := ha (by omega); have b := hb (by omega)
    have s1 := ih _ (cl_lt a.1 a.2); have s2 := ih _ (cl_lt b.1 b.2)
    unfold SndP at s1 s2
    have e := hv.2.2.2.2.2.2 k
    have l := t_ls (J 27 (12 * B + (T 18 (12 * B + j)).toNatClampNeg)) (J 27 (12 * B + (T 19 (12 * B + j)).toNatClampNeg))
    have g := t_gt (J 28 (12 * B + (T 18 (12 * B + j)).toNatClampNeg)) (J 28 (12 * B + (T 19 (12 * B + j)).toNatClampNeg))
    rw [← e.1] at l
    rw [← e.2] at g
    rw [wk_7 k, if_neg m1_ng]
    by_cases z : pl (T 20 (12 * B + j)).toNatClampNeg < pl (T 21 (12 * B + j)).toNatClampNeg
    · rw [if_pos z]; omega
    · rw [if_neg z]; omega
end PLN

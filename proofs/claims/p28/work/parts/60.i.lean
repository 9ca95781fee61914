section CAO
variable {B : Nat} {T : Nat → Nat → Int32} {J : Nat → Nat → Int64} {nb : Bool} {fr : Nat → Int32} {base c : Int32} {j : Nat} {pl cm L H : Nat → Int64}
/-- COARSE -/
theorem coa_snd (hs : StOk (T 17 (12 * B + j)).toInt (T 18 (12 * B + j)).toInt (T 19 (12 * B + j)).toInt (T 20 (12 * B + j)).toInt (T 21 (12 * B + j)).toInt (T 11 B).toInt j) (hr : RwT B T) (hn : NumR B T nb fr base) (ih : ∀ i, i < j → Snd B J pl cm L H i) (hok : spOk B T L H j) (h3 : OnK T c 3) (hk : (T 17 (12 * B + j)).toInt = 0 ∨ (T 17 (12 * B + j)).toInt = 1 ∨ (T 17 (12 * B + j)).toInt = 6) (hN : 2 ≤ (T 35 c.toNatClampNeg).toInt ∧ (T 35 c.toNatClampNeg).toInt ≤ 99) :
    (shLo B T J L H c j).toInt ≤ (wkF B T nb fr cm j base c).toInt - (wkF B T nb fr pl j base (-1)).toInt ∧ (wkF B T nb fr cm j base c).toInt - (wkF B T nb fr pl j base (-1)).toInt ≤ (shHi B T J L H c j).toInt := by
  obtain ⟨X, Y, em, eX, eY, m1, m6, x1, xy, y1, hu, -⟩ := row_num hs hr hn hk c
  have hu9 : ∀ i : Nat, (i : Int) < (ofA B T j).toInt → -999 ≤ uX fr base (aX B T j) i ∧ uX fr base (aX B T j) i ≤ 999 := fun i hi => ⟨Int.le_trans x1 (hu i hi).1, Int.le_trans (hu i hi).2 y1⟩
  have q := ti_cl (x := ofA B T j) rfl (by omega)
  have cv : ∀ i : Nat, (i : Int) < (ofA B T j).toInt → -((T 35 c.toNatClampNeg).toInt - 1) ≤ (T 35 c.toNatClampNeg).toInt * (uX fr base (aX B T j) i / (T 35 c.toNatClampNeg).toInt) - uX fr base (aX B T j) i ∧ (T 35 c.toNatClampNeg).toInt * (uX fr base (aX B T j) i / (T 35 c.toNatClampNeg).toInt) - uX fr base (aX B T j) i ≤ 0 := fun i hi => by
    have h9 := hu9 i hi
    have h8 : (CO (fr (base.toNatClampNeg + 6 * aX B T j + i)) (T 35 c.toNatClampNeg)).toInt = (T 35 c.toNatClampNeg).toInt * (uX fr base (aX B T j) i / (T 35 c.toNatClampNeg).toInt) ∧ uX fr base (aX B T j) i - ((T 35 c.toNatClampNeg).toInt - 1) ≤ (CO (fr (base.toNatClampNeg + 6 * aX B T j + i)) (T 35 c.toNatClampNeg)).toInt ∧ (CO (fr (base.toNatClampNeg + 6 * aX B T j + i)) (T 35 c.toNatClampNeg)).toInt ≤ uX fr base (aX B T j) i := CO_val (by omega) (by omega) h9.1 h9.2
    omega
  have n1 : ((T 35 c.toNatClampNeg) - 1).toInt = (T 35 c.toNatClampNeg).toInt - 1 := ti_sub rfl rfl one_i (by omega) (by omega)
  have e1 := of_neu (nb := nb) (fr := fr) (base := base) (c := -1) ⟨m1, m6⟩ hu9 m1_ng m1_ng m1_ng m1_ng
  have e2 := of_coa (nb := nb) (fr := fr) (base := base) (c := c) ⟨m1, m6⟩ hu9 h3 hN
  have s0 := sp_0 (J := J) (L := L) (H := H) hk
  rw [(sh_3 h3).1, (sh_3 h3).2, s0.1, s0.2, z64]
  rcases hk with k | k | k
  · have dd := sm_df (n := (ofA B T j).toNatClampNeg) (fun i hi => cv i (by omega))
    rw [q] at dd
    have b1 := mul_abs (x := (ofA B T j).toInt) (y := (T 35 c.toNatClampNeg).toInt - 1) (a := 6) (b := 98) (by omega) (by omega) (by omega) (by omega)
    have p1 : ((T 14 (rw9 B T j)).toInt64 * (T 35 c.toNatClampNeg - 1).toInt64).toInt = (ofA B T j).toInt * ((T 35 c.toNatClampNeg).toInt - 1) := t_mul (by rw [tz_i2l, em]) (by rw [tz_i2l, n1]) (by omega) (by omega)
    rw [if_pos k, t_sub z64 p1 (by omega) (by omega), wk_0 (Or.inl k), wk_0 (Or.inl k), e1.2 k, e2.2 k]
    rw [Int.mul_neg, Int.mul_zero] at dd
    omega
  · have dd := mx_df (d := (T 35 c.toNatClampNeg).toInt - 1) (n := (ofA B T j).toNatClampNeg) (by omega) (fun i hi => by have h7 := cv i (by omega); have h8 := hu9 i (by omega); omega) (fun i hi => by have h8 := hu9 i (by omega); omega) (fun i hi => cv i (by omega))
    have p1 : (1 * (T 35 c.toNatClampNeg - 1).toInt64).toInt = 1 * ((T 35 c.toNatClampNeg).toInt - 1) := t_mul o64 (by rw [tz_i2l, n1]) (by omega) (by omega)
    rw [if_neg (by omega), t_sub z64 p1 (by omega) (by omega), wk_0 (Or.inr k), wk_0 (Or.inr k), e1.1 k, e2.1 k]
    omega
  · have hs' := hs
    unfold StOk at hs'
    have b := hs'.2.2.2.2.1 (by omega)
    have s2 := ih _ (cl_lt b.1 b.2)
    have ec := ners_eq (hok k) s2
    have hm := mod_rng (v := pl (T 19 (12 * B + j)).toNatClampNeg) (h := ofA B T j) m1 m6 rfl rfl
    have qp := ti_cl (x := (pl (T 19 (12 * B + j)).toNatClampNeg - FO (pl (T 19 (12 * B + j)).toNatClampNeg) (ofA B T j).toInt64 * (ofA B T j).toInt64).toInt32) rfl hm.1
    have h9 := hu9 (pl (T 19 (12 * B + j)).toNatClampNeg - FO (pl (T 19 (12 * B + j)).toNatClampNeg) (ofA B T j).toInt64 * (ofA B T j).toInt64).toInt32.toNatClampNeg (by omega)
    have p1 : (1 * (T 35 c.toNatClampNeg - 1).toInt64).toInt = 1 * ((T 35 c.toNatClampNeg).toInt - 1) := t_mul o64 (by rw [tz_i2l, n1]) (by omega) (by omega)
    rw [if_neg (by omega), t_sub z64 p1 (by omega) (by omega), wk_6 k, wk_6 k, ec, ← bs_n (T := T) (nb := nb) (base := base) (c := -1) (fun z => m1_ng z.1), ← by_n (T := T) (c := -1) m1_ng, ← bs_n (T := T) (nb := nb) (base := base) (c := c) (fun z => on_ne h3 (by decide) z.1), ← by_y (T := T) (c := c) h3 rfl, tz_i2l, tz_i2l]
    have c1 := CO_val (v := fr (base.toNatClampNeg + 6 * (T 18 (12 * B + j)).toNatClampNeg + (pl (T 19 (12 * B + j)).toNatClampNeg - FO (pl (T 19 (12 * B + j)).toNatClampNeg) (ofA B T j).toInt64 * (ofA B T j).toInt64).toInt32.toNatClampNeg)) (n := 1) (by rw [one_i]; omega) (by rw [one_i]; omega) h9.1 h9.2
    have c2 := CO_val (v := fr (base.toNatClampNeg + 6 * (T 18 (12 * B + j)).toNatClampNeg + (pl (T 19 (12 * B + j)).toNatClampNeg - FO (pl (T 19 (12 * B + j)).toNatClampNeg) (ofA B T j).toInt64 * (ofA B T j).toInt64).toInt32.toNatClampNeg)) (n := T 35 c.toNatClampNeg) (by omega) (by omega) h9.1 h9.2
    rw [one_i] at c1
    omega
/-- SHORT -/
theorem sho_snd (hs : StOk (T 17 (12 * B + j)).toInt (T 18 (12 * B + j)).toInt (T 19 (12 * B + j)).toInt (T 20 (12 * B + j)).toInt (T 21 (12 * B + j)).toInt (T 11 B).toInt j) (hr : RwT B T) (hn : NumR B T nb fr base) (h5 : OnK T c 5) (hk : (T 17 (12 * B + j)).toInt = 0 ∨ (T 17 (12 * B + j)).toInt = 1) (hN : 1 ≤ (T 35 c.toNatClampNeg).toInt ∧ (T 35 c.toNatClampNeg).toInt ≤ 5) :
    (shLo B T J L H c j).toInt ≤ (wkF B T nb fr cm j base c).toInt - (wkF B T nb fr pl j base (-1)).toInt ∧ (wkF B T nb fr cm j base c).toInt - (wkF B T nb fr pl j base (-1)).toInt ≤ (shHi B T J L H c j).toInt := by
  obtain ⟨X, Y, em, eX, eY, m1, m6, x1, xy, y1, hu, -⟩ := row_num hs hr hn (by omega) c
  have hu9 : ∀ i : Nat, (i : Int) < (ofA B T j).toInt → -999 ≤ uX fr base (aX B T j) i ∧ uX fr base (aX B T j) i ≤ 999 := fun i hi => ⟨Int.le_trans x1 (hu i hi).1, Int.le_trans (hu i hi).2 y1⟩
  have q := ti_cl (x := ofA B T j) rfl (by omega)
  have e1 := of_neu (nb := nb) (fr := fr) (base := base) (c := -1) ⟨m1, m6⟩ hu9 m1_ng m1_ng m1_ng m1_ng
  obtain ⟨t, ht, e3, e4⟩ := of_sho (nb := nb) (fr := fr) (base := base) (c := c) ⟨m1, m6⟩ hu9 h5 hN
  have s0 := sp_0 (J := J) (L := L) (H := H) (show (T 17 (12 * B + j)).toInt = 0 ∨ (T 17 (12 * B + j)).toInt = 1 ∨ (T 17 (12 * B + j)).toInt = 6 by omega)
  have ov : (T 14 (rw9 B T j) - T 35 c.toNatClampNeg).toInt64.toInt = (ofA B T j).toInt - (T 35 c.toNatClampNeg).toInt := by rw [tz_i2l]; exact ti_sub rfl em.symm rfl (by omega) (by omega)
  have fa : (rFar T (rw9 B T j)).toInt = Y - X := by unfold rFar; rw [tz_i2l]; exact ti_sub rfl eY.symm eX.symm (by omega) (by omega)
  rw [(sh_5 h5).1, (sh_5 h5).2, s0.1, s0.2]
  unfold rwLo rwHi
  rw [if_neg (show ¬ (5 : Int) = 6 by decide), if_neg (show ¬ (5 : Int) = 6 by decide)]
  rcases ht with ⟨t1, t2⟩ | ⟨t1, t2⟩
  · have et : t = (ofA B T j).toNatClampNeg := by omega
    have nl : ¬ (0 : Int64) < (T 14 (rw9 B T j) - T 35 c.toNatClampNeg).toInt64 := fun z => by have := lt64 z; rw [z64, ov] at this; omega
    rw [if_neg nl, if_neg nl, z64]
    rcases hk with k | k
    · rw [wk_0 (Or.inl k), wk_0 (Or.inl k), e1.2 k, e4 k, et]; omega
    · rw [wk_0 (Or.inr k), wk_0 (Or.inr k), e1.1 k, e3 k, et]; omega
  · have nl : (0 : Int64) < (T 14 (rw9 B T j) - T 35 c.toNatClampNeg).toInt64 := Int64.lt_iff_toInt_lt.mpr (by rw [z64, ov]; omega)
    rw [if_pos nl, if_pos nl]
    obtain ⟨d, hd⟩ : ∃ d, d = (ofA B T j).toNatClampNeg - t := ⟨_, rfl⟩
    have hd2 : (ofA B T j).toNatClampNeg = t + d := by omega
    have dI : (d : Int) = (ofA B T j).toInt - (T 35 c.toNatClampNeg).toInt := by omega
    rcases hk with k | k
    · have rr := sm_rest (F := uX fr base (aX B T j)) (n := t) (d := d) (fun i hi => hu i (by omega))
      rw [← hd2, dI] at rr
      have b1 := mul_abs (x := -((ofA B T j).toInt - (T 35 c.toNatClampNeg).toInt)) (y := Y) (a := 6) (b := 999) (by omega) (by omega) (by omega) (by omega)
      have b2 := mul_abs (x := -((ofA B T j).toInt - (T 35 c.toNatClampNeg).toInt)) (y := X) (a := 6) (b := 999) (by omega) (by omega) (by omega) (by omega)
      have ng : (-((T 14 (rw9 B T j) - T 35 c.toNatClampNeg).toInt64)).toInt = -((ofA B T j).toInt - (T 35 c.toNatClampNeg).toInt) := t_neg ov (by omega) (by omega)
      rw [if_pos k, if_pos k, t_mul ng (show (T 16 (rw9 B T j)).toInt64.toInt = Y by rw [tz_i2l, eY]) (by omega) (by omega), t_mul ng (show (T 15 (rw9 B T j)).toInt64.toInt = X by rw [tz_i2l, eX]) (by omega) (by omega), wk_0 (Or.inl k), wk_0 (Or.inl k), e1.2 k, e4 k]
      rw [Int.neg_mul, Int.neg_mul]
      omega
    · have a1 := mxf_bd (F := uX fr base (aX B T j)) (n := (ofA B T j).toNatClampNeg) (by omega) (by omega) (fun i hi => hu i (by omega))
      have a2 := mxf_bd (F := uX fr base (aX B T j)) (n := t) (by omega) (by omega) (fun i hi => hu i (by omega))
      have a3 := mxf_mono (F := uX fr base (aX B T j)) (n := t) (d := d)
      rw [← hd2] at a3
      have ng : (-(rFar T (rw9 B T j))).toInt = -(Y - X) := t_neg fa (by omega) (by omega)
      rw [if_neg (by omega), if_neg (by omega), ng, z64, wk_0 (Or.inr k), wk_0 (Or.inr k), e1.1 k, e3 k]
      omega
/-- OLD -/
theorem old_snd (hs : StOk (T 17 (12 * B + j)).toInt (T 18 (12 * B + j)).toInt (T 19 (12 * B + j)).toInt (T 20 (12 * B + j)).toInt (T 21 (12 * B + j)).toInt (T 11 B).toInt j) (hr : RwT B T) (hn : NumR B T nb fr base) (h6 : OnK T c 6) (hk : (T 17 (12 * B + j)).toInt = 0 ∨ (T 17 (12 * B + j)).toInt = 1 ∨ (T 17 (12 * B + j)).toInt = 6) :
    (shLo B T J L H c j).toInt ≤ (wkF B T nb fr cm j base c).toInt - (wkF B T nb fr pl j base (-1)).toInt ∧ (wkF B T nb fr cm j base c).toInt - (wkF B T nb fr pl j base (-1)).toInt ≤ (shHi B T J L H c j).toInt := by
  obtain ⟨X, Y, em, eX, eY, m1, m6, x1, xy, y1, hu, hw⟩ := row_num hs hr hn hk c
  have hu9 : ∀ i : Nat, (i : Int) < (ofA B T j).toInt → -999 ≤ uX fr base (aX B T j) i ∧ uX fr base (aX B T j) i ≤ 999 := fun i hi => ⟨Int.le_trans x1 (hu i hi).1, Int.le_trans (hu i hi).2 y1⟩
  have hw9 : ∀ i : Nat, (i : Int) < (ofA B T j).toInt → -999 ≤ uX fr (bsF T nb base c) (aX B T j) i ∧ uX fr (bsF T nb base c) (aX B T j) i ≤ 999 := fun i hi => ⟨Int.le_trans x1 (hw i hi).1, Int.le_trans (hw i hi).2 y1⟩
  have q := ti_cl (x := ofA B T j) rfl (by omega)
  have fa : (rFar T (rw9 B T j)).toInt = Y - X := by unfold rFar; rw [tz_i2l]; exact ti_sub rfl eY.symm eX.symm (by omega) (by omega)
  have s0 := sp_0 (J := J) (L := L) (H := H) hk
  rw [(sh_6 h6).1, (sh_6 h6).2]
  unfold rwLo rwHi
  rw [if_pos rfl, if_pos rfl]
  have e1 := of_neu (nb := nb) (fr := fr) (base := base) (c := -1) ⟨m1, m6⟩ hu9 m1_ng m1_ng m1_ng m1_ng
  have e2 := of_old (nb := nb) (fr := fr) (base := base) (c := c) ⟨m1, m6⟩ hw9 h6
  have ng : (-(rFar T (rw9 B T j))).toInt = -(Y - X) := t_neg fa (by omega) (by omega)
  rcases hk with k | k | k
  · have a1 := sm_df (F := uX fr (bsF T nb base c) (aX B T j)) (G := uX fr base (aX B T j)) (x := -(Y - X)) (y := Y - X) (n := (ofA B T j).toNatClampNeg) (fun i hi => by have h8 := hu i (by omega); have h7 := hw i (by omega); omega)
    rw [q] at a1
    have b1 := mul_abs (x := -(ofA B T j).toInt) (y := Y - X) (a := 6) (b := 1998) (by omega) (by omega) (by omega) (by omega)
    have nm : (-(T 14 (rw9 B T j))).toInt64.toInt = -(ofA B T j).toInt := by
      rw [tz_i2l, Int32.toInt_neg, ← em]; exact Int.bmod_eq_of_le (by omega) (by omega)
    have p1 : ((-(T 14 (rw9 B T j))).toInt64 * rFar T (rw9 B T j)).toInt = -(ofA B T j).toInt * (Y - X) := t_mul nm fa (by omega) (by omega)
    rw [if_pos k, p1, t_neg p1 (by omega) (by omega), wk_0 (Or.inl k), wk_0 (Or.inl k), e1.2 k, e2.2 k]
    rw [Int.mul_neg] at a1
    rw [Int.neg_mul, Int.neg_neg]
    omega
  · have a1 := mxf_bd (F := uX fr base (aX B T j)) (n := (ofA B T j).toNatClampNeg) (by omega) (by omega) (fun i hi => hu i (by omega))
    have a2 := mxf_bd (F := uX fr (bsF T nb base c) (aX B T j)) (n := (ofA B T j).toNatClampNeg) (by omega) (by omega) (fun i hi => hw i (by omega))
    rw [if_neg (by omega), ng, t_neg ng (by omega) (by omega), wk_0 (Or.inr k), wk_0 (Or.inr k), e1.1 k, e2.1 k]
    omega
  · have hm := mod_rng (v := pl (T 19 (12 * B + j)).toNatClampNeg) (h := ofA B T j) m1 m6 rfl rfl
    have qp := ti_cl (x := (pl (T 19 (12 * B + j)).toNatClampNeg - FO (pl (T 19 (12 * B + j)).toNatClampNeg) (ofA B T j).toInt64 * (ofA B T j).toInt64).toInt32) rfl hm.1
    have hm2 := mod_rng (v := cm (T 19 (12 * B + j)).toNatClampNeg) (h := ofA B T j) m1 m6 rfl rfl
    have qc := ti_cl (x := (cm (T 19 (12 * B + j)).toNatClampNeg - FO (cm (T 19 (12 * B + j)).toNatClampNeg) (ofA B T j).toInt64 * (ofA B T j).toInt64).toInt32) rfl hm2.1
    have g1 := hu (pl (T 19 (12 * B + j)).toNatClampNeg - FO (pl (T 19 (12 * B + j)).toNatClampNeg) (ofA B T j).toInt64 * (ofA B T j).toInt64).toInt32.toNatClampNeg (by omega)
    have g2 := hw (cm (T 19 (12 * B + j)).toNatClampNeg - FO (cm (T 19 (12 * B + j)).toNatClampNeg) (ofA B T j).toInt64 * (ofA B T j).toInt64).toInt32.toNatClampNeg (by omega)
    rw [if_neg (by omega), ng, t_neg ng (by omega) (by omega), wk_6 k, wk_6 k, ← bs_n (T := T) (nb := nb) (base := base) (c := -1) (fun z => m1_ng z.1), ← by_n (T := T) (c := -1) m1_ng, ← by_n (T := T) (c := c) (on_ne h6 (by decide)), tz_i2l, tz_i2l]
    have c1 := CO_val (v := fr (base.toNatClampNeg + 6 * (T 18 (12 * B + j)).toNatClampNeg + (pl (T 19 (12 * B + j)).toNatClampNeg - FO (pl (T 19 (12 * B + j)).toNatClampNeg) (ofA B T j).toInt64 * (ofA B T j).toInt64).toInt32.toNatClampNeg)) (n := 1) (by rw [one_i]; omega) (by rw [one_i]; omega) (Int.le_trans x1 g1.1) (Int.le_trans g1.2 y1)
    have c2 := CO_val (v := fr ((bsF T nb base c).toNatClampNeg + 6 * (T 18 (12 * B + j)).toNatClampNeg + (cm (T 19 (12 * B + j)).toNatClampNeg - FO (cm (T 19 (12 * B + j)).toNatClampNeg) (ofA B T j).toInt64 * (ofA B T j).toInt64).toInt32.toNatClampNeg)) (n := 1) (by rw [one_i]; omega) (by rw [one_i]; omega) (Int.le_trans x1 g2.1) (Int.le_trans g2.2 y1)
    rw [one_i] at c1 c2
    have g1' : X ≤ (fr (base.toNatClampNeg + 6 * (T 18 (12 * B + j)).toNatClampNeg + (pl (T 19 (12 * B + j)).toNatClampNeg - FO (pl (T 19 (12 * B + j)).toNatClampNeg) (ofA B T j).toInt64 * (ofA B T j).toInt64).toInt32.toNatClampNeg)).toInt ∧ (fr (base.toNatClampNeg + 6 * (T 18 (12 * B + j)).toNatClampNeg + (pl (T 19 (12 * B + j)).toNatClampNeg - FO (pl (T 19 (12 * B + j)).toNatClampNeg) (ofA B T j).toInt64 * (ofA B T j).toInt64).toInt32.toNatClampNeg)).toInt ≤ Y := g1
    have g2' : X ≤ (fr ((bsF T nb base c).toNatClampNeg + 6 * (T 18 (12 * B + j)).toNatClampNeg + (cm (T 19 (12 * B + j)).toNatClampNeg - FO (cm (T 19 (12 * B + j)).toNatClampNeg) (ofA B T j).toInt64 * (ofA B T j).toInt64).toInt32.toNatClampNeg)).toInt ∧ (fr ((bsF T nb base c).toNatClampNeg + 6 * (T 18 (12 * B + j)).toNatClampNeg + (cm (T 19 (12 * B + j)).toNatClampNeg - FO (cm (T 19 (12 * B + j)).toNatClampNeg) (ofA B T j).toInt64 * (ofA B T j).toInt64).toInt32.toNatClampNeg)).toInt ≤ Y := g2
    omega
end CAO

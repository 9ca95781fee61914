theorem one_i : (1 : Int32).toInt = 1 := by decide
theorem one_n : (1 : Int32).toNatClampNeg = 1 := by decide
abbrev aX (B : Nat) (T : Nat → Nat → Int32) (j : Nat) : Nat := (T 18 (12 * B + j)).toNatClampNeg
abbrev uX (fr : Nat → Int32) (bs : Int32) (a i : Nat) : Int := (fr (bs.toNatClampNeg + 6 * a + i)).toInt
section RO
variable {B : Nat} {T : Nat → Nat → Int32} {nb : Bool} {fr : Nat → Int32} {base c : Int32} {j : Nat}
theorem of_neu (hm : 1 ≤ (ofA B T j).toInt ∧ (ofA B T j).toInt ≤ 6) (hu : ∀ k : Nat, (k : Int) < (ofA B T j).toInt → -999 ≤ uX fr base (aX B T j) k ∧ uX fr base (aX B T j) k ≤ 999) (h0 : ¬ OnK T c 0) (h3 : ¬ OnK T c 3) (h5 : ¬ OnK T c 5) (h6 : ¬ OnK T c 6) :
    ((T 17 (12 * B + j)).toInt = 1 → (ofF B T nb fr j base c).toInt = mxf (uX fr base (aX B T j)) (ofA B T j).toNatClampNeg) ∧ ((T 17 (12 * B + j)).toInt = 0 → (ofF B T nb fr j base c).toInt = sm (uX fr base (aX B T j)) (ofA B T j).toNatClampNeg) := by
  have q := ti_cl (x := ofA B T j) rfl (by omega)
  have h := of_val (B := B) (j := j) (T := T) (nb := nb) (fr := fr) (base := base) (c := c) (bs := base) (by_ := 1) (ha := ofA B T j) (fa := 1) (t := (ofA B T j).toNatClampNeg) (bs_n (fun z => h6 z.1)).symm (by_n h3).symm (has_n h5).symm (far_n h0).symm (by rw [one_i]; omega) (by rw [one_i]; omega) hm.2 (by omega) (by omega) (fun i hi => by rw [one_i]; omega) (by rw [one_i]; omega) hu
  rw [one_i, one_n] at h
  have e : (fun i : Nat => (1 : Int) * ((fr (base.toNatClampNeg + 6 * (T 18 (12 * B + j)).toNatClampNeg + i * 1)).toInt / 1)) = uX fr base (aX B T j) := funext fun i => by rw [Int.one_mul, Int.ediv_one, Nat.mul_one]
  rw [e] at h
  exact ⟨h.1, fun k => h.2.1 k rfl⟩
theorem of_coa (hm : 1 ≤ (ofA B T j).toInt ∧ (ofA B T j).toInt ≤ 6) (hu : ∀ k : Nat, (k : Int) < (ofA B T j).toInt → -999 ≤ uX fr base (aX B T j) k ∧ uX fr base (aX B T j) k ≤ 999) (h3 : OnK T c 3) (hn : 2 ≤ (T 35 c.toNatClampNeg).toInt ∧ (T 35 c.toNatClampNeg).toInt ≤ 99) :
    ((T 17 (12 * B + j)).toInt = 1 → (ofF B T nb fr j base c).toInt = mxf (fun i => (T 35 c.toNatClampNeg).toInt * (uX fr base (aX B T j) i / (T 35 c.toNatClampNeg).toInt)) (ofA B T j).toNatClampNeg) ∧ ((T 17 (12 * B + j)).toInt = 0 → (ofF B T nb fr j base c).toInt = sm (fun i => (T 35 c.toNatClampNeg).toInt * (uX fr base (aX B T j) i / (T 35 c.toNatClampNeg).toInt)) (ofA B T j).toNatClampNeg) := by
  have q := ti_cl (x := ofA B T j) rfl (by omega)
  have h := of_val (B := B) (j := j) (T := T) (nb := nb) (fr := fr) (base := base) (c := c) (bs := base) (by_ := T 35 c.toNatClampNeg) (ha := ofA B T j) (fa := 1) (t := (ofA B T j).toNatClampNeg) (bs_n (fun z => on_ne h3 (by decide) z.1)).symm (by_y h3 rfl).symm (has_n (on_ne h3 (by decide))).symm (far_n (on_ne h3 (by decide))).symm (by omega) (by rw [one_i]; omega) hm.2 (by omega) (by omega) (fun i hi => by rw [one_i]; omega) (by rw [one_i]; omega) hu
  rw [one_i, one_n] at h
  have e : (fun i : Nat => (T 35 c.toNatClampNeg).toInt * ((fr (base.toNatClampNeg + 6 * (T 18 (12 * B + j)).toNatClampNeg + i * 1)).toInt / (T 35 c.toNatClampNeg).toInt)) = (fun i => (T 35 c.toNatClampNeg).toInt * (uX fr base (aX B T j) i / (T 35 c.toNatClampNeg).toInt)) := funext fun i => by rw [Nat.mul_one]
  rw [e] at h
  exact ⟨h.1, fun k => h.2.1 k rfl⟩
theorem of_sho (hm : 1 ≤ (ofA B T j).toInt ∧ (ofA B T j).toInt ≤ 6) (hu : ∀ k : Nat, (k : Int) < (ofA B T j).toInt → -999 ≤ uX fr base (aX B T j) k ∧ uX fr base (aX B T j) k ≤ 999) (h5 : OnK T c 5) (hn : 1 ≤ (T 35 c.toNatClampNeg).toInt ∧ (T 35 c.toNatClampNeg).toInt ≤ 5) :
    ∃ t : Nat, ((t : Int) = (ofA B T j).toInt ∧ (ofA B T j).toInt ≤ (T 35 c.toNatClampNeg).toInt ∨ (t : Int) = (T 35 c.toNatClampNeg).toInt ∧ (T 35 c.toNatClampNeg).toInt < (ofA B T j).toInt) ∧ ((T 17 (12 * B + j)).toInt = 1 → (ofF B T nb fr j base c).toInt = mxf (uX fr base (aX B T j)) t) ∧ ((T 17 (12 * B + j)).toInt = 0 → (ofF B T nb fr j base c).toInt = sm (uX fr base (aX B T j)) t) := by
  have hh : (hasF T (ofA B T j) c).toInt = (ofA B T j).toInt ∧ (ofA B T j).toInt ≤ (T 35 c.toNatClampNeg).toInt ∨ (hasF T (ofA B T j) c).toInt = (T 35 c.toNatClampNeg).toInt ∧ (T 35 c.toNatClampNeg).toInt < (ofA B T j).toInt := by
    unfold hasF; rw [if_pos h5]
    by_cases z : (ofA B T j).toInt < (T 35 c.toNatClampNeg).toInt
    · rw [if_pos z]; omega
    · rw [if_neg z]; omega
  have q := ti_cl (x := hasF T (ofA B T j) c) rfl (by omega)
  have h := of_val (B := B) (j := j) (T := T) (nb := nb) (fr := fr) (base := base) (c := c) (bs := base) (by_ := 1) (ha := hasF T (ofA B T j) c) (fa := 1) (t := (hasF T (ofA B T j) c).toNatClampNeg) (bs_n (fun z => on_ne h5 (by decide) z.1)).symm (by_n (on_ne h5 (by decide))).symm rfl (far_n (on_ne h5 (by decide))).symm (by rw [one_i]; omega) (by rw [one_i]; omega) (by omega) (by omega) (by omega) (fun i hi => by rw [one_i]; omega) (by rw [one_i]; omega) (fun k hk => hu k (by omega))
  rw [one_i, one_n] at h
  have e : (fun i : Nat => (1 : Int) * ((fr (base.toNatClampNeg + 6 * (T 18 (12 * B + j)).toNatClampNeg + i * 1)).toInt / 1)) = uX fr base (aX B T j) := funext fun i => by rw [Int.one_mul, Int.ediv_one, Nat.mul_one]
  rw [e] at h
  exact ⟨(hasF T (ofA B T j) c).toNatClampNeg, by omega, h.1, fun k => h.2.1 k rfl⟩
theorem of_old (hm : 1 ≤ (ofA B T j).toInt ∧ (ofA B T j).toInt ≤ 6) (hu : ∀ k : Nat, (k : Int) < (ofA B T j).toInt → -999 ≤ uX fr (bsF T nb base c) (aX B T j) k ∧ uX fr (bsF T nb base c) (aX B T j) k ≤ 999) (h6 : OnK T c 6) :
    ((T 17 (12 * B + j)).toInt = 1 → (ofF B T nb fr j base c).toInt = mxf (uX fr (bsF T nb base c) (aX B T j)) (ofA B T j).toNatClampNeg) ∧ ((T 17 (12 * B + j)).toInt = 0 → (ofF B T nb fr j base c).toInt = sm (uX fr (bsF T nb base c) (aX B T j)) (ofA B T j).toNatClampNeg) := by
  have q := ti_cl (x := ofA B T j) rfl (by omega)
  have h := of_val (B := B) (j := j) (T := T) (nb := nb) (fr := fr) (base := base) (c := c) (bs := bsF T nb base c) (by_ := 1) (ha := ofA B T j) (fa := 1) (t := (ofA B T j).toNatClampNeg) rfl (by_n (on_ne h6 (by decide))).symm (has_n (on_ne h6 (by decide))).symm (far_n (on_ne h6 (by decide))).symm (by rw [one_i]; omega) (by rw [one_i]; omega) hm.2 (by omega) (by omega) (fun i hi => by rw [one_i]; omega) (by rw [one_i]; omega) hu
  rw [one_i, one_n] at h
  have e : (fun i : Nat => (1 : Int) * ((fr ((bsF T nb base c).toNatClampNeg + 6 * (T 18 (12 * B + j)).toNatClampNeg + i * 1)).toInt / 1)) = uX fr (bsF T nb base c) (aX B T j) := funext fun i => by rw [Int.one_mul, Int.ediv_one, Nat.mul_one]
  rw [e] at h
  exact ⟨h.1, fun k => h.2.1 k rfl⟩
theorem of_ski (hm : 1 ≤ (ofA B T j).toInt ∧ (ofA B T j).toInt ≤ 6) (hu : ∀ k : Nat, (k : Int) < (ofA B T j).toInt → -999 ≤ uX fr base (aX B T j) k ∧ uX fr base (aX B T j) k ≤ 999) (h0 : OnK T c 0) (hn : 2 ≤ (T 35 c.toNatClampNeg).toInt ∧ (T 35 c.toNatClampNeg).toInt ≤ 6) {t : Nat} (ht : t = ((ofA B T j).toNatClampNeg + (T 35 c.toNatClampNeg).toNatClampNeg - 1) / (T 35 c.toNatClampNeg).toNatClampNeg) (hk : (T 17 (12 * B + j)).toInt = 0) :
    (ofF B T nb fr j base c).toInt = (sm (fun i => uX fr base (aX B T j) (i * (T 35 c.toNatClampNeg).toNatClampNeg)) t * (ofA B T j).toInt).tdiv t := by
  have q := ti_cl (x := ofA B T j) rfl (by omega)
  have q2 := ti_cl (x := T 35 c.toNatClampNeg) rfl (by omega)
  obtain ⟨m, em⟩ : ∃ m, m = (ofA B T j).toNatClampNeg := ⟨_, rfl⟩
  obtain ⟨n, en⟩ : ∃ n, n = (T 35 c.toNatClampNeg).toNatClampNeg := ⟨_, rfl⟩
  rw [← em, ← en] at ht
  rw [← em] at q
  rw [← en] at q2
  have hm1 : 1 ≤ m ∧ m ≤ 6 := by omega
  have hn1 : 2 ≤ n ∧ n ≤ 6 := by omega
  have d1 : n * t ≤ m + n - 1 := by rw [ht]; exact Nat.mul_div_le _ _
  have d2 : m + n - 1 < n * t + n := by
    have h := Nat.lt_mul_div_succ (m + n - 1) (show 0 < n by omega)
    rw [← ht, Nat.mul_add, Nat.mul_one] at h; exact h
  have hnt : ((n * t : Nat) : Int) = (t : Int) * (n : Int) := by rw [Int.natCast_mul, Int.mul_comm]
  have h1t : 1 ≤ t := by
    rcases Nat.eq_zero_or_pos t with z | z
    · rw [z, Nat.mul_zero] at d2; omega
    · exact z
  have h6t : t ≤ 6 := by
    have : 2 * t ≤ n * t := Nat.mul_le_mul_right t hn1.1
    omega
  have h := of_val (B := B) (j := j) (T := T) (nb := nb) (fr := fr) (base := base) (c := c) (bs := base) (by_ := 1) (ha := ofA B T j) (fa := T 35 c.toNatClampNeg) (t := t) (bs_n (fun z => on_ne h0 (by decide) z.1)).symm (by_n (on_ne h0 (by decide))).symm (has_n (on_ne h0 (by decide))).symm (far_y h0 rfl).symm (by rw [one_i]; omega) (by omega) hm.2 h6t h1t (fun i hi => by
      have h9 : n * (i + 1) ≤ n * t := Nat.mul_le_mul_left n (by omega)
      rw [Nat.mul_add, Nat.mul_one] at h9
      have h8 : ((n * i : Nat) : Int) = (i : Int) * (n : Int) := by rw [Int.natCast_mul, Int.mul_comm]
      rw [← q2, ← h8]; omega) (by rw [← q2, ← hnt]; omega) hu
  rw [one_i, ← en] at h
  have e : (fun i : Nat => (1 : Int) * ((fr (base.toNatClampNeg + 6 * (T 18 (12 * B + j)).toNatClampNeg + i * n)).toInt / 1)) = (fun i => uX fr base (aX B T j) (i * n)) := funext fun i => by rw [Int.one_mul, Int.ediv_one]
  rw [e] at h
  rw [← en]
  exact h.2.2 hk (by omega)
end RO

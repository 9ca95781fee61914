/-! what a STEP is worth, out of those ahead -/
def wkF (B : Nat) (T : Nat → Nat → Int32) (nb : Bool) (fr : Nat → Int32) (by_ : Nat → Int64) (j : Nat) (base c : Int32) : Int64 :=
  if (T 17 (12 * B + j)).toInt = 0 ∨ (T 17 (12 * B + j)).toInt = 1 then ofF B T nb fr j base c
  else if (T 17 (12 * B + j)).toInt = 2 then by_ (T 18 (12 * B + j)).toNatClampNeg + by_ (T 19 (12 * B + j)).toNatClampNeg
  else if (T 17 (12 * B + j)).toInt = 3 then by_ (T 18 (12 * B + j)).toNatClampNeg - by_ (T 19 (12 * B + j)).toNatClampNeg
  else if (T 17 (12 * B + j)).toInt = 4 then by_ (T 18 (12 * B + j)).toNatClampNeg * by_ (T 19 (12 * B + j)).toNatClampNeg
  else if (T 17 (12 * B + j)).toInt = 5 then by_ (T 18 (12 * B + j)).toNatClampNeg * (T 19 (12 * B + j)).toInt64 / (T 20 (12 * B + j)).toInt64
  else if (T 17 (12 * B + j)).toInt = 6 then (CO (fr ((bsF T nb base c).toNatClampNeg + 6 * (T 18 (12 * B + j)).toNatClampNeg + (by_ (T 19 (12 * B + j)).toNatClampNeg - FO (by_ (T 19 (12 * B + j)).toNatClampNeg) (ofA B T j).toInt64 * (ofA B T j).toInt64).toInt32.toNatClampNeg)) (byF T c)).toInt64
  else if OnK T c 2 then (if (T 35 c.toNatClampNeg).toInt = 0 then by_ (T 18 (12 * B + j)).toNatClampNeg else by_ (T 19 (12 * B + j)).toNatClampNeg)
  else if by_ (T 20 (12 * B + j)).toNatClampNeg < by_ (T 21 (12 * B + j)).toNatClampNeg then by_ (T 18 (12 * B + j)).toNatClampNeg else by_ (T 19 (12 * B + j)).toNatClampNeg
section WK
variable {B : Nat} {T : Nat → Nat → Int32} {nb : Bool} {fr : Nat → Int32} {by_ : Nat → Int64} {j : Nat} {base c : Int32}
theorem wk_0 (h : (T 17 (12 * B + j)).toInt = 0 ∨ (T 17 (12 * B + j)).toInt = 1) : wkF B T nb fr by_ j base c = ofF B T nb fr j base c := by unfold wkF; rw [if_pos h]
theorem wk_2 (h : (T 17 (12 * B + j)).toInt = 2) : wkF B T nb fr by_ j base c = by_ (T 18 (12 * B + j)).toNatClampNeg + by_ (T 19 (12 * B + j)).toNatClampNeg := by
  unfold wkF; rw [if_neg (by omega), if_pos h]
theorem wk_3 (h : (T 17 (12 * B + j)).toInt = 3) : wkF B T nb fr by_ j base c = by_ (T 18 (12 * B + j)).toNatClampNeg - by_ (T 19 (12 * B + j)).toNatClampNeg := by
  unfold wkF; rw [if_neg (by omega), if_neg (by omega), if_pos h]
theorem wk_4 (h : (T 17 (12 * B + j)).toInt = 4) : wkF B T nb fr by_ j base c = by_ (T 18 (12 * B + j)).toNatClampNeg * by_ (T 19 (12 * B + j)).toNatClampNeg := by
  unfold wkF; rw [if_neg (by omega), if_neg (by omega), if_neg (by omega), if_pos h]
theorem wk_5 (h : (T 17 (12 * B + j)).toInt = 5) : wkF B T nb fr by_ j base c = by_ (T 18 (12 * B + j)).toNatClampNeg * (T 19 (12 * B + j)).toInt64 / (T 20 (12 * B + j)).toInt64 := by
  unfold wkF; rw [if_neg (by omega), if_neg (by omega), if_neg (by omega), if_neg (by omega), if_pos h]
theorem wk_6 (h : (T 17 (12 * B + j)).toInt = 6) : wkF B T nb fr by_ j base c = (CO (fr ((bsF T nb base c).toNatClampNeg + 6 * (T 18 (12 * B + j)).toNatClampNeg + (by_ (T 19 (12 * B + j)).toNatClampNeg - FO (by_ (T 19 (12 * B + j)).toNatClampNeg) (ofA B T j).toInt64 * (ofA B T j).toInt64).toInt32.toNatClampNeg)) (byF T c)).toInt64 := by
  unfold wkF; rw [if_neg (by omega), if_neg (by omega), if_neg (by omega), if_neg (by omega), if_neg (by omega), if_pos h]
theorem wk_7 (h : (T 17 (12 * B + j)).toInt = 7) : wkF B T nb fr by_ j base c = (if OnK T c 2 then (if (T 35 c.toNatClampNeg).toInt = 0 then by_ (T 18 (12 * B + j)).toNatClampNeg else by_ (T 19 (12 * B + j)).toNatClampNeg)
  else if by_ (T 20 (12 * B + j)).toNatClampNeg < by_ (T 21 (12 * B + j)).toNatClampNeg then by_ (T 18 (12 * B + j)).toNatClampNeg else by_ (T 19 (12 * B + j)).toNatClampNeg) := by
  unfold wkF; rw [if_neg (by omega), if_neg (by omega), if_neg (by omega), if_neg (by omega), if_neg (by omega), if_neg (by omega)]
end WK
/-- a STEP that stands -/
def WkOk (σ : MS) (s : Int32) : Prop := RelP σ (σ.1 29).toNatClampNeg ∧ 0 ≤ s.toInt ∧ s.toInt < (σ.2.1 12 (σ.1 29).toNatClampNeg).toInt
theorem WkOk.st {σ : MS} {s : Int32} (h : WkOk σ s) : StOk (σ.2.1 17 (12 * (σ.1 29).toNatClampNeg + s.toNatClampNeg)).toInt (σ.2.1 18 (12 * (σ.1 29).toNatClampNeg + s.toNatClampNeg)).toInt (σ.2.1 19 (12 * (σ.1 29).toNatClampNeg + s.toNatClampNeg)).toInt (σ.2.1 20 (12 * (σ.1 29).toNatClampNeg + s.toNatClampNeg)).toInt (σ.2.1 21 (12 * (σ.1 29).toNatClampNeg + s.toNatClampNeg)).toInt (σ.2.1 11 (σ.1 29).toNatClampNeg).toInt s.toInt := by
  have q := ti_cl (x := s) rfl h.2.1
  have h1 := h.1.2.1 s.toNatClampNeg (by show _ < (σ.2.1 12 _).toInt; rw [q]; exact h.2.2)
  unfold StepOk at h1
  rw [q] at h1
  exact h1
theorem WkOk.st2 {σ : MS} {s x : Int32} (h : WkOk σ s) (hx : x.toNatClampNeg = 12 * (σ.1 29).toNatClampNeg + s.toNatClampNeg) : StOk (σ.2.1 17 (Int32.toNatClampNeg x)).toInt (σ.2.1 18 (Int32.toNatClampNeg x)).toInt (σ.2.1 19 (Int32.toNatClampNeg x)).toInt (σ.2.1 20 (Int32.toNatClampNeg x)).toInt (σ.2.1 21 (Int32.toNatClampNeg x)).toInt (σ.2.1 11 (σ.1 29).toNatClampNeg).toInt s.toInt := by
  rw [hx]; exact h.st
theorem WkOk.row {σ : MS} {s : Int32} (hI : Inv σ) (h : WkOk σ s) (hk : (σ.2.1 17 (12 * (σ.1 29).toNatClampNeg + s.toNatClampNeg)).toInt = 0 ∨ (σ.2.1 17 (12 * (σ.1 29).toNatClampNeg + s.toNatClampNeg)).toInt = 1 ∨ (σ.2.1 17 (12 * (σ.1 29).toNatClampNeg + s.toNatClampNeg)).toInt = 6) : RwOk σ s := by
  have hs := h.st
  unfold StOk at hs
  have h2 := hs.2.2.1 hk
  have hb : (σ.1 29).toNatClampNeg < 2 := cl_lt (n := 2) (hI.1 29).1 (Int.lt_of_le_of_lt (hI.1 29).2 (by decide))
  have h3 : (σ.2.1 11 (σ.1 29).toNatClampNeg).toInt ≤ 2 := (hI.2 11 _ hb).2
  have q := ti_cl (x := σ.2.1 18 (12 * (σ.1 29).toNatClampNeg + s.toNatClampNeg)) rfl h2.1
  have h4 := h.1.1 (σ.2.1 18 (12 * (σ.1 29).toNatClampNeg + s.toNatClampNeg)).toNatClampNeg (by show _ < (σ.2.1 11 _).toInt; rw [q]; exact h2.2)
  exact ⟨h2.1, by omega, h4.1⟩
/-- modulo how many a ROW has -/
theorem mod_rng {v y : Int64} {h z : Int32} (h1 : 1 ≤ h.toInt) (h6 : h.toInt ≤ 6) (hy : y = v - FO v h.toInt64 * h.toInt64) (hz : z = y.toInt32) : 0 ≤ z.toInt ∧ z.toInt < h.toInt := by
  have eh : h.toInt64.toInt = h.toInt := Int32.toInt_toInt64 h
  have hv1 := Int64.le_toInt v
  have hv2 := Int64.toInt_lt v
  have e1 : (v / h.toInt64).toInt = v.toInt.tdiv h.toInt := by
    rw [Int64.toInt_div, eh]
    apply Int.bmod_eq_of_le
    · have := Int.mul_tdiv_add_tmod v.toInt h.toInt
      rcases Int.le_total 0 v.toInt with hp | hp
      · have := Int.tdiv_nonneg hp (by omega : 0 ≤ h.toInt); omega
      · have q1 := Int.tdiv_nonneg (a := -v.toInt) (b := h.toInt) (by omega) (by omega)
        have q2 := Int.tdiv_le_self (a := -v.toInt) h.toInt (by omega)
        rw [Int.neg_tdiv] at q1 q2; omega
    · rcases Int.le_total 0 v.toInt with hp | hp
      · have := Int.tdiv_le_self (a := v.toInt) h.toInt hp; omega
      · have q1 := Int.tdiv_nonneg (a := -v.toInt) (b := h.toInt) (by omega) (by omega)
        rw [Int.neg_tdiv] at q1; omega
  have hm := Int.mul_tdiv_add_tmod v.toInt h.toInt
  obtain ⟨Q, hQ⟩ : ∃ Q, Q = v.toInt.tdiv h.toInt := ⟨_, rfl⟩
  obtain ⟨R, hR⟩ : ∃ R, R = v.toInt.tmod h.toInt := ⟨_, rfl⟩
  rw [← hQ, ← hR] at hm
  rw [← hQ] at e1
  have r1 : R < h.toInt ∧ -h.toInt < R ∧ (0 ≤ v.toInt → 0 ≤ R) ∧ (v.toInt ≤ 0 → R ≤ 0) := by
    have a1 := Int.tmod_lt_of_pos v.toInt (show 0 < h.toInt by omega)
    have a2 := Int.tmod_lt_of_pos (-v.toInt) (show 0 < h.toInt by omega)
    rw [Int.neg_tmod] at a2
    refine ⟨by omega, by omega, fun p => ?_, fun p => ?_⟩
    · have := Int.tmod_nonneg h.toInt p; omega
    · have := Int.tmod_nonneg (a := -v.toInt) h.toInt (by omega); rw [Int.neg_tmod] at this; omega
  have e2 : (v - v / h.toInt64 * h.toInt64).toInt = R := by
    rw [Int64.toInt_sub, Int64.toInt_mul, e1, eh, Int.sub_bmod_bmod]
    rw [show v.toInt - Q * h.toInt = R by have := Int.mul_comm Q h.toInt; omega]
    exact Int.bmod_eq_of_le (by omega) (by omega)
  have e3 : (v - (v / h.toInt64 - 1) * h.toInt64).toInt = R + h.toInt := by
    rw [Int64.toInt_sub, Int64.toInt_mul, Int64.toInt_sub, e1, eh, Int.sub_bmod_bmod]
    rw [show (1 : Int64).toInt = 1 from by decide]
    rw [show v.toInt - (Q - 1).bmod (2 ^ 64) * h.toInt = v.toInt - ((Q - 1).bmod (2 ^ 64) * h.toInt) from rfl]
    rw [← Int.sub_bmod_bmod (y := (Q - 1).bmod (2 ^ 64) * h.toInt), Int.bmod_mul_bmod, Int.sub_bmod_bmod]
    rw [show v.toInt - (Q - 1) * h.toInt = R + h.toInt by have := Int.mul_comm Q h.toInt; have h9 : (Q - 1) * h.toInt = Q * h.toInt - h.toInt := by rw [Int.sub_mul, Int.one_mul]
                                                          omega]
    exact Int.bmod_eq_of_le (by omega) (by omega)
  have e0 : (0 : Int64).toInt = 0 := by decide
  have key : 0 ≤ y.toInt ∧ y.toInt < h.toInt := by
    rw [hy]; unfold FO
    by_cases c0 : v - v / h.toInt64 * h.toInt64 = 0
    · rw [if_pos c0, e2]; have : R = 0 := by rw [← e2, c0, e0]
      omega
    · have hR0 : R ≠ 0 := fun z => c0 (Int64.toInt_inj.mp (by rw [e2, z, e0]))
      have hb : (0 : Int64) ≤ h.toInt64 := Int64.le_iff_toInt_le.mpr (by rw [eh, e0]; omega)
      rw [if_neg c0]
      by_cases c1 : (0 : Int64) ≤ v
      · have : 0 ≤ v.toInt := by have := Int64.le_iff_toInt_le.mp c1; rw [e0] at this; exact this
        rw [if_pos c1, if_pos hb, e2]; omega
      · have : v.toInt < 0 := by
          have := Int64.lt_iff_toInt_lt.mp (Int64.not_le.mp c1); rw [e0] at this; exact this
        rw [if_neg c1, if_pos hb, e3]; omega
  have e4 : z.toInt = y.toInt := by
    rw [hz, Int64.toInt_toInt32]; exact Int.bmod_eq_of_le (by omega) (by omega)
  omega

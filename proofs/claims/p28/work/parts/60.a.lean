/-! SOUND: what comes is within what is SHOWN. Numbers first -/
theorem t_add {x y : Int64} {a b : Int} (hx : x.toInt = a) (hy : y.toInt = b) (h1 : -9223372036854775808 ≤ a + b) (h2 : a + b ≤ 9223372036854775807) : (x + y).toInt = a + b := by
  rw [Int64.toInt_add, hx, hy]; exact Int.bmod_eq_of_le (by omega) (by omega)
theorem t_sub {x y : Int64} {a b : Int} (hx : x.toInt = a) (hy : y.toInt = b) (h1 : -9223372036854775808 ≤ a - b) (h2 : a - b ≤ 9223372036854775807) : (x - y).toInt = a - b := by
  rw [Int64.toInt_sub, hx, hy]; exact Int.bmod_eq_of_le (by omega) (by omega)
theorem t_mul {x y : Int64} {a b : Int} (hx : x.toInt = a) (hy : y.toInt = b) (h1 : -9223372036854775808 ≤ a * b) (h2 : a * b ≤ 9223372036854775807) : (x * y).toInt = a * b := by
  rw [Int64.toInt_mul, hx, hy]; exact Int.bmod_eq_of_le (by omega) (by omega)
theorem t_neg {x : Int64} {a : Int} (hx : x.toInt = a) (h1 : -9223372036854775807 ≤ a) (h2 : a ≤ 9223372036854775807) : (-x).toInt = -a := by
  rw [Int64.toInt_neg, hx]; exact Int.bmod_eq_of_le (by omega) (by omega)
theorem tz_i2l (x : Int32) : x.toInt64.toInt = x.toInt := Int32.toInt_toInt64 x
theorem t_ls (x y : Int64) : (ls2 x y).toInt ≤ x.toInt ∧ (ls2 x y).toInt ≤ y.toInt ∧ ((ls2 x y).toInt = x.toInt ∨ (ls2 x y).toInt = y.toInt) := by
  unfold ls2
  by_cases h : x < y
  · rw [if_pos h]; have := lt64 h; omega
  · rw [if_neg h]; have := nlt64 h; omega
theorem t_gt (x y : Int64) : x.toInt ≤ (gt2 x y).toInt ∧ y.toInt ≤ (gt2 x y).toInt ∧ ((gt2 x y).toInt = x.toInt ∨ (gt2 x y).toInt = y.toInt) := by
  unfold gt2
  by_cases h : y < x
  · rw [if_pos h]; have := lt64 h; omega
  · rw [if_neg h]; have := nlt64 h; omega
theorem t_lo4 (a b c d : Int64) : (lo4 a b c d).toInt ≤ a.toInt ∧ (lo4 a b c d).toInt ≤ b.toInt ∧ (lo4 a b c d).toInt ≤ c.toInt ∧ (lo4 a b c d).toInt ≤ d.toInt ∧ ((lo4 a b c d).toInt = a.toInt ∨ (lo4 a b c d).toInt = b.toInt ∨ (lo4 a b c d).toInt = c.toInt ∨ (lo4 a b c d).toInt = d.toInt) := by
  unfold lo4
  have h1 := t_ls a b; have h2 := t_ls c d; have h3 := t_ls (ls2 a b) (ls2 c d)
  omega
theorem t_hi4 (a b c d : Int64) : a.toInt ≤ (hi4 a b c d).toInt ∧ b.toInt ≤ (hi4 a b c d).toInt ∧ c.toInt ≤ (hi4 a b c d).toInt ∧ d.toInt ≤ (hi4 a b c d).toInt ∧ ((hi4 a b c d).toInt = a.toInt ∨ (hi4 a b c d).toInt = b.toInt ∨ (hi4 a b c d).toInt = c.toInt ∨ (hi4 a b c d).toInt = d.toInt) := by
  unfold hi4
  have h1 := t_gt a b; have h2 := t_gt c d; have h3 := t_gt (gt2 a b) (gt2 c d)
  omega
/-- a product lies between those of the ends -/
theorem mul_le1 {x y p q : Int} (h1 : p ≤ x) (h2 : x ≤ q) : p * y ≤ x * y ∧ x * y ≤ q * y ∨ q * y ≤ x * y ∧ x * y ≤ p * y := by
  rcases Int.le_total 0 y with h | h
  · exact Or.inl ⟨Int.mul_le_mul_of_nonneg_right h1 h, Int.mul_le_mul_of_nonneg_right h2 h⟩
  · exact Or.inr ⟨Int.mul_le_mul_of_nonpos_right h2 h, Int.mul_le_mul_of_nonpos_right h1 h⟩
theorem mul_box {x y p q r t m M : Int} (h1 : p ≤ x) (h2 : x ≤ q) (h3 : r ≤ y) (h4 : y ≤ t) (a1 : m ≤ p * r) (a2 : m ≤ p * t) (a3 : m ≤ q * r) (a4 : m ≤ q * t) (b1 : p * r ≤ M) (b2 : p * t ≤ M) (b3 : q * r ≤ M) (b4 : q * t ≤ M) : m ≤ x * y ∧ x * y ≤ M := by
  have k1 := mul_le1 (y := y) h1 h2
  have k2 := mul_le1 (y := p) h3 h4
  have k3 := mul_le1 (y := q) h3 h4
  rw [Int.mul_comm r p, Int.mul_comm t p, Int.mul_comm y p] at k2
  rw [Int.mul_comm r q, Int.mul_comm t q, Int.mul_comm y q] at k3
  omega
theorem mul_abs {x y a b : Int} (h1 : -a ≤ x) (h2 : x ≤ a) (h3 : -b ≤ y) (h4 : y ≤ b) : -(a * b) ≤ x * y ∧ x * y ≤ a * b := by
  have e1 : -a * -b = a * b := Int.neg_mul_neg a b
  have e2 : -a * b = -(a * b) := Int.neg_mul a b
  have e3 : a * -b = -(a * b) := Int.mul_neg a b
  have ha : 0 ≤ a := by omega
  have hb : 0 ≤ b := by omega
  have hab := Int.mul_nonneg ha hb
  exact mul_box h1 h2 h3 h4 (by omega) (by omega) (by omega) (by omega) (by omega) (by omega) (by omega) (by omega)
/-- rounded down -/
theorem FO_val {a b : Int64} (hb : 0 < b.toInt) : (FO a b).toInt = a.toInt / b.toInt := by
  have hv1 := Int64.le_toInt a
  have hv2 := Int64.toInt_lt a
  have e1 : (a / b).toInt = a.toInt.tdiv b.toInt := by
    rw [Int64.toInt_div]
    apply Int.bmod_eq_of_le
    · rcases Int.le_total 0 a.toInt with hp | hp
      · have := Int.tdiv_nonneg hp (by omega : 0 ≤ b.toInt); omega
      · have q1 := Int.tdiv_nonneg (a := -a.toInt) (b := b.toInt) (by omega) (by omega)
        have q2 := Int.tdiv_le_self (a := -a.toInt) b.toInt (by omega)
        rw [Int.neg_tdiv] at q1 q2; omega
    · rcases Int.le_total 0 a.toInt with hp | hp
      · have := Int.tdiv_le_self (a := a.toInt) b.toInt hp; omega
      · have q1 := Int.tdiv_nonneg (a := -a.toInt) (b := b.toInt) (by omega) (by omega)
        rw [Int.neg_tdiv] at q1; omega
  have hm := Int.mul_tdiv_add_tmod a.toInt b.toInt
  have hd := Int.mul_ediv_add_emod a.toInt b.toInt
  have he1 := Int.emod_nonneg a.toInt (show b.toInt ≠ 0 by omega)
  have he2 := Int.emod_lt_of_pos a.toInt hb
  obtain ⟨Q, hQ⟩ : ∃ Q, Q = a.toInt.tdiv b.toInt := ⟨_, rfl⟩
  obtain ⟨R, hR⟩ : ∃ R, R = a.toInt.tmod b.toInt := ⟨_, rfl⟩
  rw [← hQ, ← hR] at hm
  rw [← hQ] at e1
  have r1 : R < b.toInt ∧ -b.toInt < R ∧ (0 ≤ a.toInt → 0 ≤ R) ∧ (a.toInt ≤ 0 → R ≤ 0) := by
    have a1 := Int.tmod_lt_of_pos a.toInt hb
    have a2 := Int.tmod_lt_of_pos (-a.toInt) hb
    rw [Int.neg_tmod] at a2
    refine ⟨by omega, by omega, fun p => ?_, fun p => ?_⟩
    · have := Int.tmod_nonneg b.toInt p; omega
    · have := Int.tmod_nonneg (a := -a.toInt) b.toInt (by omega); rw [Int.neg_tmod] at this; omega
  have e2 : (a - a / b * b).toInt = R := by
    rw [Int64.toInt_sub, Int64.toInt_mul, e1, Int.sub_bmod_bmod]
    rw [show a.toInt - Q * b.toInt = R by have := Int.mul_comm Q b.toInt; omega]
    exact Int.bmod_eq_of_le (by have := Int64.toInt_lt b; omega) (by have := Int64.toInt_lt b; omega)
  have e0 : (0 : Int64).toInt = 0 := by decide
  have ee : ∀ q : Int, a.toInt - b.toInt * q < b.toInt → 0 ≤ a.toInt - b.toInt * q → q = a.toInt / b.toInt := fun q h1 h2 => by
    have := Int.add_mul_ediv_left (a.toInt - b.toInt * q) q (show b.toInt ≠ 0 by omega)
    rw [show a.toInt - b.toInt * q + b.toInt * q = a.toInt by omega, Int.ediv_eq_zero_of_lt h2 h1] at this
    omega
  unfold FO
  by_cases c0 : a - a / b * b = 0
  · have hR0 : R = 0 := by rw [← e2, c0, e0]
    rw [if_pos c0, e1]; exact ee Q (by omega) (by omega)
  · have hR0 : R ≠ 0 := fun z => c0 (Int64.toInt_inj.mp (by rw [e2, z, e0]))
    have hb' : (0 : Int64) ≤ b := Int64.le_iff_toInt_le.mpr (by rw [e0]; omega)
    rw [if_neg c0]
    by_cases c1 : (0 : Int64) ≤ a
    · have h9 : 0 ≤ a.toInt := by have := le64 c1; rw [e0] at this; exact this
      rw [if_pos c1, if_pos hb', e1]; exact ee Q (by omega) (by omega)
    · have h9 : a.toInt < 0 := by have := nle64 c1; rw [e0] at this; exact this
      have hQ1 : b.toInt * (Q - 1) = b.toInt * Q - b.toInt := by rw [Int.mul_sub, Int.mul_one]
      have hQn : Q ≤ 0 := by
        have q1 := Int.tdiv_nonneg (a := -a.toInt) (b := b.toInt) (by omega) (by omega)
        rw [Int.neg_tdiv] at q1; omega
      have hQl : a.toInt ≤ Q := by
        have q2 := Int.tdiv_le_self (a := -a.toInt) b.toInt (by omega)
        rw [Int.neg_tdiv] at q2; omega
      have hQm : -9223372036854775808 ≤ Q - 1 := by
        rcases Int.lt_or_le a.toInt Q with z | z
        · omega
        · exfalso
          have hQa : Q = a.toInt := by omega
          have : b.toInt = 1 := by
            rcases Int.lt_or_le 1 b.toInt with y | y
            · exfalso
              have h8 : b.toInt * Q ≤ 2 * Q := Int.mul_le_mul_of_nonpos_right (by omega) hQn
              omega
            · omega
          rw [this] at hm r1; omega
      rw [if_neg c1, if_pos hb']
      have e3 : (a / b - 1).toInt = Q - 1 := t_sub e1 (by decide) hQm (by omega)
      rw [e3]; exact ee (Q - 1) (by omega) (by omega)
theorem CO_val {v n : Int32} (h1 : 1 ≤ n.toInt) (h2 : n.toInt ≤ 99) (v1 : -999 ≤ v.toInt) (v2 : v.toInt ≤ 999) : (CO v n).toInt = n.toInt * (v.toInt / n.toInt) ∧ v.toInt - (n.toInt - 1) ≤ (CO v n).toInt ∧ (CO v n).toInt ≤ v.toInt := by
  have e1 : (FO v.toInt64 n.toInt64).toInt = v.toInt / n.toInt := by rw [FO_val (by rw [tz_i2l]; omega), tz_i2l, tz_i2l]
  have hd := Int.mul_ediv_add_emod v.toInt n.toInt
  have he1 := Int.emod_nonneg v.toInt (show n.toInt ≠ 0 by omega)
  have he2 := Int.emod_lt_of_pos v.toInt (show 0 < n.toInt by omega)
  obtain ⟨Q, hQ⟩ : ∃ Q, Q = v.toInt / n.toInt := ⟨_, rfl⟩
  rw [← hQ] at e1 hd ⊢
  have hq : -1998 ≤ Q ∧ Q ≤ 1998 := by
    rcases Int.le_total 0 Q with z | z
    · have : 1 * Q ≤ n.toInt * Q := Int.mul_le_mul_of_nonneg_right h1 z
      omega
    · have : n.toInt * Q ≤ 1 * Q := Int.mul_le_mul_of_nonpos_right h1 z
      omega
  have e2 : (FO v.toInt64 n.toInt64).toInt32.toInt = Q := by rw [Int64.toInt_toInt32, e1]; exact Int.bmod_eq_of_le (by omega) (by omega)
  have e3 : (CO v n).toInt = Q * n.toInt := ti_mul (x := (FO v.toInt64 n.toInt64).toInt32) (y := n) rfl e2 rfl (by rw [Int.mul_comm]; omega) (by rw [Int.mul_comm]; omega)
  rw [Int.mul_comm] at e3
  omega

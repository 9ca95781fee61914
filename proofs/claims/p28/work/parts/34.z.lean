/-- what falls from line to line -/
def ms (τ : MS) : Nat := if (τ.1 4).toInt = 0 ∧ (τ.1 8).toInt ≠ 0 then 1 + ((τ.1 3).toInt - (τ.1 7).toInt).toNat else 0
theorem ms_lt {τ υ : MS} {n : Nat} (hg : (τ.1 4).toInt = 0) (ht : (τ.1 8).toInt ≠ 0) (hp : (υ.1 4).toInt = 0 → Pg υ τ) (hl : Lx υ τ) (hn : ms τ < n + 1) : ms υ < n := by
  have h1 : ms τ = 1 + ((τ.1 3).toInt - (τ.1 7).toInt).toNat := if_pos ⟨hg, ht⟩
  rw [h1] at hn
  unfold ms
  by_cases c : (υ.1 4).toInt = 0 ∧ (υ.1 8).toInt ≠ 0
  · rw [if_pos c]
    have q := hp c.1
    have q1 := hl.1
    have q2 := hl.2.2.1
    have q3 : (υ.1 3).toInt = (τ.1 3).toInt := congrArg Int32.toInt q1
    have q4 : (τ.1 7).toInt < (υ.1 7).toInt := by
      rcases q.2 with k | k
      · exact absurd k c.2
      · exact k
    have q5 : (υ.1 3).toInt = (τ.1 3).toInt := q3
    omega
  · rw [if_neg c]; omega
theorem bk2 {σ : MS} (hI : Inv σ) : (σ.1 29).toNatClampNeg < 2 := cl_lt (n := 2) (hI.1 29).1 (Int.lt_of_le_of_lt (hI.1 29).2 (by decide))
theorem bkne {σ τ : MS} (hI : Inv σ) (hz : (τ.1 30).toInt = 1 - (σ.1 29).toInt) : (σ.1 29).toNatClampNeg ≠ (τ.1 30).toNatClampNeg := by
  have b1 : 0 ≤ (σ.1 29).toInt := (hI.1 29).1
  have b2 : (σ.1 29).toInt ≤ 1 := (hI.1 29).2
  have q1 := ti_cl (x := σ.1 29) rfl b1
  have q2 := ti_cl (x := τ.1 30) rfl (by omega)
  omega
theorem rel_new {σ τ : MS} {z : Int32} (hI : Inv σ) (hz : 0 ≤ z.toInt ∧ z.toInt ≤ 1) (hb : (σ.1 29).toInt = 1 - z.toInt)
    (c11 : τ.2.1 11 = upd (σ.2.1 11) z.toNatClampNeg 0) (c12 : τ.2.1 12 = upd (σ.2.1 12) z.toNatClampNeg 0) (c13 : τ.2.1 13 = upd (σ.2.1 13) z.toNatClampNeg 0)
    (c14 : τ.2.1 14 = σ.2.1 14) (c15 : τ.2.1 15 = σ.2.1 15) (c16 : τ.2.1 16 = σ.2.1 16) (c17 : τ.2.1 17 = σ.2.1 17) (c18 : τ.2.1 18 = σ.2.1 18) (c19 : τ.2.1 19 = σ.2.1 19) (c20 : τ.2.1 20 = σ.2.1 20) (c21 : τ.2.1 21 = σ.2.1 21) (c22 : τ.2.1 22 = σ.2.1 22) :
    RelP τ z.toNatClampNeg ∧ SameB τ σ (σ.1 29).toNatClampNeg := by
  have b1 : 0 ≤ (σ.1 29).toInt := (hI.1 29).1
  have q1 := ti_cl (x := σ.1 29) rfl b1
  have q2 := ti_cl (x := z) rfl hz.1
  have hne : (σ.1 29).toNatClampNeg ≠ z.toNatClampNeg := by omega
  have z0 : (0 : Int32).toInt = 0 := by decide
  refine ⟨⟨fun j hj => ?_, fun j hj => ?_, fun j hj => ?_⟩, SameB.mk6 (updN c11 hne) (updN c12 hne) (updN c13 hne) (fun p i h1 h2 _ => congrFun (crL c14 c15 c16 p h1 h2) i) (fun p i h1 h2 _ => ?_) (fun i _ => congrFun c22 i)⟩
  · have h : gA τ 11 z.toNatClampNeg = 0 := by show (τ.2.1 11 _).toInt = 0; rw [updS c11]; decide
    omega
  · have h : gA τ 12 z.toNatClampNeg = 0 := by show (τ.2.1 12 _).toInt = 0; rw [updS c12]; decide
    omega
  · have h : gA τ 13 z.toNatClampNeg = 0 := by show (τ.2.1 13 _).toInt = 0; rw [updS c13]; decide
    omega
  · rcases (show p = 17 ∨ p = 18 ∨ p = 19 ∨ p = 20 ∨ p = 21 by omega) with rfl | rfl | rfl | rfl | rfl
    · exact congrFun c17 i
    · exact congrFun c18 i
    · exact congrFun c19 i
    · exact congrFun c20 i
    · exact congrFun c21 i

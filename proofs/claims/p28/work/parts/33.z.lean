theorem cvle {f g : Nat → Int32} {i j : Int32} {n : Int} (h : (g j.toNatClampNeg).toInt ≤ n) (hf : f = g) (hi : i = j) : (f i.toNatClampNeg).toInt ≤ n := by rw [hf, hi]; exact h
theorem rel_go {σ τ2 τ3 : MS} (h30 : τ2.1 30 = σ.1 30) (ht : ∀ p, 11 ≤ p → p ≤ 22 → τ2.2.1 p = σ.2.1 p) (f1 : RelP τ2 (τ2.1 30).toNatClampNeg → RelP τ3 (τ2.1 30).toNatClampNeg) : RelP σ (σ.1 30).toNatClampNeg → RelP τ3 (σ.1 30).toNatClampNeg := fun h => by
  rw [h30] at f1; exact f1 (h.eqs ht)
theorem rel_go2 {σ τ2 τ3 : MS} (h30 : τ2.1 30 = σ.1 30) (ht : ∀ p, 11 ≤ p → p ≤ 22 → τ2.2.1 p = σ.2.1 p) (f2 : ∀ bk, bk < 2 → bk ≠ (τ2.1 30).toNatClampNeg → SameB τ3 τ2 bk) : ∀ bk, bk < 2 → bk ≠ (σ.1 30).toNatClampNeg → SameB τ3 σ bk := fun bk h1 h2 => by
  rw [h30] at f2; exact (f2 bk h1 h2).tr (SameB.eqs ht)

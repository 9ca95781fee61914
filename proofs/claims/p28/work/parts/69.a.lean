/-- a SHEET more: the least number everywhere -/
theorem NumS.sheet {σ τ : MS} (hI : Inv σ) (hP : RelP σ (σ.1 29).toNatClampNeg) (h : NumS σ) (e29 : τ.1 29 = σ.1 29) (et : ∀ p, 11 ≤ p → p ≤ 22 → τ.2.1 p = σ.2.1 p) (e39 : (τ.1 39).toInt = (σ.1 39).toInt + 1) (hN : ∀ i, i < 12 * (σ.1 39).toNatClampNeg → τ.2.1 31 i = σ.2.1 31 i) (hL : ∀ r k : Nat, k < 6 → (r : Int) < (σ.2.1 11 (σ.1 29).toNatClampNeg).toInt → τ.2.1 31 (12 * (σ.1 39).toNatClampNeg + 6 * r + k) = σ.2.1 15 (2 * (σ.1 29).toNatClampNeg + r)) : NumS τ := fun i hi r hr k hk => by
  have s39 : 0 ≤ (σ.1 39).toInt := (hI.1 39).1
  have q := ti_cl (x := σ.1 39) rfl s39
  rw [e29, et 11 (by omega) (by omega)] at hr
  rw [e29, et 14 (by omega) (by omega)] at hk
  rw [e29, et 15 (by omega) (by omega), et 16 (by omega) (by omega)]
  have b : 0 ≤ (σ.1 29).toInt ∧ (σ.1 29).toInt ≤ 1 := hI.1 29
  have q1 := ti_cl (x := σ.1 29) rfl b.1
  have l : (σ.2.1 11 (σ.1 29).toNatClampNeg).toInt ≤ 2 := (hI.2 11 _ (show (σ.1 29).toNatClampNeg < 2 by omega)).2
  have l2 : (σ.2.1 14 (2 * (σ.1 29).toNatClampNeg + r)).toInt ≤ 6 := (hI.2 14 _ (show 2 * (σ.1 29).toNatClampNeg + r < 4 by omega)).2
  by_cases e : i < (σ.1 39).toNatClampNeg
  · rw [hN _ (by omega)]; exact h i (by omega) r hr k hk
  · have ei : i = (σ.1 39).toNatClampNeg := by omega
    rw [ei, hL r k (by omega) hr]
    exact ⟨Int.le_refl _, (hP.1 r hr).2.2.2.1⟩

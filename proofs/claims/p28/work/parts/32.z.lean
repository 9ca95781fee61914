theorem tabE {τ σ : MS} (c11 : τ.2.1 11 = σ.2.1 11) (c12 : τ.2.1 12 = σ.2.1 12) (c13 : τ.2.1 13 = σ.2.1 13) (c14 : τ.2.1 14 = σ.2.1 14) (c15 : τ.2.1 15 = σ.2.1 15) (c16 : τ.2.1 16 = σ.2.1 16) (c17 : τ.2.1 17 = σ.2.1 17) (c18 : τ.2.1 18 = σ.2.1 18) (c19 : τ.2.1 19 = σ.2.1 19) (c20 : τ.2.1 20 = σ.2.1 20) (c21 : τ.2.1 21 = σ.2.1 21) : ∀ p, 11 ≤ p → p ≤ 21 → τ.2.1 p = σ.2.1 p := by
  intro p h1 h2
  rcases (show p = 11 ∨ p = 12 ∨ p = 13 ∨ p = 14 ∨ p = 15 ∨ p = 16 ∨ p = 17 ∨ p = 18 ∨ p = 19 ∨ p = 20 ∨ p = 21 by omega) with rfl | rfl | rfl | rfl | rfl | rfl | rfl | rfl | rfl | rfl | rfl
  · exact c11
  · exact c12
  · exact c13
  · exact c14
  · exact c15
  · exact c16
  · exact c17
  · exact c18
  · exact c19
  · exact c20
  · exact c21
theorem crE {τ σ : MS} (c14 : τ.2.1 14 = σ.2.1 14) (c15 : τ.2.1 15 = σ.2.1 15) (c16 : τ.2.1 16 = σ.2.1 16) (c17 : τ.2.1 17 = σ.2.1 17) (c18 : τ.2.1 18 = σ.2.1 18) (c19 : τ.2.1 19 = σ.2.1 19) (c20 : τ.2.1 20 = σ.2.1 20) (c21 : τ.2.1 21 = σ.2.1 21) : ∀ p, 14 ≤ p → p ≤ 21 → τ.2.1 p = σ.2.1 p := by
  intro p h1 h2
  rcases (show p = 14 ∨ p = 15 ∨ p = 16 ∨ p = 17 ∨ p = 18 ∨ p = 19 ∨ p = 20 ∨ p = 21 by omega) with rfl | rfl | rfl | rfl | rfl | rfl | rfl | rfl
  · exact c14
  · exact c15
  · exact c16
  · exact c17
  · exact c18
  · exact c19
  · exact c20
  · exact c21

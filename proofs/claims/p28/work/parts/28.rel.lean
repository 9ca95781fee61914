/-! what a told program's tables hold, beside ranges: bank b of the reference -/
abbrev gA (σ : MS) (p i : Nat) : Int := (σ.2.1 p i).toInt
def RowOk (σ : MS) (i : Nat) : Prop := 1 ≤ gA σ 14 i ∧ gA σ 14 i ≤ 6 ∧ -999 ≤ gA σ 15 i ∧ gA σ 15 i ≤ gA σ 16 i ∧ gA σ 16 i ≤ 999
def StOk (k a b c d rows j : Int) : Prop := 0 ≤ k ∧ k ≤ 7 ∧ ((k = 0 ∨ k = 1 ∨ k = 6) → 0 ≤ a ∧ a < rows) ∧ ((k ≠ 0 ∧ k ≠ 1 ∧ k ≠ 6) → 0 ≤ a ∧ a < j) ∧ ((k = 2 ∨ k = 3 ∨ k = 4 ∨ k = 6 ∨ k = 7) → 0 ≤ b ∧ b < j) ∧ (k = 5 → -99 ≤ b ∧ b ≤ 99 ∧ 1 ≤ c ∧ c ≤ 99) ∧ (k = 7 → 0 ≤ c ∧ c < j ∧ 0 ≤ d ∧ d < j)
def StepOk (σ : MS) (b j : Nat) : Prop := StOk (gA σ 17 (12 * b + j)) (gA σ 18 (12 * b + j)) (gA σ 19 (12 * b + j)) (gA σ 20 (12 * b + j)) (gA σ 21 (12 * b + j)) (gA σ 11 b) j
def RelP (σ : MS) (b : Nat) : Prop := (∀ j : Nat, (j : Int) < gA σ 11 b → RowOk σ (2 * b + j)) ∧ (∀ j : Nat, (j : Int) < gA σ 12 b → StepOk σ b j) ∧ ∀ j : Nat, (j : Int) < gA σ 13 b → 0 ≤ gA σ 22 (4 * b + j) ∧ gA σ 22 (4 * b + j) < gA σ 12 b
theorem StOk.mono {k a b c d r1 r2 j : Int} (h : StOk k a b c d r1 j) (hr : r1 ≤ r2) : StOk k a b c d r2 j := by
  unfold StOk at h ⊢; omega
/-- tables that are the same in a bank -/
theorem RelP.cg {σ τ : MS} {b : Nat} (h : RelP σ b) (e11 : τ.2.1 11 b = σ.2.1 11 b) (e12 : τ.2.1 12 b = σ.2.1 12 b) (e13 : τ.2.1 13 b = σ.2.1 13 b)
    (er : ∀ p i, 14 ≤ p → p ≤ 16 → i / 2 = b → τ.2.1 p i = σ.2.1 p i) (es : ∀ p i, 17 ≤ p → p ≤ 21 → i / 12 = b → τ.2.1 p i = σ.2.1 p i) (ee : ∀ i, i / 4 = b → τ.2.1 22 i = σ.2.1 22 i)
    (h11 : gA σ 11 b ≤ 2) (h12 : gA σ 12 b ≤ 12) (h13 : gA σ 13 b ≤ 4) : RelP τ b := by
  refine ⟨fun j hj => ?_, fun j hj => ?_, fun j hj => ?_⟩
  · have hj' : (j : Int) < gA σ 11 b := by have h9 : gA τ 11 b = gA σ 11 b := congrArg Int32.toInt e11; omega
    have h1 := h.1 j hj'
    have hd : (2 * b + j) / 2 = b := by omega
    unfold RowOk at h1 ⊢
    have a1 : gA τ 14 (2 * b + j) = gA σ 14 (2 * b + j) := congrArg Int32.toInt (er 14 _ (by omega) (by omega) hd)
    have a2 : gA τ 15 (2 * b + j) = gA σ 15 (2 * b + j) := congrArg Int32.toInt (er 15 _ (by omega) (by omega) hd)
    have a3 : gA τ 16 (2 * b + j) = gA σ 16 (2 * b + j) := congrArg Int32.toInt (er 16 _ (by omega) (by omega) hd)
    rw [a1, a2, a3]; exact h1
  · have hj' : (j : Int) < gA σ 12 b := by have h9 : gA τ 12 b = gA σ 12 b := congrArg Int32.toInt e12; omega
    have h1 := h.2.1 j hj'
    have hd : (12 * b + j) / 12 = b := by omega
    unfold StepOk at h1 ⊢
    have a1 : gA τ 17 (12 * b + j) = gA σ 17 (12 * b + j) := congrArg Int32.toInt (es 17 _ (by omega) (by omega) hd)
    have a2 : gA τ 18 (12 * b + j) = gA σ 18 (12 * b + j) := congrArg Int32.toInt (es 18 _ (by omega) (by omega) hd)
    have a3 : gA τ 19 (12 * b + j) = gA σ 19 (12 * b + j) := congrArg Int32.toInt (es 19 _ (by omega) (by omega) hd)
    have a4 : gA τ 20 (12 * b + j) = gA σ 20 (12 * b + j) := congrArg Int32.toInt (es 20 _ (by omega) (by omega) hd)
    have a5 : gA τ 21 (12 * b + j) = gA σ 21 (12 * b + j) := congrArg Int32.toInt (es 21 _ (by omega) (by omega) hd)
    have a6 : gA τ 11 b = gA σ 11 b := congrArg Int32.toInt e11
    rw [a1, a2, a3, a4, a5, a6]; exact h1
  · have a0 : gA τ 13 b = gA σ 13 b := congrArg Int32.toInt e13
    have hj' : (j : Int) < gA σ 13 b := by omega
    have h1 := h.2.2 j hj'
    have a1 : gA τ 22 (4 * b + j) = gA σ 22 (4 * b + j) := congrArg Int32.toInt (ee _ (by omega))
    have a2 : gA τ 12 b = gA σ 12 b := congrArg Int32.toInt e12
    rw [a1, a2]; exact h1
/-- a ROW more -/
theorem RelP.addRow {σ τ : MS} {b n : Nat} (h : RelP σ b) (hn : gA σ 11 b = n) (hn1 : n ≤ 1) (h12 : gA σ 12 b ≤ 12) (h13 : gA σ 13 b ≤ 4) (e11 : gA τ 11 b = n + 1) (e12 : τ.2.1 12 b = σ.2.1 12 b) (e13 : τ.2.1 13 b = σ.2.1 13 b)
    (er : ∀ p i, 14 ≤ p → p ≤ 16 → i ≠ 2 * b + n → τ.2.1 p i = σ.2.1 p i) (hw : RowOk τ (2 * b + n)) (es : ∀ p, 17 ≤ p → p ≤ 22 → τ.2.1 p = σ.2.1 p) : RelP τ b := by
  refine ⟨fun j hj => ?_, fun j hj => ?_, fun j hj => ?_⟩
  · by_cases e : j = n
    · subst e; exact hw
    · have h1 := h.1 j (by omega)
      unfold RowOk at h1 ⊢
      have a1 : gA τ 14 (2 * b + j) = gA σ 14 (2 * b + j) := congrArg Int32.toInt (er 14 _ (by omega) (by omega) (by omega))
      have a2 : gA τ 15 (2 * b + j) = gA σ 15 (2 * b + j) := congrArg Int32.toInt (er 15 _ (by omega) (by omega) (by omega))
      have a3 : gA τ 16 (2 * b + j) = gA σ 16 (2 * b + j) := congrArg Int32.toInt (er 16 _ (by omega) (by omega) (by omega))
      rw [a1, a2, a3]; exact h1
  · have a0 : gA τ 12 b = gA σ 12 b := congrArg Int32.toInt e12
    have h1 := h.2.1 j (by omega)
    unfold StepOk at h1 ⊢
    have f : ∀ p, 17 ≤ p → p ≤ 22 → gA τ p (12 * b + j) = gA σ p (12 * b + j) := fun p h1 h2 => congrArg (fun g => (g (12 * b + j)).toInt) (es p h1 h2)
    rw [f 17 (by omega) (by omega), f 18 (by omega) (by omega), f 19 (by omega) (by omega), f 20 (by omega) (by omega), f 21 (by omega) (by omega)]
    exact h1.mono (by omega)
  · have a0 : gA τ 13 b = gA σ 13 b := congrArg Int32.toInt e13
    have h1 := h.2.2 j (by omega)
    have a1 : gA τ 22 (4 * b + j) = gA σ 22 (4 * b + j) := congrArg (fun g => (g (4 * b + j)).toInt) (es 22 (by omega) (by omega))
    have a2 : gA τ 12 b = gA σ 12 b := congrArg Int32.toInt e12
    rw [a1, a2]; exact h1
/-- a STEP more -/
theorem RelP.addStep {σ τ : MS} {b n : Nat} (h : RelP σ b) (hn : gA σ 12 b = n) (e11 : τ.2.1 11 b = σ.2.1 11 b) (e12 : gA τ 12 b = n + 1) (e13 : τ.2.1 13 b = σ.2.1 13 b)
    (er : ∀ p, 14 ≤ p → p ≤ 16 → τ.2.1 p = σ.2.1 p) (es : ∀ p i, 17 ≤ p → p ≤ 21 → i ≠ 12 * b + n → τ.2.1 p i = σ.2.1 p i) (hw : StepOk τ b n) (ee : τ.2.1 22 = σ.2.1 22) : RelP τ b := by
  refine ⟨fun j hj => ?_, fun j hj => ?_, fun j hj => ?_⟩
  · have a0 : gA τ 11 b = gA σ 11 b := congrArg Int32.toInt e11
    have h1 := h.1 j (by omega)
    unfold RowOk at h1 ⊢
    have f : ∀ p, 14 ≤ p → p ≤ 16 → gA τ p (2 * b + j) = gA σ p (2 * b + j) := fun p h1 h2 => congrArg (fun g => (g (2 * b + j)).toInt) (er p h1 h2)
    rw [f 14 (by omega) (by omega), f 15 (by omega) (by omega), f 16 (by omega) (by omega)]; exact h1
  · by_cases e : j = n
    · subst e; exact hw
    · have h1 := h.2.1 j (by omega)
      unfold StepOk at h1 ⊢
      have f : ∀ p, 17 ≤ p → p ≤ 21 → gA τ p (12 * b + j) = gA σ p (12 * b + j) := fun p h1 h2 => congrArg Int32.toInt (es p _ h1 h2 (by omega))
      have a6 : gA τ 11 b = gA σ 11 b := congrArg Int32.toInt e11
      rw [f 17 (by omega) (by omega), f 18 (by omega) (by omega), f 19 (by omega) (by omega), f 20 (by omega) (by omega), f 21 (by omega) (by omega), a6]
      exact h1
  · have a0 : gA τ 13 b = gA σ 13 b := congrArg Int32.toInt e13
    have h1 := h.2.2 j (by omega)
    have a1 : gA τ 22 (4 * b + j) = gA σ 22 (4 * b + j) := congrArg (fun g => (g (4 * b + j)).toInt) ee
    rw [a1]; omega
/-- an END more -/
theorem RelP.addEnd {σ τ : MS} {b n : Nat} (h : RelP σ b) (hn : gA σ 13 b = n) (e11 : τ.2.1 11 b = σ.2.1 11 b) (e12 : τ.2.1 12 b = σ.2.1 12 b) (e13 : gA τ 13 b = n + 1)
    (er : ∀ p, 14 ≤ p → p ≤ 21 → τ.2.1 p = σ.2.1 p) (ee : ∀ i, i ≠ 4 * b + n → τ.2.1 22 i = σ.2.1 22 i) (hw : 0 ≤ gA τ 22 (4 * b + n) ∧ gA τ 22 (4 * b + n) < gA σ 12 b) : RelP τ b := by
  have a12 : gA τ 12 b = gA σ 12 b := congrArg Int32.toInt e12
  have a11 : gA τ 11 b = gA σ 11 b := congrArg Int32.toInt e11
  refine ⟨fun j hj => ?_, fun j hj => ?_, fun j hj => ?_⟩
  · have h1 := h.1 j (by omega)
    unfold RowOk at h1 ⊢
    have f : ∀ p, 14 ≤ p → p ≤ 21 → gA τ p (2 * b + j) = gA σ p (2 * b + j) := fun p h1 h2 => congrArg (fun g => (g (2 * b + j)).toInt) (er p h1 h2)
    rw [f 14 (by omega) (by omega), f 15 (by omega) (by omega), f 16 (by omega) (by omega)]; exact h1
  · have h1 := h.2.1 j (by omega)
    unfold StepOk at h1 ⊢
    have f : ∀ p, 14 ≤ p → p ≤ 21 → gA τ p (12 * b + j) = gA σ p (12 * b + j) := fun p h1 h2 => congrArg (fun g => (g (12 * b + j)).toInt) (er p h1 h2)
    rw [f 17 (by omega) (by omega), f 18 (by omega) (by omega), f 19 (by omega) (by omega), f 20 (by omega) (by omega), f 21 (by omega) (by omega), a11]
    exact h1
  · by_cases e : j = n
    · subst e; rw [a12]; exact hw
    · have h1 := h.2.2 j (by omega)
      have a1 : gA τ 22 (4 * b + j) = gA σ 22 (4 * b + j) := congrArg Int32.toInt (ee _ (by omega))
      rw [a1, a12]; exact h1

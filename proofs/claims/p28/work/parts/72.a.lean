theorem bt0n (c : Int32) : ¬ ((0 : Int32) >>> (c &&& 31)) &&& 1 = 1 := by simp
/-- a PLAN's pick: a CHOICE by which the END is no more than b off on the SHEET -/
def PkOk (σ : MS) (x : Int32) (i b : Nat) (c : Int32) : Prop := ∃ r, FarC σ x (nI i) c r ∧ 0 ≤ r.toInt ∧ r.toInt ≤ b
/-- SHEETS behind iv: their best, and what was picked -/
def PlanI (σ : MS) (x : Int32) (m iv : Int) (τ : MS) : Prop := (∀ b i : Nat, (i : Int) = iv + 1 → (b : Int) ≤ m → 0 ≤ (τ.2.1 54 (401 * i + b)).toInt) ∧ ∀ i b : Nat, iv < i → (i : Int) < (σ.1 39).toInt → (b : Int) ≤ m → PkOk σ x i b (τ.2.1 55 (401 * i + b))
/-- the CHOICES ahead of n: how far off, what they save -/
def FarsI (σ : MS) (x : Int32) (i n : Nat) (τ : MS) : Prop := ∀ c : Nat, c < n → ((τ.2.1 56 c).toInt = 401 ∨ ∃ r, FarC σ x (nI i) (nI c) r ∧ 0 ≤ r.toInt ∧ r.toInt ≤ 400 ∧ (τ.2.1 56 c).toInt = r.toInt) ∧ (c = 0 → (τ.2.1 56 c).toInt = 0 ∧ τ.2.1 57 c = 0)
/-- the amounts ahead of n, of SHEET i -/
def RowI (σ : MS) (x : Int32) (i n : Nat) (τ : MS) : Prop := ∀ b : Nat, b < n → 0 ≤ (τ.2.1 54 (401 * i + b)).toInt ∧ PkOk σ x i b (τ.2.1 55 (401 * i + b))
theorem PkOk.of {σ : MS} {x : Int32} {i b n c : Nat} {τ : MS} (h : FarsI σ x i n τ) (hc : c < n) (hb : (τ.2.1 56 c).toInt ≤ b) (hb4 : b ≤ 400) : PkOk σ x i b (nI c) ∧ 0 ≤ (τ.2.1 56 c).toInt := by
  rcases (h c hc).1 with e | ⟨r, f, r0, r4, e⟩
  · omega
  · exact ⟨⟨r, f, r0, by omega⟩, by omega⟩

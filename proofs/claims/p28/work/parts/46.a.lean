theorem i_ne {z : Int32} (h : z.toInt ≠ 0) : ¬ z = 0 := fun e => h (by rw [e]; decide)
theorem sL_21 {σ : MS} {k : Nat} {v : Int64} : (sL σ k v).2.1 = σ.2.1 := rfl
theorem sL_J {σ : MS} {k : Nat} {v : Int64} : (sL σ k v).2.2.1 = σ.2.2.1 := rfl
theorem sL_1 {σ : MS} {k : Nat} {v : Int64} : (sL σ k v).1 = σ.1 := rfl

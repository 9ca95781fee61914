theorem relj_new {σ τ : MS} {z : Int32} (c12 : τ.2.1 12 = upd (σ.2.1 12) z.toNatClampNeg 0) : RelJ τ z.toNatClampNeg := fun j hj => by
  have h : (τ.2.1 12 z.toNatClampNeg).toInt = 0 := by rw [updS c12]; decide
  omega

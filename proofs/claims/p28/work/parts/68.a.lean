theorem OnR.y {ps : List Nat} {τ σ : MS} {ch : Int32} {on : Nat → Int32} (h : OnR τ ch on) (hx : eqx ps τ σ) (h40 : 40 ∉ ps) (h33 : 33 ∉ ps) : OnR σ ch on := by
  unfold OnR at h ⊢; rw [(hx 40 h40).1, (hx 33 h33).2.1] at h; exact h
theorem OnR.c {σ : MS} {ch ch' : Int32} {on : Nat → Int32} (h : OnR σ ch on) (e : ch' = ch) : OnR σ ch' on := by rw [e]; exact h
theorem l2i_val {y : Int64} {z : Int32} (hz : z = y.toInt32) (h0 : 0 ≤ y.toInt) (h1 : y.toInt ≤ 1000000000) : z.toInt = y.toInt := by
  rw [hz, Int64.toInt_toInt32]; exact Int.bmod_eq_of_le (by omega) (by omega)
theorem i2l_val {z : Int32} {y : Int64} (hy : y = z.toInt64) : y.toInt = z.toInt := by rw [hy]; exact Int32.toInt_toInt64 z
/-- a number put within its ROW's -/
theorem NumS.put {σ τ : MS} {i r k v : Nat} {vv : Int32} (h : NumS σ) (e39 : τ.1 39 = σ.1 39) (e29 : τ.1 29 = σ.1 29) (et : ∀ p, 11 ≤ p → p ≤ 22 → τ.2.1 p = σ.2.1 p) (e31 : τ.2.1 31 = upd (σ.2.1 31) v vv) (hv : v = 12 * i + 6 * r + k) (hr : (r : Int) < (σ.2.1 11 (σ.1 29).toNatClampNeg).toInt) (hr2 : r ≤ 1) (hk : k ≤ 5) (h1 : (σ.2.1 15 (2 * (σ.1 29).toNatClampNeg + r)).toInt ≤ vv.toInt) (h2 : vv.toInt ≤ (σ.2.1 16 (2 * (σ.1 29).toNatClampNeg + r)).toInt) (hI : Inv σ) : NumS τ := fun i' hi r' hr' k' hk' => by
  rw [e39] at hi
  rw [e29, et 11 (by omega) (by omega)] at hr'
  rw [e29, et 14 (by omega) (by omega)] at hk'
  rw [e29, et 15 (by omega) (by omega), et 16 (by omega) (by omega), e31]
  have b : 0 ≤ (σ.1 29).toInt ∧ (σ.1 29).toInt ≤ 1 := hI.1 29
  have q1 := ti_cl (x := σ.1 29) rfl b.1
  have l : (σ.2.1 11 (σ.1 29).toNatClampNeg).toInt ≤ 2 := (hI.2 11 _ (show (σ.1 29).toNatClampNeg < 2 by omega)).2
  have l2 : (σ.2.1 14 (2 * (σ.1 29).toNatClampNeg + r')).toInt ≤ 6 := (hI.2 14 _ (show 2 * (σ.1 29).toNatClampNeg + r' < 4 by omega)).2
  by_cases e : 12 * i' + 6 * r' + k' = v
  · have er : r' = r := by omega
    rw [e, pk_us, er]; exact ⟨h1, h2⟩
  · rw [pk_un e]; exact h i' hi r' hr' k' hk'

theorem vuN {f g : Nat → Int64} {k i : Nat} {v : Int64} (h : f = vp_updL g k v) (hi : i ≠ k) : f i = g i := by rw [h]; exact pk_uLn hi
theorem vuS {f g : Nat → Int64} {k : Nat} {v : Int64} (h : f = vp_updL g k v) : f k = v := by rw [h]; exact pk_uLs
theorem RelJ.eqs {σ τ : MS} {b : Nat} (hI : Inv σ) (hb : b < 2) (hP : RelP σ b) (h : RelJ σ b) (e : ∀ p, 11 ≤ p → p ≤ 21 → p ≠ 13 → τ.2.1 p = σ.2.1 p) (ej : ∀ p, p = 27 ∨ p = 28 → τ.2.2.1 p = σ.2.2.1 p) : RelJ τ b :=
  RelJ.cg hP h (hI.2 12 b (show b < 2 from hb)).2 (congrArg (fun f => (f b).toInt) (e 12 (by omega) (by omega) (by omega))) (fun p j h1 h2 _ => congrFun (e p (by omega) (by omega) (by omega)) _) (fun p r h1 h2 _ => congrFun (e p (by omega) (by omega) (by omega)) _) (fun p j h1 _ => congrFun (ej p h1) _)
theorem relj_row {σ τ : MS} {r n rb v14 v15 v16 : Int32} (hI : Inv σ) (hrb : 0 ≤ rb.toInt ∧ rb.toInt ≤ 1) (hn : n = σ.2.1 11 rb.toNatClampNeg) (hn0 : 0 ≤ n.toInt) (hr : r.toInt = 2 * rb.toInt + n.toInt)
    (c12 : τ.2.1 12 = σ.2.1 12) (c14 : τ.2.1 14 = upd (σ.2.1 14) r.toNatClampNeg v14) (c15 : τ.2.1 15 = upd (σ.2.1 15) r.toNatClampNeg v15) (c16 : τ.2.1 16 = upd (σ.2.1 16) r.toNatClampNeg v16)
    (cs : ∀ p, 17 ≤ p → p ≤ 22 → τ.2.1 p = σ.2.1 p) (cj : ∀ p, p = 27 ∨ p = 28 → τ.2.2.1 p = σ.2.2.1 p) : RelP σ rb.toNatClampNeg → RelJ σ rb.toNatClampNeg → RelJ τ rb.toNatClampNeg := fun hP h => by
  have q1 := ti_cl (x := rb) rfl hrb.1
  have q2 := ti_cl (x := n) rfl hn0
  have q3 := ti_cl (x := r) rfl (by omega)
  have hb : rb.toNatClampNeg < 2 := by omega
  refine RelJ.cg hP h (hI.2 12 _ (show rb.toNatClampNeg < 2 from hb)).2 (congrArg (fun f => (f rb.toNatClampNeg).toInt) c12) (fun p j h1 h2 _ => congrFun (cs p (by omega) (by omega)) _) (fun p k h1 h2 h3 => ?_) (fun p j h1 _ => congrFun (cj p h1) _)
  have hk : 2 * rb.toNatClampNeg + k ≠ r.toNatClampNeg := by rw [← hn] at h3; omega
  rcases (show p = 14 ∨ p = 15 ∨ p = 16 by omega) with rfl | rfl | rfl
  · exact updN c14 hk
  · exact updN c15 hk
  · exact updN c16 hk
theorem relj_step {σ τ τa : MS} {r n rb v12 : Int32} {v w : Int64} (hI : Inv σ) (hrb : 0 ≤ rb.toInt ∧ rb.toInt ≤ 1) (hn : n = σ.2.1 12 rb.toNatClampNeg) (hn0 : 0 ≤ n.toInt) (hr : r.toInt = 12 * rb.toInt + n.toInt)
    (c11 : τ.2.1 11 = σ.2.1 11) (c12 : τ.2.1 12 = upd (σ.2.1 12) rb.toNatClampNeg v12) (h12 : v12.toInt = n.toInt + 1) (cr : ∀ p, 14 ≤ p → p ≤ 16 → τ.2.1 p = σ.2.1 p) (cs : ∀ p i, 17 ≤ p → p ≤ 21 → i ≠ r.toNatClampNeg → τ.2.1 p i = σ.2.1 p i)
    (ea : ∀ p, 11 ≤ p → p ≤ 21 → p ≠ 12 → τ.2.1 p = τa.2.1 p) (ja : ∀ p, p = 27 ∨ p = 28 → τa.2.2.1 p = σ.2.2.1 p) (j27 : τ.2.2.1 27 = vp_updL (σ.2.2.1 27) r.toNatClampNeg v) (j28 : τ.2.2.1 28 = vp_updL (σ.2.2.1 28) r.toNatClampNeg w) (hsp : SpnV rb.toNatClampNeg r.toNatClampNeg τa.2.1 τa.2.2.1 v w) (b1 : -1000000000 ≤ v.toInt) (b2 : w.toInt ≤ 1000000000)
    (hst : StOk (τ.2.1 17 r.toNatClampNeg).toInt (τ.2.1 18 r.toNatClampNeg).toInt (τ.2.1 19 r.toNatClampNeg).toInt (τ.2.1 20 r.toNatClampNeg).toInt (τ.2.1 21 r.toNatClampNeg).toInt (σ.2.1 11 rb.toNatClampNeg).toInt n.toInt) :
    RelP σ rb.toNatClampNeg → RelJ σ rb.toNatClampNeg → RelJ τ rb.toNatClampNeg := fun hP h j hj => by
  have q1 := ti_cl (x := rb) rfl hrb.1
  have q2 := ti_cl (x := n) rfl hn0
  have q3 := ti_cl (x := r) rfl (by omega)
  have hx : r.toNatClampNeg = 12 * rb.toNatClampNeg + n.toNatClampNeg := by omega
  rw [updS c12] at hj
  have jn : ∀ p i, p = 27 ∨ p = 28 → i < n.toNatClampNeg → τ.2.2.1 p (12 * rb.toNatClampNeg + i) = σ.2.2.1 p (12 * rb.toNatClampNeg + i) := fun p i hp hi => by
    rcases hp with rfl | rfl
    · exact vuN j27 (by omega)
    · exact vuN j28 (by omega)
  by_cases e : j = n.toNatClampNeg
  · subst e
    rw [← hx, vuS j27, vuS j28]
    refine ⟨?_, b1, b2⟩
    rw [hx] at hsp hst ⊢
    rw [ea 17 (by omega) (by omega) (by omega), ea 18 (by omega) (by omega) (by omega), ea 19 (by omega) (by omega) (by omega), ea 20 (by omega) (by omega) (by omega), ea 21 (by omega) (by omega) (by omega), ← c11, ea 11 (by omega) (by omega) (by omega), ← q2] at hst
    refine SpnV.cg hst hsp (fun p h1 h2 => congrFun (ea p (by omega) (by omega) (by omega)) _) (fun p k h1 h2 _ => congrFun (ea p (by omega) (by omega) (by omega)) _) (fun p i hp hi => (jn p i hp hi).trans (congrFun (ja p hp) _).symm)
  · have hj' : (j : Int) < (σ.2.1 12 rb.toNatClampNeg).toInt := by rw [← hn]; omega
    have h1 := h j hj'
    rw [← hn] at hj'
    rw [jn 27 j (by omega) (by omega), jn 28 j (by omega) (by omega)]
    refine ⟨SpnV.cg (hP.2.1 j (by show (j : Int) < (σ.2.1 12 rb.toNatClampNeg).toInt; rw [← hn]; exact hj')) h1.1 (fun p a c => cs p _ a c (by omega)) (fun p k a c _ => congrFun (cr p a c) _) (fun p i a c => jn p i a (by omega)), h1.2⟩
theorem samej_step {σ τ : MS} {r n rb : Int32} {v w : Int64} (hrb : 0 ≤ rb.toInt ∧ rb.toInt ≤ 1) (hn0 : 0 ≤ n.toInt) (hn1 : n.toInt ≤ 11) (hr : r.toInt = 12 * rb.toInt + n.toInt) (j27 : τ.2.2.1 27 = vp_updL (σ.2.2.1 27) r.toNatClampNeg v) (j28 : τ.2.2.1 28 = vp_updL (σ.2.2.1 28) r.toNatClampNeg w) : ∀ bk, bk < 2 → bk ≠ rb.toNatClampNeg → SameJ τ σ bk := fun bk hb hne p i hp hi => by
  have q1 := ti_cl (x := rb) rfl hrb.1
  have q2 := ti_cl (x := n) rfl hn0
  have q3 := ti_cl (x := r) rfl (by omega)
  rcases hp with rfl | rfl
  · exact vuN j27 (by omega)
  · exact vuN j28 (by omega)
theorem rj_bk {σ : MS} (hI : Inv σ) : (σ.1 30).toNatClampNeg < 2 := cl_lt (n := 2) (hI.1 30).1 (Int.lt_of_le_of_lt (hI.1 30).2 (by decide))
theorem relj_go {σ τ2 τ3 : MS} (hI : Inv σ) (h30 : τ2.1 30 = σ.1 30) (ht : ∀ p, 11 ≤ p → p ≤ 22 → τ2.2.1 p = σ.2.1 p) (hj : ∀ p, p = 27 ∨ p = 28 → τ2.2.2.1 p = σ.2.2.1 p) (f : RelP τ2 (τ2.1 30).toNatClampNeg → RelJ τ2 (τ2.1 30).toNatClampNeg → RelJ τ3 (τ2.1 30).toNatClampNeg) : RelP σ (σ.1 30).toNatClampNeg → RelJ σ (σ.1 30).toNatClampNeg → RelJ τ3 (σ.1 30).toNatClampNeg := fun hP h => by
  rw [h30] at f
  exact f (hP.eqs ht) (RelJ.eqs hI (rj_bk hI) hP h (fun p a b _ => ht p (by omega) (by omega)) hj)

/-! what a call rests on is kept -/
theorem RI.x {ps : List Nat} {τ σ : MS} (hI : Inv σ) (h : RI σ) (hx : eqx ps τ σ) (h29 : 29 ∉ ps) (h39 : 39 ∉ ps) (h40 : 40 ∉ ps) (ht : ∀ q, 11 ≤ q → q ≤ 22 → q ∉ ps) (hj : ∀ q, q = 27 ∨ q = 28 → q ∉ ps) (h31 : 31 ∉ ps) (h33 : 33 ∉ ps) (h34 : 34 ∉ ps) (h35 : 35 ∉ ps) : RI τ := by
  have b : 0 ≤ (σ.1 29).toInt ∧ (σ.1 29).toInt ≤ 1 := hI.1 29
  have q1 := ti_cl (x := σ.1 29) rfl b.1
  refine ⟨h.1.x hx h29 ht, ?_, h.2.2.1.x hx h29 h40 ht h33 h34 h35, ?_⟩
  · rw [(hx 29 h29).1]
    exact RelJ.eqs hI (by omega) h.1 h.2.1 (fun p a c _ => (hx p (ht p a (by omega))).2.1) (fun p a => (hx p (hj p a)).2.2.1)
  · unfold NumS
    rw [(hx 29 h29).1, (hx 39 h39).1, (hx 11 (ht 11 (by omega) (by omega))).2.1, (hx 14 (ht 14 (by omega) (by omega))).2.1, (hx 15 (ht 15 (by omega) (by omega))).2.1, (hx 16 (ht 16 (by omega) (by omega))).2.1, (hx 31 h31).2.1]
    exact h.2.2.2
/-- but for the SHEETS' numbers -/
theorem RI.num {ps : List Nat} {τ σ : MS} (hI : Inv σ) (h : RI σ) (hx : eqx ps τ σ) (h29 : 29 ∉ ps) (h40 : 40 ∉ ps) (ht : ∀ q, 11 ≤ q → q ≤ 22 → q ∉ ps) (hj : ∀ q, q = 27 ∨ q = 28 → q ∉ ps) (h33 : 33 ∉ ps) (h34 : 34 ∉ ps) (h35 : 35 ∉ ps) (hn : NumS τ) : RI τ := by
  have b : 0 ≤ (σ.1 29).toInt ∧ (σ.1 29).toInt ≤ 1 := hI.1 29
  have q1 := ti_cl (x := σ.1 29) rfl b.1
  refine ⟨h.1.x hx h29 ht, ?_, h.2.2.1.x hx h29 h40 ht h33 h34 h35, hn⟩
  rw [(hx 29 h29).1]
  exact RelJ.eqs hI (by omega) h.1 h.2.1 (fun p a c _ => (hx p (ht p a (by omega))).2.1) (fun p a => (hx p (hj p a)).2.2.1)
/-- but for the CHANGES -/
theorem RI.chg {ps : List Nat} {τ σ : MS} (hI : Inv σ) (h : RI σ) (hx : eqx ps τ σ) (h29 : 29 ∉ ps) (h39 : 39 ∉ ps) (ht : ∀ q, 11 ≤ q → q ≤ 22 → q ∉ ps) (hj : ∀ q, q = 27 ∨ q = 28 → q ∉ ps) (h31 : 31 ∉ ps) (hc : ChR τ) : RI τ := by
  have b : 0 ≤ (σ.1 29).toInt ∧ (σ.1 29).toInt ≤ 1 := hI.1 29
  have q1 := ti_cl (x := σ.1 29) rfl b.1
  refine ⟨h.1.x hx h29 ht, ?_, hc, ?_⟩
  · rw [(hx 29 h29).1]
    exact RelJ.eqs hI (by omega) h.1 h.2.1 (fun p a c _ => (hx p (ht p a (by omega))).2.1) (fun p a => (hx p (hj p a)).2.2.1)
  · unfold NumS
    rw [(hx 29 h29).1, (hx 39 h39).1, (hx 11 (ht 11 (by omega) (by omega))).2.1, (hx 14 (ht 14 (by omega) (by omega))).2.1, (hx 15 (ht 15 (by omega) (by omega))).2.1, (hx 16 (ht 16 (by omega) (by omega))).2.1, (hx 31 h31).2.1]
    exact h.2.2.2
/-- a PROGRAM read, or a FAULT -/
theorem RI.prog {ps : List Nat} {τ σ : MS} (hI : Inv σ) (h : RI σ) (h31 : 31 ∉ ps) (h33 : 33 ∉ ps) (h34 : 34 ∉ ps) (h35 : 35 ∉ ps) (h39 : 39 ∉ ps) (h40 : 40 ∉ ps) (hp : (eqx ps τ σ ∧ τ.1 29 = σ.1 29 ∧ SameB τ σ (σ.1 29).toNatClampNeg) ∨ (RelP τ (τ.1 29).toNatClampNeg ∧ (τ.1 39) = 0 ∧ (τ.1 40) = 0 ∧ (τ.1 53) = 0)) (hj : RelJ τ (τ.1 29).toNatClampNeg) : RI τ := by
  have b : 0 ≤ (σ.1 29).toInt ∧ (σ.1 29).toInt ≤ 1 := hI.1 29
  have q1 := ti_cl (x := σ.1 29) rfl b.1
  have z0 : (0 : Int32).toInt = 0 := by decide
  rcases hp with ⟨hx, e29, s⟩ | ⟨hR, e39, e40, -⟩
  · have hR := s.rel hI (by omega) h.1
    have l : (σ.2.1 11 (σ.1 29).toNatClampNeg).toInt ≤ 2 := (hI.2 11 _ (show (σ.1 29).toNatClampNeg < 2 by omega)).2
    have l2 : (σ.2.1 12 (σ.1 29).toNatClampNeg).toInt ≤ 12 := (hI.2 12 _ (show (σ.1 29).toNatClampNeg < 2 by omega)).2
    refine ⟨by rw [e29]; exact hR, hj, fun i hi => ?_, fun i hi r hr k hk => ?_⟩
    · rw [(hx 40 h40).1] at hi
      have c := h.2.2.1 i hi
      have q := ti_cl (x := σ.2.1 33 i) rfl c.1
      rw [e29, s.1.2.1, (hx 33 h33).2.1, (hx 34 h34).2.1, (hx 35 h35).2.1, s.2.2.1 17 _ (by omega) (by omega) (by omega)]
      exact c
    · rw [(hx 39 h39).1] at hi
      rw [e29, s.1.1] at hr
      rw [e29, s.2.1 14 _ (by omega) (by omega) (by omega)] at hk
      rw [e29, s.2.1 15 _ (by omega) (by omega) (by omega), s.2.1 16 _ (by omega) (by omega) (by omega), (hx 31 h31).2.1]
      exact h.2.2.2 i hi r hr k hk
  · exact ⟨hR, hj, fun i hi => absurd hi (by rw [e40, z0]; omega), fun i hi => absurd hi (by rw [e39, z0]; omega)⟩

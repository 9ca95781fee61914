/-! what the public calls rest on -/
theorem RelP.x {ps : List Nat} {τ σ : MS} (h : RelP σ (σ.1 29).toNatClampNeg) (hx : eqx ps τ σ) (h29 : 29 ∉ ps) (ht : ∀ q, 11 ≤ q → q ≤ 22 → q ∉ ps) : RelP τ (τ.1 29).toNatClampNeg := by
  rw [(hx 29 h29).1]; exact h.eqs (fun p a b => (hx p (ht p a b)).2.1)
theorem ChR.x {ps : List Nat} {τ σ : MS} (h : ChR σ) (hx : eqx ps τ σ) (h29 : 29 ∉ ps) (h40 : 40 ∉ ps) (ht : ∀ q, 11 ≤ q → q ≤ 22 → q ∉ ps) (h33 : 33 ∉ ps) (h34 : 34 ∉ ps) (h35 : 35 ∉ ps) : ChR τ := by
  unfold ChR
  rw [(hx 29 h29).1, (hx 40 h40).1, (hx 12 (ht 12 (by omega) (by omega))).2.1, (hx 17 (ht 17 (by omega) (by omega))).2.1, (hx 33 h33).2.1, (hx 34 h34).2.1, (hx 35 h35).2.1]
  exact h
theorem OnOk.x {ps : List Nat} {τ σ : MS} (h : OnOk σ) (hx : eqx ps τ σ) (h34 : 34 ∉ ps) (h35 : 35 ∉ ps) (h37 : 37 ∉ ps) : OnOk τ := fun i hi => by
  rw [(hx 37 h37).2.1]; exact (h i hi).x hx h34 h35
theorem OnR.ok {ps : List Nat} {τ σ : MS} {x : Int32} (hI : Inv σ) (hC : ChR σ) (hx : eqx ps τ σ) (h34 : 34 ∉ ps) (h35 : 35 ∉ ps) (h : OnR σ x (τ.2.1 37)) : OnOk τ := fun i hi => (OnR.fit hI hC h i hi).ch.x hx h34 h35
def EndOk (σ : MS) (x : Int32) : Prop := 0 ≤ x.toInt ∧ x.toInt ≤ 3 ∧ x.toInt < (σ.2.1 13 (σ.1 29).toNatClampNeg).toInt
theorem EndOk.x {ps : List Nat} {τ σ : MS} {x : Int32} (h : EndOk σ x) (hx : eqx ps τ σ) (h29 : 29 ∉ ps) (h13 : 13 ∉ ps) : EndOk τ x := by
  unfold EndOk; rw [(hx 29 h29).1, (hx 13 h13).2.1]; exact h
theorem end_ld {σ : MS} {x i z : Int32} (hI : Inv σ) (hR : RelP σ (σ.1 29).toNatClampNeg) (he : EndOk σ x) (hi : i.toInt = 4 * (σ.1 29).toInt + x.toInt) (hz : z = σ.2.1 22 i.toNatClampNeg) : 0 ≤ z.toInt ∧ z.toInt < (σ.2.1 12 (σ.1 29).toNatClampNeg).toInt ∧ z.toInt ≤ 11 := by
  have b : 0 ≤ (σ.1 29).toInt ∧ (σ.1 29).toInt ≤ 1 := hI.1 29
  have q1 := ti_cl (x := σ.1 29) rfl b.1
  have q2 := ti_cl (x := x) rfl he.1
  have q3 := ti_cl (x := i) rfl (by have := he.1; omega)
  have ei : i.toNatClampNeg = 4 * (σ.1 29).toNatClampNeg + x.toNatClampNeg := by omega
  have h := hR.2.2 x.toNatClampNeg (by show _ < (σ.2.1 13 _).toInt; rw [q2]; exact he.2.2)
  have h' : 0 ≤ (σ.2.1 22 (4 * (σ.1 29).toNatClampNeg + x.toNatClampNeg)).toInt ∧ (σ.2.1 22 (4 * (σ.1 29).toNatClampNeg + x.toNatClampNeg)).toInt < (σ.2.1 12 (σ.1 29).toNatClampNeg).toInt := h
  have l : (σ.2.1 12 (σ.1 29).toNatClampNeg).toInt ≤ 12 := (hI.2 12 _ (show (σ.1 29).toNatClampNeg < 2 by omega)).2
  rw [hz, ei]; omega
/-- the place of an END's STEP -/
abbrev eX (σ : MS) (x : Int32) : Nat := (σ.2.1 22 (4 * (σ.1 29).toNatClampNeg + x.toNatClampNeg)).toNatClampNeg
theorem end_ix {σ : MS} {x i z : Int32} (hI : Inv σ) (he : EndOk σ x) (hi : i.toInt = 4 * (σ.1 29).toInt + x.toInt) (hz : z = σ.2.1 22 i.toNatClampNeg) : z.toNatClampNeg = eX σ x := by
  have b : 0 ≤ (σ.1 29).toInt ∧ (σ.1 29).toInt ≤ 1 := hI.1 29
  have q1 := ti_cl (x := σ.1 29) rfl b.1
  have q2 := ti_cl (x := x) rfl he.1
  have q3 := ti_cl (x := i) rfl (by have := he.1; omega)
  have ei : i.toNatClampNeg = 4 * (σ.1 29).toNatClampNeg + x.toNatClampNeg := by omega
  rw [hz, ei]
/-- how far an END is off on a SHEET by the CHOICE at hand: from σ on, worked in τ -/
def FarP (σ τ : MS) (x y : Int32) (r : Int64) : Prop := PlR (σ.1 29).toNatClampNeg (cor σ) true (σ.2.1 31) (12 * y) (σ.2.1 12 (σ.1 29).toNatClampNeg).toNatClampNeg (τ.2.2.1 42) ∧ CaR (σ.1 29).toNatClampNeg (cor σ) (coJ σ) true (σ.2.1 31) (σ.2.1 37) (12 * y) (σ.2.1 12 (σ.1 29).toNatClampNeg).toNatClampNeg (τ.2.2.1 41) ∧ r = if τ.2.2.1 41 (eX σ x) < τ.2.2.1 42 (eX σ x) then τ.2.2.1 42 (eX σ x) - τ.2.2.1 41 (eX σ x) else τ.2.2.1 41 (eX σ x) - τ.2.2.1 42 (eX σ x)
theorem rem_lt {p q r : Int64} (hq : ¬ q = 0) (hr : r = p - p / q * q) : r.toInt.natAbs < q.toInt.natAbs := by
  have hq' : q.toInt ≠ 0 := fun z => hq (Int64.toInt_inj.mp (by rw [z]; decide))
  have e1 : (p / q).toInt = (p.toInt.tdiv q.toInt).bmod (2 ^ 64) := Int64.toInt_div p q
  have hm := Int.mul_tdiv_add_tmod p.toInt q.toInt
  have e2 : r.toInt = p.toInt.tmod q.toInt := by
    rw [hr, Int64.toInt_sub, Int64.toInt_mul, e1, Int.sub_bmod_bmod]
    rw [← Int.sub_bmod_bmod (y := (p.toInt.tdiv q.toInt).bmod (2 ^ 64) * q.toInt), Int.bmod_mul_bmod, Int.sub_bmod_bmod]
    rw [show p.toInt - p.toInt.tdiv q.toInt * q.toInt = p.toInt.tmod q.toInt by rw [Int.mul_comm] at hm; omega]
    have h1 : (p.toInt.tmod q.toInt).natAbs < q.toInt.natAbs := by rw [Int.natAbs_tmod]; exact Nat.mod_lt _ (by omega)
    have h2 := Int64.toInt_lt q
    have h3 := Int64.le_toInt q
    exact Int.bmod_eq_of_le (by omega) (by omega)
  rw [e2, Int.natAbs_tmod]; exact Nat.mod_lt _ (by omega)

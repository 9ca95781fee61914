theorem OnR.x {ps : List Nat} {τ σ : MS} {ch : Int32} {on : Nat → Int32} (h : OnR σ ch on) (hx : eqx ps τ σ) (h40 : 40 ∉ ps) (h33 : 33 ∉ ps) : OnR τ ch on := by
  unfold OnR; rw [(hx 40 h40).1, (hx 33 h33).2.1]; exact h
/-- the SHEETS' numbers are within their ROWS' -/
def NumS (σ : MS) : Prop := ∀ i : Nat, (i : Int) < (σ.1 39).toInt → ∀ r : Nat, (r : Int) < (σ.2.1 11 (σ.1 29).toNatClampNeg).toInt → ∀ k : Nat, (k : Int) < (σ.2.1 14 (2 * (σ.1 29).toNatClampNeg + r)).toInt → (σ.2.1 15 (2 * (σ.1 29).toNatClampNeg + r)).toInt ≤ (σ.2.1 31 (12 * i + 6 * r + k)).toInt ∧ (σ.2.1 31 (12 * i + 6 * r + k)).toInt ≤ (σ.2.1 16 (2 * (σ.1 29).toNatClampNeg + r)).toInt
theorem NumS.r {σ : MS} {y : Int32} (h : NumS σ) (h0 : 0 ≤ y.toInt) (h1 : y.toInt < (σ.1 39).toInt) (h2 : y.toInt ≤ 39) : NumR (σ.1 29).toNatClampNeg (cor σ) true (σ.2.1 31) (12 * y) := fun r hr k hk => by
  have q := ti_cl (x := y) rfl h0
  have e12 : (12 : Int32).toInt = 12 := by decide
  have eb : (12 * y).toInt = 12 * y.toInt := ti_mul rfl e12 rfl (by omega) (by omega)
  have qb := ti_cl (x := 12 * y) rfl (by omega)
  refine ⟨?_, fun _ hp => ?_⟩
  · have := h y.toNatClampNeg (by omega) r hr k hk
    rw [show (12 * y).toNatClampNeg = 12 * y.toNatClampNeg by omega]; exact this
  · have eb2 : (12 * y - 12).toInt = 12 * y.toInt - 12 := ti_sub rfl eb e12 (by omega) (by omega)
    have qb2 := ti_cl (x := 12 * y - 12) rfl (by omega)
    have := h (y.toNatClampNeg - 1) (by omega) r hr k hk
    rw [show (12 * y - 12).toNatClampNeg = 12 * (y.toNatClampNeg - 1) by omega]; exact this
theorem RelP.rwT {σ : MS} {B : Nat} (h : RelP σ B) : RwT B (cor σ) := fun r hr => h.1 r hr
theorem RelJ.v {σ : MS} {B : Nat} (hP : RelP σ B) (h : RelJ σ B) : ∀ j, j < (σ.2.1 12 B).toNatClampNeg → SpnV B (12 * B + j) (cor σ) (coJ σ) (coJ σ 27 (12 * B + j)) (coJ σ 28 (12 * B + j)) ∧ -1000000000 ≤ (coJ σ 27 (12 * B + j)).toInt ∧ (coJ σ 28 (12 * B + j)).toInt ≤ 1000000000 := fun j hj => by
  have q : (j : Int) < (σ.2.1 12 B).toInt := by
    have e : (σ.2.1 12 B).toNatClampNeg = (σ.2.1 12 B).toInt.toNat := rfl
    omega
  have h1 := h j q
  refine ⟨?_, h1.2⟩
  refine SpnV.cg (hP.2.1 j q) h1.1 (fun p a b => ?_) (fun p r a b _ => ?_) (fun p i a _ => ?_)
  · rcases (show p = 17 ∨ p = 18 ∨ p = 19 ∨ p = 20 ∨ p = 21 by omega) with rfl | rfl | rfl | rfl | rfl <;> rfl
  · rcases (show p = 14 ∨ p = 15 ∨ p = 16 by omega) with rfl | rfl | rfl <;> rfl
  · rcases a with rfl | rfl <;> rfl
/-- what a call rests on -/
def RI (σ : MS) : Prop := RelP σ (σ.1 29).toNatClampNeg ∧ RelJ σ (σ.1 29).toNatClampNeg ∧ ChR σ ∧ NumS σ
/-- how far an END is off by a CHOICE that is open: not below 0, and no more than is SHOWN -/
theorem far_nn {ps : List Nat} {σ τ1 τ2 : MS} {ch x y : Int32} {r : Int64} {L H : Nat → Int64} (hI : Inv σ) (h : RI σ) (hx : eqx ps τ1 σ) (h29 : 29 ∉ ps) (hc : ∀ p ∈ ps, ¬ ((11 ≤ p ∧ p ≤ 24) ∨ (33 ≤ p ∧ p ≤ 36))) (hj : ∀ p ∈ ps, ¬ (p = 27 ∨ p = 28)) (h31 : 31 ∉ ps) (ho : Opn σ ch (τ1.2.1 37) L H) (he : EndOk σ x) (y0 : 0 ≤ y.toInt) (y1 : y.toInt < (σ.1 39).toInt) (y2 : y.toInt ≤ 39) (hf : FarP τ1 τ2 x y r) : 0 ≤ r.toInt ∧ r.toInt ≤ 1000000000 := by
  have e29 : τ1.1 29 = σ.1 29 := (hx 29 h29).1
  have ec : cor τ1 = cor σ := cor_x hx hc
  have ej : coJ τ1 = coJ σ := coJ_x hx hj
  have e31 : τ1.2.1 31 = σ.2.1 31 := (hx 31 h31).2.1
  have e12 : τ1.2.1 12 = σ.2.1 12 := congrFun ec 12
  have e22 : τ1.2.1 22 = σ.2.1 22 := congrFun ec 22
  obtain ⟨f1, f2, f3⟩ := hf
  rw [e29, ec, e31, e12] at f1
  rw [e29, ec, ej, e31, e12] at f2
  have ee : eX τ1 x = eX σ x := by show (τ1.2.1 22 _).toNatClampNeg = _; rw [e22, e29]
  rw [ee] at f3
  have b : 0 ≤ (σ.1 29).toInt ∧ (σ.1 29).toInt ≤ 1 := hI.1 29
  have q1 := ti_cl (x := σ.1 29) rfl b.1
  have l : 0 ≤ (σ.2.1 12 (σ.1 29).toNatClampNeg).toInt ∧ (σ.2.1 12 (σ.1 29).toNatClampNeg).toInt ≤ 12 := hI.2 12 _ (show (σ.1 29).toNatClampNeg < 2 by omega)
  have q2 := ti_cl (x := σ.2.1 12 (σ.1 29).toNatClampNeg) rfl l.1
  have q3 := ti_cl (x := x) rfl he.1
  have hs := h.1.2.2 x.toNatClampNeg (by show _ < (σ.2.1 13 _).toInt; rw [q3]; exact he.2.2)
  have hs' : 0 ≤ (σ.2.1 22 (4 * (σ.1 29).toNatClampNeg + x.toNatClampNeg)).toInt ∧ (σ.2.1 22 (4 * (σ.1 29).toNatClampNeg + x.toNatClampNeg)).toInt < (σ.2.1 12 (σ.1 29).toNatClampNeg).toInt := hs
  have q4 := ti_cl (x := σ.2.1 22 (4 * (σ.1 29).toNatClampNeg + x.toNatClampNeg)) rfl hs'.1
  have S := all_snd h.1.stT h.1.rwT (h.2.2.2.r y0 y1 y2) (RelJ.v h.1 h.2.1) (fun j hj => OnR.fit hI h.2.2.1 ho.1 j (by omega)) f1 f2 ho.2 (eX σ x) (by show (σ.2.1 22 _).toNatClampNeg < _; omega)
  unfold Snd at S
  rw [f3]
  by_cases z : τ2.2.2.1 41 (eX σ x) < τ2.2.2.1 42 (eX σ x)
  · rw [if_pos z, t_sub rfl rfl (by omega) (by omega)]; have := lt64 z; omega
  · rw [if_neg z, t_sub rfl rfl (by omega) (by omega)]; have := nlt64 z; omega

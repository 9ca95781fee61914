/-! SPANS, as the reader lays them: v .. w of the STEP at place x of the tables of bank B -/
def SpnV (B x : Nat) (T : Nat → Nat → Int32) (J : Nat → Nat → Int64) (v w : Int64) : Prop :=
  ((T 17 x).toInt = 0 → v = (T 14 (2 * B + (T 18 x).toNatClampNeg)).toInt64 * (T 15 (2 * B + (T 18 x).toNatClampNeg)).toInt64 ∧ w = (T 14 (2 * B + (T 18 x).toNatClampNeg)).toInt64 * (T 16 (2 * B + (T 18 x).toNatClampNeg)).toInt64) ∧
  ((T 17 x).toInt = 1 ∨ (T 17 x).toInt = 6 → v = 1 * (T 15 (2 * B + (T 18 x).toNatClampNeg)).toInt64 ∧ w = 1 * (T 16 (2 * B + (T 18 x).toNatClampNeg)).toInt64) ∧
  ((T 17 x).toInt = 2 → v = J 27 (12 * B + (T 18 x).toNatClampNeg) + J 27 (12 * B + (T 19 x).toNatClampNeg) ∧ w = J 28 (12 * B + (T 18 x).toNatClampNeg) + J 28 (12 * B + (T 19 x).toNatClampNeg)) ∧
  ((T 17 x).toInt = 3 → v = J 27 (12 * B + (T 18 x).toNatClampNeg) - J 28 (12 * B + (T 19 x).toNatClampNeg) ∧ w = J 28 (12 * B + (T 18 x).toNatClampNeg) - J 27 (12 * B + (T 19 x).toNatClampNeg)) ∧
  ((T 17 x).toInt = 4 → v = lo4 (J 27 (12 * B + (T 18 x).toNatClampNeg) * J 27 (12 * B + (T 19 x).toNatClampNeg)) (J 27 (12 * B + (T 18 x).toNatClampNeg) * J 28 (12 * B + (T 19 x).toNatClampNeg)) (J 28 (12 * B + (T 18 x).toNatClampNeg) * J 27 (12 * B + (T 19 x).toNatClampNeg)) (J 28 (12 * B + (T 18 x).toNatClampNeg) * J 28 (12 * B + (T 19 x).toNatClampNeg)) ∧ w = hi4 (J 27 (12 * B + (T 18 x).toNatClampNeg) * J 27 (12 * B + (T 19 x).toNatClampNeg)) (J 27 (12 * B + (T 18 x).toNatClampNeg) * J 28 (12 * B + (T 19 x).toNatClampNeg)) (J 28 (12 * B + (T 18 x).toNatClampNeg) * J 27 (12 * B + (T 19 x).toNatClampNeg)) (J 28 (12 * B + (T 18 x).toNatClampNeg) * J 28 (12 * B + (T 19 x).toNatClampNeg))) ∧
  ((T 17 x).toInt = 5 → v = ls2 (J 27 (12 * B + (T 18 x).toNatClampNeg) * (T 19 x).toInt64 / (T 20 x).toInt64) (J 28 (12 * B + (T 18 x).toNatClampNeg) * (T 19 x).toInt64 / (T 20 x).toInt64) ∧ w = gt2 (J 27 (12 * B + (T 18 x).toNatClampNeg) * (T 19 x).toInt64 / (T 20 x).toInt64) (J 28 (12 * B + (T 18 x).toNatClampNeg) * (T 19 x).toInt64 / (T 20 x).toInt64)) ∧
  ((T 17 x).toInt = 7 → v = ls2 (J 27 (12 * B + (T 18 x).toNatClampNeg)) (J 27 (12 * B + (T 19 x).toNatClampNeg)) ∧ w = gt2 (J 28 (12 * B + (T 18 x).toNatClampNeg)) (J 28 (12 * B + (T 19 x).toNatClampNeg)))
section SV
variable {B x : Nat} {T : Nat → Nat → Int32} {J : Nat → Nat → Int64} {v w : Int64}
theorem sv_0 (h : (T 17 x).toInt = 0) (e1 : v = (T 14 (2 * B + (T 18 x).toNatClampNeg)).toInt64 * (T 15 (2 * B + (T 18 x).toNatClampNeg)).toInt64) (e2 : w = (T 14 (2 * B + (T 18 x).toNatClampNeg)).toInt64 * (T 16 (2 * B + (T 18 x).toNatClampNeg)).toInt64) : SpnV B x T J v w :=
  ⟨fun _ => ⟨e1, e2⟩, fun z => absurd z (by omega), fun z => absurd z (by omega), fun z => absurd z (by omega), fun z => absurd z (by omega), fun z => absurd z (by omega), fun z => absurd z (by omega)⟩
theorem sv_1 (h : (T 17 x).toInt = 1 ∨ (T 17 x).toInt = 6) (e1 : v = 1 * (T 15 (2 * B + (T 18 x).toNatClampNeg)).toInt64) (e2 : w = 1 * (T 16 (2 * B + (T 18 x).toNatClampNeg)).toInt64) : SpnV B x T J v w :=
  ⟨fun z => absurd z (by omega), fun _ => ⟨e1, e2⟩, fun z => absurd z (by omega), fun z => absurd z (by omega), fun z => absurd z (by omega), fun z => absurd z (by omega), fun z => absurd z (by omega)⟩
theorem sv_2 (h : (T 17 x).toInt = 2) (e1 : v = J 27 (12 * B + (T 18 x).toNatClampNeg) + J 27 (12 * B + (T 19 x).toNatClampNeg)) (e2 : w = J 28 (12 * B + (T 18 x).toNatClampNeg) + J 28 (12 * B + (T 19 x).toNatClampNeg)) : SpnV B x T J v w :=
  ⟨fun z => absurd z (by omega), fun z => absurd z (by omega), fun _ => ⟨e1, e2⟩, fun z => absurd z (by omega), fun z => absurd z (by omega), fun z => absurd z (by omega), fun z => absurd z (by omega)⟩
theorem sv_3 (h : (T 17 x).toInt = 3) (e1 : v = J 27 (12 * B + (T 18 x).toNatClampNeg) - J 28 (12 * B + (T 19 x).toNatClampNeg)) (e2 : w = J 28 (12 * B + (T 18 x).toNatClampNeg) - J 27 (12 * B + (T 19 x).toNatClampNeg)) : SpnV B x T J v w :=
  ⟨fun z => absurd z (by omega), fun z => absurd z (by omega), fun z => absurd z (by omega), fun _ => ⟨e1, e2⟩, fun z => absurd z (by omega), fun z => absurd z (by omega), fun z => absurd z (by omega)⟩
theorem sv_4 (h : (T 17 x).toInt = 4) (e1 : v = lo4 (J 27 (12 * B + (T 18 x).toNatClampNeg) * J 27 (12 * B + (T 19 x).toNatClampNeg)) (J 27 (12 * B + (T 18 x).toNatClampNeg) * J 28 (12 * B + (T 19 x).toNatClampNeg)) (J 28 (12 * B + (T 18 x).toNatClampNeg) * J 27 (12 * B + (T 19 x).toNatClampNeg)) (J 28 (12 * B + (T 18 x).toNatClampNeg) * J 28 (12 * B + (T 19 x).toNatClampNeg))) (e2 : w = hi4 (J 27 (12 * B + (T 18 x).toNatClampNeg) * J 27 (12 * B + (T 19 x).toNatClampNeg)) (J 27 (12 * B + (T 18 x).toNatClampNeg) * J 28 (12 * B + (T 19 x).toNatClampNeg)) (J 28 (12 * B + (T 18 x).toNatClampNeg) * J 27 (12 * B + (T 19 x).toNatClampNeg)) (J 28 (12 * B + (T 18 x).toNatClampNeg) * J 28 (12 * B + (T 19 x).toNatClampNeg))) : SpnV B x T J v w :=
  ⟨fun z => absurd z (by omega), fun z => absurd z (by omega), fun z => absurd z (by omega), fun z => absurd z (by omega), fun _ => ⟨e1, e2⟩, fun z => absurd z (by omega), fun z => absurd z (by omega)⟩
theorem sv_5 (h : (T 17 x).toInt = 5) (e1 : v = ls2 (J 27 (12 * B + (T 18 x).toNatClampNeg) * (T 19 x).toInt64 / (T 20 x).toInt64) (J 28 (12 * B + (T 18 x).toNatClampNeg) * (T 19 x).toInt64 / (T 20 x).toInt64)) (e2 : w = gt2 (J 27 (12 * B + (T 18 x).toNatClampNeg) * (T 19 x).toInt64 / (T 20 x).toInt64) (J 28 (12 * B + (T 18 x).toNatClampNeg) * (T 19 x).toInt64 / (T 20 x).toInt64)) : SpnV B x T J v w :=
  ⟨fun z => absurd z (by omega), fun z => absurd z (by omega), fun z => absurd z (by omega), fun z => absurd z (by omega), fun z => absurd z (by omega), fun _ => ⟨e1, e2⟩, fun z => absurd z (by omega)⟩
theorem sv_7 (h : (T 17 x).toInt = 7) (e1 : v = ls2 (J 27 (12 * B + (T 18 x).toNatClampNeg)) (J 27 (12 * B + (T 19 x).toNatClampNeg))) (e2 : w = gt2 (J 28 (12 * B + (T 18 x).toNatClampNeg)) (J 28 (12 * B + (T 19 x).toNatClampNeg))) : SpnV B x T J v w :=
  ⟨fun z => absurd z (by omega), fun z => absurd z (by omega), fun z => absurd z (by omega), fun z => absurd z (by omega), fun z => absurd z (by omega), fun z => absurd z (by omega), fun _ => ⟨e1, e2⟩⟩
end SV
/-- the same tables at the places that it reads -/
theorem SpnV.cg {B j : Nat} {T T' : Nat → Nat → Int32} {J J' : Nat → Nat → Int64} {v w : Int64} (hs : StOk (T 17 (12 * B + j)).toInt (T 18 (12 * B + j)).toInt (T 19 (12 * B + j)).toInt (T 20 (12 * B + j)).toInt (T 21 (12 * B + j)).toInt (T 11 B).toInt j) (h : SpnV B (12 * B + j) T J v w)
    (ht : ∀ (p : Nat), 17 ≤ p → p ≤ 21 → T' p (12 * B + j) = T p (12 * B + j)) (hr : ∀ (p r : Nat), 14 ≤ p → p ≤ 16 → (r : Int) < (T 11 B).toInt → T' p (2 * B + r) = T p (2 * B + r)) (hj : ∀ (p i : Nat), p = 27 ∨ p = 28 → i < j → J' p (12 * B + i) = J p (12 * B + i)) : SpnV B (12 * B + j) T' J' v w := by
  unfold StOk at hs
  obtain ⟨h1, h2, hra, ha, hb, -, -⟩ := hs
  have hk : (T 17 (12 * B + j)).toInt = 0 ∨ (T 17 (12 * B + j)).toInt = 1 ∨ (T 17 (12 * B + j)).toInt = 2 ∨ (T 17 (12 * B + j)).toInt = 3 ∨ (T 17 (12 * B + j)).toInt = 4 ∨ (T 17 (12 * B + j)).toInt = 5 ∨ (T 17 (12 * B + j)).toInt = 6 ∨ (T 17 (12 * B + j)).toInt = 7 := by omega
  have e17 := ht 17 (by omega) (by omega)
  have e18 := ht 18 (by omega) (by omega)
  have e19 := ht 19 (by omega) (by omega)
  have e20 := ht 20 (by omega) (by omega)
  have rr : 0 ≤ (T 18 (12 * B + j)).toInt → (T 18 (12 * B + j)).toInt < (T 11 B).toInt → ∀ p, 14 ≤ p → p ≤ 16 → T' p (2 * B + (T 18 (12 * B + j)).toNatClampNeg) = T p (2 * B + (T 18 (12 * B + j)).toNatClampNeg) := fun a b p p1 p2 => hr p _ p1 p2 (by rw [ti_cl (x := T 18 (12 * B + j)) rfl a]; exact b)
  rcases hk with k | k | k | k | k | k | k | k
  · have a := hra (by omega)
    have q := h.1 k
    refine sv_0 (by rw [e17]; exact k) ?_ ?_ <;> rw [e18, rr a.1 a.2 14 (by omega) (by omega)]
    · rw [rr a.1 a.2 15 (by omega) (by omega)]; exact q.1
    · rw [rr a.1 a.2 16 (by omega) (by omega)]; exact q.2
  · have a := hra (by omega)
    have q := h.2.1 (Or.inl k)
    refine sv_1 (by rw [e17]; exact Or.inl k) ?_ ?_ <;> rw [e18]
    · rw [rr a.1 a.2 15 (by omega) (by omega)]; exact q.1
    · rw [rr a.1 a.2 16 (by omega) (by omega)]; exact q.2
  · have a := ha (by omega); have b := hb (by omega)
    have q := h.2.2.1 k
    refine sv_2 (by rw [e17]; exact k) ?_ ?_ <;> rw [e18, e19, hj _ _ (by omega) (cl_lt a.1 a.2), hj _ _ (by omega) (cl_lt b.1 b.2)]
    · exact q.1
    · exact q.2
  · have a := ha (by omega); have b := hb (by omega)
    have q := h.2.2.2.1 k
    refine sv_3 (by rw [e17]; exact k) ?_ ?_ <;> rw [e18, e19, hj _ _ (by omega) (cl_lt a.1 a.2), hj _ _ (by omega) (cl_lt b.1 b.2)]
    · exact q.1
    · exact q.2
  · have a := ha (by omega); have b := hb (by omega)
    have q := h.2.2.2.2.1 k
    refine sv_4 (by rw [e17]; exact k) ?_ ?_ <;> rw [e18, e19, hj 27 _ (by omega) (cl_lt a.1 a.2), hj 27 _ (by omega) (cl_lt b.1 b.2), hj 28 _ (by omega) (cl_lt a.1 a.2), hj 28 _ (by omega) (cl_lt b.1 b.2)]
    · exact q.1
    · exact q.2
  · have a := ha (by omega)
    have q := h.2.2.2.2.2.1 k
    refine sv_5 (by rw [e17]; exact k) ?_ ?_ <;> rw [e18, e19, e20, hj 27 _ (by omega) (cl_lt a.1 a.2), hj 28 _ (by omega) (cl_lt a.1 a.2)]
    · exact q.1
    · exact q.2
  · have a := hra (by omega)
    have q := h.2.1 (Or.inr k)
    refine sv_1 (by rw [e17]; exact Or.inr k) ?_ ?_ <;> rw [e18]
    · rw [rr a.1 a.2 15 (by omega) (by omega)]; exact q.1
    · rw [rr a.1 a.2 16 (by omega) (by omega)]; exact q.2
  · have a := ha (by omega); have b := hb (by omega)
    have q := h.2.2.2.2.2.2 k
    refine sv_7 (by rw [e17]; exact k) ?_ ?_ <;> rw [e18, e19, hj _ _ (by omega) (cl_lt a.1 a.2), hj _ _ (by omega) (cl_lt b.1 b.2)]
    · exact q.1
    · exact q.2
def RelJ (σ : MS) (b : Nat) : Prop := ∀ j : Nat, (j : Int) < (σ.2.1 12 b).toInt → SpnV b (12 * b + j) σ.2.1 σ.2.2.1 (σ.2.2.1 27 (12 * b + j)) (σ.2.2.1 28 (12 * b + j)) ∧ -1000000000 ≤ (σ.2.2.1 27 (12 * b + j)).toInt ∧ (σ.2.2.1 28 (12 * b + j)).toInt ≤ 1000000000
def SameJ (τ σ : MS) (b : Nat) : Prop := ∀ p i, p = 27 ∨ p = 28 → i / 12 = b → τ.2.2.1 p i = σ.2.2.1 p i
theorem SameJ.tr {a b c : MS} {k : Nat} (h : SameJ a b k) (h2 : SameJ b c k) : SameJ a c k := fun p i x y => (h p i x y).trans (h2 p i x y)
theorem SameJ.eqs {τ σ : MS} {k : Nat} (h : ∀ p, p = 27 ∨ p = 28 → τ.2.2.1 p = σ.2.2.1 p) : SameJ τ σ k := fun p i x _ => congrFun (h p x) i
/-- tables that are the same as far as the STEPS that stand read them -/
theorem RelJ.cg {σ τ : MS} {b : Nat} (hP : RelP σ b) (h : RelJ σ b) (hb : (σ.2.1 12 b).toInt ≤ 12) (e12 : (τ.2.1 12 b).toInt = (σ.2.1 12 b).toInt) (ht : ∀ (p j : Nat), 17 ≤ p → p ≤ 21 → (j : Int) < (σ.2.1 12 b).toInt → τ.2.1 p (12 * b + j) = σ.2.1 p (12 * b + j)) (hr : ∀ (p r : Nat), 14 ≤ p → p ≤ 16 → (r : Int) < (σ.2.1 11 b).toInt → τ.2.1 p (2 * b + r) = σ.2.1 p (2 * b + r)) (hj : ∀ (p j : Nat), p = 27 ∨ p = 28 → (j : Int) < (σ.2.1 12 b).toInt → τ.2.2.1 p (12 * b + j) = σ.2.2.1 p (12 * b + j)) : RelJ τ b := fun j q => by
  have q' : (j : Int) < (σ.2.1 12 b).toInt := by omega
  have h1 := h j q'
  rw [hj 27 j (by omega) q', hj 28 j (by omega) q']
  exact ⟨SpnV.cg (hP.2.1 j q') h1.1 (fun p a c => ht p j a c q') hr (fun p i a c => hj p i a (by omega)), h1.2⟩
theorem RelJ.same {σ τ : MS} {b : Nat} (hI : Inv σ) (hb : b < 2) (hP : RelP σ b) (h : RelJ σ b) (s : SameB τ σ b) (sj : SameJ τ σ b) : RelJ τ b :=
  RelJ.cg hP h (hI.2 12 b (show b < 2 from hb)).2 (congrArg Int32.toInt s.1.2.1) (fun p j h1 h2 h3 => s.2.2.1 p _ h1 h2 (by have : (σ.2.1 12 b).toInt ≤ 12 := (hI.2 12 b (show b < 2 from hb)).2; omega)) (fun p r h1 h2 h3 => s.2.1 p _ h1 h2 (by have : (σ.2.1 11 b).toInt ≤ 2 := (hI.2 11 b (show b < 2 from hb)).2; omega)) (fun p j h1 h3 => sj p _ h1 (by have : (σ.2.1 12 b).toInt ≤ 12 := (hI.2 12 b (show b < 2 from hb)).2; omega))

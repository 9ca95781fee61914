/-! PLANS: how far an END is off by a CHOICE is told by the tables; the CHOICE 0 is open, and 0 off -/
def FarC (σ : MS) (x i c : Int32) (r : Int64) : Prop := ∃ (on : Nat → Int32) (pl cm : Nat → Int64), OnR σ c on ∧ PlR (σ.1 29).toNatClampNeg (cor σ) true (σ.2.1 31) (12 * i) (σ.2.1 12 (σ.1 29).toNatClampNeg).toNatClampNeg pl ∧ CaR (σ.1 29).toNatClampNeg (cor σ) (coJ σ) true (σ.2.1 31) on (12 * i) (σ.2.1 12 (σ.1 29).toNatClampNeg).toNatClampNeg cm ∧ r = if cm (eX σ x) < pl (eX σ x) then pl (eX σ x) - cm (eX σ x) else cm (eX σ x) - pl (eX σ x)
theorem CaR.cg {B : Nat} {T : Nat → Nat → Int32} {J : Nat → Nat → Int64} {nb : Bool} {fr on on' : Nat → Int32} {base : Int32} {n : Nat} {cm : Nat → Int64} (h : CaR B T J nb fr on base n cm) (e : ∀ j, j < n → on j = on' j) : CaR B T J nb fr on' base n cm := fun j hj => by
  rw [h j hj]; unfold caF; rw [e j hj]
theorem stepN {σ : MS} (hI : Inv σ) : (σ.2.1 12 (σ.1 29).toNatClampNeg).toNatClampNeg ≤ 12 := by
  have b : 0 ≤ (σ.1 29).toInt ∧ (σ.1 29).toInt ≤ 1 := hI.1 29
  have q1 := ti_cl (x := σ.1 29) rfl b.1
  have l : 0 ≤ (σ.2.1 12 (σ.1 29).toNatClampNeg).toInt ∧ (σ.2.1 12 (σ.1 29).toNatClampNeg).toInt ≤ 12 := hI.2 12 _ (show (σ.1 29).toNatClampNeg < 2 by omega)
  have q2 := ti_cl (x := σ.2.1 12 (σ.1 29).toNatClampNeg) rfl l.1
  omega
theorem endS {σ : MS} {x : Int32} (hI : Inv σ) (hR : RelP σ (σ.1 29).toNatClampNeg) (he : EndOk σ x) : eX σ x < (σ.2.1 12 (σ.1 29).toNatClampNeg).toNatClampNeg := by
  have b : 0 ≤ (σ.1 29).toInt ∧ (σ.1 29).toInt ≤ 1 := hI.1 29
  have q1 := ti_cl (x := σ.1 29) rfl b.1
  have l : 0 ≤ (σ.2.1 12 (σ.1 29).toNatClampNeg).toInt ∧ (σ.2.1 12 (σ.1 29).toNatClampNeg).toInt ≤ 12 := hI.2 12 _ (show (σ.1 29).toNatClampNeg < 2 by omega)
  have q2 := ti_cl (x := σ.2.1 12 (σ.1 29).toNatClampNeg) rfl l.1
  have q3 := ti_cl (x := x) rfl he.1
  have hs := hR.2.2 x.toNatClampNeg (by show _ < (σ.2.1 13 _).toInt; rw [q3]; exact he.2.2)
  have hs' : 0 ≤ (σ.2.1 22 (4 * (σ.1 29).toNatClampNeg + x.toNatClampNeg)).toInt ∧ (σ.2.1 22 (4 * (σ.1 29).toNatClampNeg + x.toNatClampNeg)).toInt < (σ.2.1 12 (σ.1 29).toNatClampNeg).toInt := hs
  have q4 := ti_cl (x := σ.2.1 22 (4 * (σ.1 29).toNatClampNeg + x.toNatClampNeg)) rfl hs'.1
  show (σ.2.1 22 _).toNatClampNeg < _
  omega
theorem FarC.uniq {σ : MS} {x i c : Int32} {r1 r2 : Int64} (hI : Inv σ) (hR : RelP σ (σ.1 29).toNatClampNeg) (he : EndOk σ x) (h1 : FarC σ x i c r1) (h2 : FarC σ x i c r2) : r1 = r2 := by
  obtain ⟨on1, pl1, cm1, o1, p1, c1, e1⟩ := h1
  obtain ⟨on2, pl2, cm2, o2, p2, c2, e2⟩ := h2
  have hn := stepN hI
  have c2' := c2.cg (on' := on1) (fun j hj => (o2.2.uniq o1.2) j (by omega))
  have s := endS hI hR he
  rw [e1, e2, PlR.uniq hR.stT p1 p2 _ s, CaR.uniq hR.stT c1 c2' _ s]
theorem FarP.c {ps : List Nat} {σ τ1 τ2 : MS} {x y ch : Int32} {r : Int64} (hx : eqx ps τ1 σ) (h29 : 29 ∉ ps) (hc : ∀ p ∈ ps, ¬ ((11 ≤ p ∧ p ≤ 24) ∨ (33 ≤ p ∧ p ≤ 36))) (hj : ∀ p ∈ ps, ¬ (p = 27 ∨ p = 28)) (h31 : 31 ∉ ps) (ho : OnR σ ch (τ1.2.1 37)) (hf : FarP τ1 τ2 x y r) : FarC σ x y ch r := by
  have e29 : τ1.1 29 = σ.1 29 := (hx 29 h29).1
  have ec : cor τ1 = cor σ := cor_x hx hc
  have ej : coJ τ1 = coJ σ := coJ_x hx hj
  have e31 : τ1.2.1 31 = σ.2.1 31 := (hx 31 h31).2.1
  have e12 : τ1.2.1 12 = σ.2.1 12 := congrFun ec 12
  have e22 : τ1.2.1 22 = σ.2.1 22 := congrFun ec 22
  obtain ⟨f1, f2, f3⟩ := hf
  rw [e29, ec, e31, e12] at f1
  rw [e29, ec, ej, e31, e12] at f2
  have ee : eX τ1 x = eX σ x := by show (τ1.2.1 22 _).toNatClampNeg = _; rw [e22, e29]
  rw [ee] at f3
  exact ⟨_, _, _, ho, f1, f2, f3⟩
theorem bt0 (c : Int32) : ¬ Bt 0 c := fun h => h (by simp)
theorem on_zero {σ : MS} {on : Nat → Int32} (h : OnR σ 0 on) : ∀ i, i < 12 → on i = -1 := fun i hi => by
  rcases h.2.1 i hi with z | ⟨_, _, z, _⟩
  · exact Int32.toInt_inj.mp (by rw [m1_toInt]; exact z)
  · exact absurd z (bt0 _)
theorem zero_OnR {σ : MS} (hI : Inv σ) : OnR σ 0 (fun _ => -1) := by
  have h40 : 0 ≤ (σ.1 40).toInt ∧ (σ.1 40).toInt ≤ 12 := hI.1 40
  have b := shl_bd (z := 1 <<< (σ.1 40 &&& 31)) rfl h40.1 h40.2
  refine ⟨⟨by decide, Int32.lt_iff_toInt_lt.mpr (by rw [show (0 : Int32).toInt = 0 from by decide]; omega)⟩, fun i _ => Or.inl m1_toInt, fun c _ _ hb => absurd hb (bt0 _)⟩
theorem far_zero {σ : MS} {x i : Int32} {r : Int64} (hI : Inv σ) (hR : RelP σ (σ.1 29).toNatClampNeg) (he : EndOk σ x) (h : FarC σ x i 0 r) : r = 0 := by
  obtain ⟨on, pl, cm, o, p, c, e⟩ := h
  have hn := stepN hI
  have z := on_zero o
  have c' : PlR (σ.1 29).toNatClampNeg (cor σ) true (σ.2.1 31) (12 * i) (σ.2.1 12 (σ.1 29).toNatClampNeg).toNatClampNeg cm := fun j hj => by
    rw [c j hj, ca_n (by rw [z j (by omega)]; exact m1_ng) (by rw [z j (by omega)]; exact m1_ng), z j (by omega)]
  have q := PlR.uniq hR.stT c' p _ (endS hI hR he)
  rw [e, q, ite_self]
  exact Int64.sub_self _
theorem sp_zero {B : Nat} {T : Nat → Nat → Int32} {J : Nat → Nat → Int64} {j : Nat} (hk : 0 ≤ (T 17 (12 * B + j)).toInt ∧ (T 17 (12 * B + j)).toInt ≤ 7) : spLo B T J (fun _ => 0) (fun _ => 0) j = 0 ∧ spHi B T J (fun _ => 0) (fun _ => 0) j = 0 ∧ spOk B T (fun _ => 0) (fun _ => 0) j := by
  have ne : ∀ a, ¬ Ers (fun _ => 0) (fun _ => 0) a := fun a h => h ⟨rfl, rfl⟩
  refine ⟨?_, ?_, fun _ => ne _⟩
  · rcases (show (T 17 (12 * B + j)).toInt = 0 ∨ (T 17 (12 * B + j)).toInt = 1 ∨ (T 17 (12 * B + j)).toInt = 2 ∨ (T 17 (12 * B + j)).toInt = 3 ∨ (T 17 (12 * B + j)).toInt = 4 ∨ (T 17 (12 * B + j)).toInt = 5 ∨ (T 17 (12 * B + j)).toInt = 6 ∨ (T 17 (12 * B + j)).toInt = 7 by omega) with k | k | k | k | k | k | k | k
    · exact (sp_0 (Or.inl k)).1
    · exact (sp_0 (Or.inr (Or.inl k))).1
    · rw [(sp_2 k).1]; decide
    · rw [(sp_3 k).1]; decide
    · rw [(sp_4 k).1]; unfold tmLo lo4; simp only [Int64.mul_zero]; decide
    · exact (sp_5n k (ne _)).1
    · exact (sp_0 (Or.inr (Or.inr k))).1
    · rw [(sp_7 k).1, (pk_n (J := J) (B := B) (H := fun _ => 0) (fun h => h.elim (ne _) (ne _))).1]; decide
  · rcases (show (T 17 (12 * B + j)).toInt = 0 ∨ (T 17 (12 * B + j)).toInt = 1 ∨ (T 17 (12 * B + j)).toInt = 2 ∨ (T 17 (12 * B + j)).toInt = 3 ∨ (T 17 (12 * B + j)).toInt = 4 ∨ (T 17 (12 * B + j)).toInt = 5 ∨ (T 17 (12 * B + j)).toInt = 6 ∨ (T 17 (12 * B + j)).toInt = 7 by omega) with k | k | k | k | k | k | k | k
    · exact (sp_0 (Or.inl k)).2
    · exact (sp_0 (Or.inr (Or.inl k))).2
    · rw [(sp_2 k).2]; decide
    · rw [(sp_3 k).2]; decide
    · rw [(sp_4 k).2]; unfold tmHi hi4; simp only [Int64.mul_zero]; decide
    · exact (sp_5n k (ne _)).2
    · exact (sp_0 (Or.inr (Or.inr k))).2
    · rw [(sp_7 k).2, (pk_n (J := J) (B := B) (L := fun _ => 0) (fun h => h.elim (ne _) (ne _))).2]; decide
/-- the CHOICE 0 is open -/
theorem zero_open {σ : MS} (hI : Inv σ) (hR : RelP σ (σ.1 29).toNatClampNeg) : ¬ NoOpen σ 0 := fun h => by
  rcases h with h | ⟨on, j, L, H, o, hj, hsh, hb⟩
  · exact h ⟨_, zero_OnR hI⟩
  · have hn := stepN hI
    have z := on_zero o
    have kk : ∀ i, i < (σ.2.1 12 (σ.1 29).toNatClampNeg).toNatClampNeg → 0 ≤ (cor σ 17 (12 * (σ.1 29).toNatClampNeg + i)).toInt ∧ (cor σ 17 (12 * (σ.1 29).toNatClampNeg + i)).toInt ≤ 7 := fun i hi => by
      have := hR.stT i hi; unfold StOk at this; exact ⟨this.1, this.2.1⟩
    have one : ∀ i, i ≤ j → (∀ k, k < i → L k = 0 ∧ H k = 0) → shOk (σ.1 29).toNatClampNeg (cor σ) L H (on i) i ∧ shLo (σ.1 29).toNatClampNeg (cor σ) (coJ σ) L H (on i) i = 0 ∧ shHi (σ.1 29).toNatClampNeg (cor σ) (coJ σ) L H (on i) i = 0 := fun i hi hz => by
      have s := sp_loc (J := coJ σ) (L := L) (H := H) (L' := fun _ => 0) (H' := fun _ => 0) (hR.stT i (by omega)) (fun k hk => (hz k hk).1) (fun k hk => (hz k hk).2)
      have s0 := sp_zero (J := coJ σ) (kk i (by omega))
      have ng : (on i).toInt < 0 := by rw [z i (by omega), m1_toInt]; omega
      rw [(sh_n ng).1, (sh_n ng).2, s.1, s.2.1, s0.1, s0.2.1]
      exact ⟨Or.inr (s.2.2.mpr s0.2.2), rfl, rfl⟩
    have all : ∀ i, i < j → L i = 0 ∧ H i = 0 := by
      intro i
      induction i using Nat.strongRecOn with
      | _ i ih =>
        intro hi
        have q := one i (by omega) (fun k hk => ih k hk (by omega))
        have w := hsh i hi
        exact ⟨w.2.1.trans q.2.1, w.2.2.1.trans q.2.2⟩
    have q := one j (Nat.le_refl _) all
    exact hb ⟨q.1, by rw [q.2.1, z64]; omega, by rw [q.2.2, z64]; omega⟩

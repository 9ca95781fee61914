/-- bank b holds in τ what it holds in σ -/
def SameB (τ σ : MS) (b : Nat) : Prop := (τ.2.1 11 b = σ.2.1 11 b ∧ τ.2.1 12 b = σ.2.1 12 b ∧ τ.2.1 13 b = σ.2.1 13 b) ∧ (∀ p i, 14 ≤ p → p ≤ 16 → i / 2 = b → τ.2.1 p i = σ.2.1 p i) ∧ (∀ p i, 17 ≤ p → p ≤ 21 → i / 12 = b → τ.2.1 p i = σ.2.1 p i) ∧ ∀ i, i / 4 = b → τ.2.1 22 i = σ.2.1 22 i
theorem SameB.mk6 {σ τ : MS} {b : Nat} (e11 : τ.2.1 11 b = σ.2.1 11 b) (e12 : τ.2.1 12 b = σ.2.1 12 b) (e13 : τ.2.1 13 b = σ.2.1 13 b)
    (er : ∀ p i, 14 ≤ p → p ≤ 16 → i / 2 = b → τ.2.1 p i = σ.2.1 p i) (es : ∀ p i, 17 ≤ p → p ≤ 21 → i / 12 = b → τ.2.1 p i = σ.2.1 p i) (ee : ∀ i, i / 4 = b → τ.2.1 22 i = σ.2.1 22 i) : SameB τ σ b := ⟨⟨e11, e12, e13⟩, er, es, ee⟩
theorem SameB.rel {σ τ : MS} {b : Nat} (s : SameB τ σ b) (hI : Inv σ) (hb : b < 2) (h : RelP σ b) : RelP τ b := h.cg s.1.1 s.1.2.1 s.1.2.2 s.2.1 s.2.2.1 s.2.2.2 (hI.2 11 b (show b < 2 from hb)).2 (hI.2 12 b (show b < 2 from hb)).2 (hI.2 13 b (show b < 2 from hb)).2
theorem SameB.tr {a b c : MS} {k : Nat} (h : SameB a b k) (h2 : SameB b c k) : SameB a c k := ⟨⟨h.1.1.trans h2.1.1, h.1.2.1.trans h2.1.2.1, h.1.2.2.trans h2.1.2.2⟩, fun p i x y z => (h.2.1 p i x y z).trans (h2.2.1 p i x y z), fun p i x y z => (h.2.2.1 p i x y z).trans (h2.2.2.1 p i x y z), fun i x => (h.2.2.2 i x).trans (h2.2.2.2 i x)⟩
theorem SameB.eqs {σ τ : MS} {b : Nat} (e : ∀ p, 11 ≤ p → p ≤ 22 → τ.2.1 p = σ.2.1 p) : SameB τ σ b := ⟨⟨congrFun (e 11 (by omega) (by omega)) b, congrFun (e 12 (by omega) (by omega)) b, congrFun (e 13 (by omega) (by omega)) b⟩, fun p i x y _ => congrFun (e p (by omega) (by omega)) i, fun p i x y _ => congrFun (e p (by omega) (by omega)) i, fun i _ => congrFun (e 22 (by omega) (by omega)) i⟩
theorem updN {f g : Nat → Int32} {k i : Nat} {v : Int32} (h : f = upd g k v) (hi : i ≠ k) : f i = g i := by rw [h]; exact pk_un hi
theorem updS {f g : Nat → Int32} {k : Nat} {v : Int32} (h : f = upd g k v) : f k = v := by rw [h]; exact pk_us
/-- a ROW read: the bank that is read keeps its tables, and the other one -/
theorem rel_row {σ τ : MS} {r n rb v11 v14 v15 v16 : Int32} (hI : Inv σ) (hrb : 0 ≤ rb.toInt ∧ rb.toInt ≤ 1) (hn : n = σ.2.1 11 rb.toNatClampNeg) (hn0 : 0 ≤ n.toInt) (hn1 : n.toInt ≤ 1) (hr : r.toInt = 2 * rb.toInt + n.toInt)
    (c11 : τ.2.1 11 = upd (σ.2.1 11) rb.toNatClampNeg v11) (c12 : τ.2.1 12 = σ.2.1 12) (c13 : τ.2.1 13 = σ.2.1 13) (c14 : τ.2.1 14 = upd (σ.2.1 14) r.toNatClampNeg v14) (c15 : τ.2.1 15 = upd (σ.2.1 15) r.toNatClampNeg v15) (c16 : τ.2.1 16 = upd (σ.2.1 16) r.toNatClampNeg v16)
    (cs : ∀ p, 17 ≤ p → p ≤ 22 → τ.2.1 p = σ.2.1 p) (h11 : v11.toInt = n.toInt + 1) (h14 : 1 ≤ v14.toInt ∧ v14.toInt ≤ 6) (h15 : -999 ≤ v15.toInt) (h16 : v15.toInt ≤ v16.toInt ∧ v16.toInt ≤ 999) :
    (RelP σ rb.toNatClampNeg → RelP τ rb.toNatClampNeg) ∧ ∀ bk, bk < 2 → bk ≠ rb.toNatClampNeg → SameB τ σ bk := by
  have q1 := ti_cl (x := rb) rfl hrb.1
  have q2 := ti_cl (x := n) rfl hn0
  have q3 := ti_cl (x := r) rfl (by omega)
  have hx : r.toNatClampNeg = 2 * rb.toNatClampNeg + n.toNatClampNeg := by omega
  have er : ∀ p i, 14 ≤ p → p ≤ 16 → i ≠ r.toNatClampNeg → τ.2.1 p i = σ.2.1 p i := fun p i h1 h2 hi => by
    rcases (show p = 14 ∨ p = 15 ∨ p = 16 by omega) with rfl | rfl | rfl
    · exact updN c14 hi
    · exact updN c15 hi
    · exact updN c16 hi
  have gn : gA σ 11 rb.toNatClampNeg = (n.toNatClampNeg : Nat) := by show (σ.2.1 11 rb.toNatClampNeg).toInt = _; rw [← hn]; omega
  have lim : ∀ bk, bk < 2 → gA σ 11 bk ≤ 2 ∧ gA σ 12 bk ≤ 12 ∧ gA σ 13 bk ≤ 4 := fun bk hb => ⟨(hI.2 11 bk (show bk < 2 from hb)).2, (hI.2 12 bk (show bk < 2 from hb)).2, (hI.2 13 bk (show bk < 2 from hb)).2⟩
  refine ⟨fun h => ?_, fun bk hb hne => ?_⟩
  · have l := lim rb.toNatClampNeg (by omega)
    refine h.addRow (n := n.toNatClampNeg) gn (by omega) l.2.1 l.2.2 ?_ (congrFun c12 _) (congrFun c13 _) (fun p i h1 h2 hi => er p i h1 h2 (by omega)) ?_ cs
    · show (τ.2.1 11 _).toInt = _
      rw [updS c11]; omega
    · rw [← hx]
      unfold RowOk
      show 1 ≤ (τ.2.1 14 _).toInt ∧ (τ.2.1 14 _).toInt ≤ 6 ∧ -999 ≤ (τ.2.1 15 _).toInt ∧ (τ.2.1 15 _).toInt ≤ (τ.2.1 16 _).toInt ∧ (τ.2.1 16 _).toInt ≤ 999
      rw [updS c14, updS c15, updS c16]; omega
  · have l := lim bk hb
    refine SameB.mk6 (updN c11 hne) (congrFun c12 _) (congrFun c13 _) (fun p i h1 h2 hi => er p i h1 h2 (by omega)) (fun p i h1 h2 _ => congrFun (cs p (by omega) (by omega)) i) (fun i _ => congrFun (cs 22 (by omega) (by omega)) i)
/-- an END read -/
theorem rel_end {σ τ : MS} {r n rb v13 v22 : Int32} (hI : Inv σ) (hrb : 0 ≤ rb.toInt ∧ rb.toInt ≤ 1) (hn : n = σ.2.1 13 rb.toNatClampNeg) (hn0 : 0 ≤ n.toInt) (hn1 : n.toInt ≤ 3) (hr : r.toInt = 4 * rb.toInt + n.toInt)
    (c11 : τ.2.1 11 = σ.2.1 11) (c12 : τ.2.1 12 = σ.2.1 12) (c13 : τ.2.1 13 = upd (σ.2.1 13) rb.toNatClampNeg v13) (cr : ∀ p, 14 ≤ p → p ≤ 21 → τ.2.1 p = σ.2.1 p) (c22 : τ.2.1 22 = upd (σ.2.1 22) r.toNatClampNeg v22) (h13 : v13.toInt = n.toInt + 1) :
    (RelP σ rb.toNatClampNeg → 0 ≤ v22.toInt → v22.toInt < (σ.2.1 12 rb.toNatClampNeg).toInt → RelP τ rb.toNatClampNeg) ∧ ∀ bk, bk < 2 → bk ≠ rb.toNatClampNeg → SameB τ σ bk := by
  have q1 := ti_cl (x := rb) rfl hrb.1
  have q2 := ti_cl (x := n) rfl hn0
  have q3 := ti_cl (x := r) rfl (by omega)
  have hx : r.toNatClampNeg = 4 * rb.toNatClampNeg + n.toNatClampNeg := by omega
  have gn : gA σ 13 rb.toNatClampNeg = (n.toNatClampNeg : Nat) := by show (σ.2.1 13 rb.toNatClampNeg).toInt = _; rw [← hn]; omega
  have lim : ∀ bk, bk < 2 → gA σ 11 bk ≤ 2 ∧ gA σ 12 bk ≤ 12 ∧ gA σ 13 bk ≤ 4 := fun bk hb => ⟨(hI.2 11 bk (show bk < 2 from hb)).2, (hI.2 12 bk (show bk < 2 from hb)).2, (hI.2 13 bk (show bk < 2 from hb)).2⟩
  refine ⟨fun h h0 h1 => ?_, fun bk hb hne => ?_⟩
  · refine h.addEnd (n := n.toNatClampNeg) gn (congrFun c11 _) (congrFun c12 _) ?_ cr (fun i hi => updN c22 (by omega)) ?_
    · show (τ.2.1 13 _).toInt = _
      rw [updS c13]; omega
    · rw [← hx]
      show 0 ≤ (τ.2.1 22 _).toInt ∧ (τ.2.1 22 _).toInt < (σ.2.1 12 _).toInt
      rw [updS c22]; exact ⟨h0, h1⟩
  · have l := lim bk hb
    exact SameB.mk6 (congrFun c11 _) (congrFun c12 _) (updN c13 hne) (fun p i h1 h2 _ => congrFun (cr p (by omega) (by omega)) i) (fun p i h1 h2 _ => congrFun (cr p (by omega) (by omega)) i) (fun i hi => updN c22 (by omega))
/-- a STEP read -/
theorem rel_step {σ τ : MS} {r n rb v12 : Int32} (hI : Inv σ) (hrb : 0 ≤ rb.toInt ∧ rb.toInt ≤ 1) (hn : n = σ.2.1 12 rb.toNatClampNeg) (hn0 : 0 ≤ n.toInt) (hn1 : n.toInt ≤ 11) (hr : r.toInt = 12 * rb.toInt + n.toInt)
    (c11 : τ.2.1 11 = σ.2.1 11) (c12 : τ.2.1 12 = upd (σ.2.1 12) rb.toNatClampNeg v12) (c13 : τ.2.1 13 = σ.2.1 13) (cr : ∀ p, 14 ≤ p → p ≤ 16 → τ.2.1 p = σ.2.1 p) (cs : ∀ p i, 17 ≤ p → p ≤ 21 → i ≠ r.toNatClampNeg → τ.2.1 p i = σ.2.1 p i) (c22 : τ.2.1 22 = σ.2.1 22) (h12 : v12.toInt = n.toInt + 1) :
    (RelP σ rb.toNatClampNeg → StOk (τ.2.1 17 r.toNatClampNeg).toInt (τ.2.1 18 r.toNatClampNeg).toInt (τ.2.1 19 r.toNatClampNeg).toInt (τ.2.1 20 r.toNatClampNeg).toInt (τ.2.1 21 r.toNatClampNeg).toInt (σ.2.1 11 rb.toNatClampNeg).toInt n.toInt → RelP τ rb.toNatClampNeg) ∧ ∀ bk, bk < 2 → bk ≠ rb.toNatClampNeg → SameB τ σ bk := by
  have q1 := ti_cl (x := rb) rfl hrb.1
  have q2 := ti_cl (x := n) rfl hn0
  have q3 := ti_cl (x := r) rfl (by omega)
  have hx : r.toNatClampNeg = 12 * rb.toNatClampNeg + n.toNatClampNeg := by omega
  have gn : gA σ 12 rb.toNatClampNeg = (n.toNatClampNeg : Nat) := by show (σ.2.1 12 rb.toNatClampNeg).toInt = _; rw [← hn]; omega
  have lim : ∀ bk, bk < 2 → gA σ 11 bk ≤ 2 ∧ gA σ 12 bk ≤ 12 ∧ gA σ 13 bk ≤ 4 := fun bk hb => ⟨(hI.2 11 bk (show bk < 2 from hb)).2, (hI.2 12 bk (show bk < 2 from hb)).2, (hI.2 13 bk (show bk < 2 from hb)).2⟩
  refine ⟨fun h hs => ?_, fun bk hb hne => ?_⟩
  · refine h.addStep (n := n.toNatClampNeg) gn (congrFun c11 _) ?_ (congrFun c13 _) cr (fun p i h1 h2 hi => cs p i h1 h2 (by omega)) ?_ c22
    · show (τ.2.1 12 _).toInt = _
      rw [updS c12]; omega
    · unfold StepOk
      rw [← hx]
      have e11 : gA τ 11 rb.toNatClampNeg = (σ.2.1 11 rb.toNatClampNeg).toInt := congrArg (fun f => (f rb.toNatClampNeg).toInt) c11
      rw [e11, q2]; exact hs
  · have l := lim bk hb
    exact SameB.mk6 (congrFun c11 _) (updN c12 hne) (congrFun c13 _) (fun p i h1 h2 _ => congrFun (cr p h1 h2) i) (fun p i h1 h2 hi => cs p i h1 h2 (by omega)) (fun i _ => congrFun c22 i)
/-- a STEP half read: the other bank keeps its tables -/
theorem rel_other {σ τ : MS} {r n rb : Int32} (hI : Inv σ) (hrb : 0 ≤ rb.toInt ∧ rb.toInt ≤ 1) (hn : 0 ≤ n.toInt ∧ n.toInt ≤ 11) (hr : r.toInt = 12 * rb.toInt + n.toInt) (_h : True ∨ True)
    (c11 : τ.2.1 11 = σ.2.1 11) (c12 : τ.2.1 12 = σ.2.1 12) (c13 : τ.2.1 13 = σ.2.1 13) (cr : ∀ p, 14 ≤ p → p ≤ 16 → τ.2.1 p = σ.2.1 p) (cs : ∀ p i, 17 ≤ p → p ≤ 21 → i ≠ r.toNatClampNeg → τ.2.1 p i = σ.2.1 p i) (c22 : τ.2.1 22 = σ.2.1 22) :
    ∀ bk, bk < 2 → bk ≠ rb.toNatClampNeg → SameB τ σ bk := by
  intro bk hb hne
  have q1 := ti_cl (x := rb) rfl hrb.1
  have q2 := ti_cl (x := n) rfl hn.1
  have q3 := ti_cl (x := r) rfl (by omega)
  refine SameB.mk6 (congrFun c11 _) (congrFun c12 _) (congrFun c13 _) (fun p i h1 h2 _ => congrFun (cr p h1 h2) i) (fun p i h1 h2 hi => cs p i h1 h2 (by omega)) (fun i _ => congrFun c22 i)
theorem RelP.eqs {σ τ : MS} {b : Nat} (h : RelP σ b) (e : ∀ p, 11 ≤ p → p ≤ 22 → τ.2.1 p = σ.2.1 p) : RelP τ b := by
  have f : ∀ p i, 11 ≤ p → p ≤ 22 → gA τ p i = gA σ p i := fun p i h1 h2 => congrArg (fun g => (g i).toInt) (e p h1 h2)
  refine ⟨fun j hj => ?_, fun j hj => ?_, fun j hj => ?_⟩
  · rw [f 11 _ (by omega) (by omega)] at hj
    have h1 := h.1 j hj
    unfold RowOk at h1 ⊢
    rw [f 14 _ (by omega) (by omega), f 15 _ (by omega) (by omega), f 16 _ (by omega) (by omega)]; exact h1
  · rw [f 12 _ (by omega) (by omega)] at hj
    have h1 := h.2.1 j hj
    unfold StepOk at h1 ⊢
    rw [f 17 _ (by omega) (by omega), f 18 _ (by omega) (by omega), f 19 _ (by omega) (by omega), f 20 _ (by omega) (by omega), f 21 _ (by omega) (by omega), f 11 _ (by omega) (by omega)]; exact h1
  · rw [f 13 _ (by omega) (by omega)] at hj
    rw [f 22 _ (by omega) (by omega), f 12 _ (by omega) (by omega)]; exact h.2.2 j hj
/-- the tables 11 .. 22 of two states that differ elsewhere -/
theorem eqx.tab {ps : List Nat} {τ σ : MS} (h : eqx ps τ σ) (hp : ∀ q, 11 ≤ q → q ≤ 22 → q ∉ ps) : ∀ p, 11 ≤ p → p ≤ 22 → τ.2.1 p = σ.2.1 p := fun p h1 h2 => (h p (hp p h1 h2)).2.1
theorem upd_self {f : Nat → Int32} {i : Nat} : f = upd f i (f i) := by
  funext j
  by_cases e : j = i
  · subst e; exact pk_us.symm
  · exact (pk_un e).symm
theorem upd_upd {f : Nat → Int32} {i : Nat} {a b : Int32} : upd (upd f i a) i b = upd f i b := by
  funext j
  by_cases e : j = i
  · subst e; rw [pk_us, pk_us]
  · rw [pk_un e, pk_un e, pk_un e]
theorem When.mo {τ' τ : MS} {P : Prop} (h : When τ P) (m : Mo τ' τ) : When τ' P := fun h9 => h (m h9)
theorem When.imp {τ : MS} {P Q : Prop} (h : When τ P) (f : P → Q) : When τ Q := fun h9 => f (h h9)
theorem When.cv {τ : MS} {z : Int32} {f g : Nat → Int32} {i j : Int32} (h : When τ (0 ≤ z.toInt ∧ z.toInt < (f i.toNatClampNeg).toInt)) (hf : f = g) (hi : i = j) : When τ (0 ≤ z.toInt ∧ z.toInt < (g j.toNatClampNeg).toInt) := by rw [← hf, ← hi]; exact h
theorem tabL {τ σ : MS} (L : Nat) (c11 : τ.2.1 11 = σ.2.1 11) (c12 : τ.2.1 12 = σ.2.1 12) (c13 : τ.2.1 13 = σ.2.1 13) (c14 : τ.2.1 14 = σ.2.1 14) (c15 : τ.2.1 15 = σ.2.1 15) (c16 : τ.2.1 16 = σ.2.1 16)
    (c17 : 17 ≤ 16 + L ∨ τ.2.1 17 = σ.2.1 17) (c18 : 18 ≤ 16 + L ∨ τ.2.1 18 = σ.2.1 18) (c19 : 19 ≤ 16 + L ∨ τ.2.1 19 = σ.2.1 19) (c20 : 20 ≤ 16 + L ∨ τ.2.1 20 = σ.2.1 20) (c21 : 21 ≤ 16 + L ∨ τ.2.1 21 = σ.2.1 21) (c22 : τ.2.1 22 = σ.2.1 22) :
    ∀ p, 11 ≤ p → p ≤ 22 → ¬ (17 ≤ p ∧ p ≤ 16 + L) → τ.2.1 p = σ.2.1 p := by
  intro p h1 h2 h3
  rcases (show p = 11 ∨ p = 12 ∨ p = 13 ∨ p = 14 ∨ p = 15 ∨ p = 16 ∨ p = 17 ∨ p = 18 ∨ p = 19 ∨ p = 20 ∨ p = 21 ∨ p = 22 by omega) with rfl | rfl | rfl | rfl | rfl | rfl | rfl | rfl | rfl | rfl | rfl | rfl
  · exact c11
  · exact c12
  · exact c13
  · exact c14
  · exact c15
  · exact c16
  · rcases c17 with h | h
    · exact absurd ⟨by omega, h⟩ h3
    · exact h
  · rcases c18 with h | h
    · exact absurd ⟨by omega, h⟩ h3
    · exact h
  · rcases c19 with h | h
    · exact absurd ⟨by omega, h⟩ h3
    · exact h
  · rcases c20 with h | h
    · exact absurd ⟨by omega, h⟩ h3
    · exact h
  · rcases c21 with h | h
    · exact absurd ⟨by omega, h⟩ h3
    · exact h
  · exact c22
theorem StOk.cells {τ : MS} {R : Nat} {f17 f18 f19 f20 f21 : Nat → Int32} {k a b c d : Int32} {rows j : Int} (h : StOk k.toInt a.toInt b.toInt c.toInt d.toInt rows j)
    (h17 : τ.2.1 17 = upd f17 R k) (h18 : τ.2.1 18 = upd f18 R a) (h19 : τ.2.1 19 = upd f19 R b) (h20 : τ.2.1 20 = upd f20 R c) (h21 : τ.2.1 21 = upd f21 R d) :
    StOk (τ.2.1 17 R).toInt (τ.2.1 18 R).toInt (τ.2.1 19 R).toInt (τ.2.1 20 R).toInt (τ.2.1 21 R).toInt rows j := by
  rw [updS h17, updS h18, updS h19, updS h20, updS h21]; exact h
theorem StOk.up {k a b c d r1 r2 j j2 : Int} (h : StOk k a b c d r1 j) (hr : r1 ≤ r2) (hj : j ≤ j2) : StOk k a b c d r2 j2 := by
  unfold StOk at h ⊢; omega
theorem csL {τ σ : MS} {R : Nat} {k a b c d : Int32} (h17 : τ.2.1 17 = upd (σ.2.1 17) R k) (h18 : τ.2.1 18 = upd (σ.2.1 18) R a) (h19 : τ.2.1 19 = upd (σ.2.1 19) R b) (h20 : τ.2.1 20 = upd (σ.2.1 20) R c) (h21 : τ.2.1 21 = upd (σ.2.1 21) R d) :
    ∀ p i, 17 ≤ p → p ≤ 21 → i ≠ R → τ.2.1 p i = σ.2.1 p i := by
  intro p i h1 h2 hi
  rcases (show p = 17 ∨ p = 18 ∨ p = 19 ∨ p = 20 ∨ p = 21 by omega) with rfl | rfl | rfl | rfl | rfl
  · exact updN h17 hi
  · exact updN h18 hi
  · exact updN h19 hi
  · exact updN h20 hi
  · exact updN h21 hi
theorem crL {τ σ : MS} (c14 : τ.2.1 14 = σ.2.1 14) (c15 : τ.2.1 15 = σ.2.1 15) (c16 : τ.2.1 16 = σ.2.1 16) : ∀ p, 14 ≤ p → p ≤ 16 → τ.2.1 p = σ.2.1 p := by
  intro p h1 h2
  rcases (show p = 14 ∨ p = 15 ∨ p = 16 by omega) with rfl | rfl | rfl
  · exact c14
  · exact c15
  · exact c16

/-! CHOICES: which CHANGE each STEP has -/
abbrev Bt (ch c : Int32) : Prop := ¬ (ch >>> (c &&& 31)) &&& 1 = 0
def VC (n ch : Int32) : Prop := 0 ≤ ch.toInt ∧ ch < 1 <<< (n &&& 31)
/-- of the CHANGES ahead of n -/
def OnP (cs : Nat → Int32) (ch : Int32) (n : Nat) (on : Nat → Int32) : Prop := (∀ i : Nat, i < 12 → (on i).toInt = -1 ∨ (0 ≤ (on i).toInt ∧ (on i).toInt < n ∧ Bt ch (on i) ∧ (cs (on i).toNatClampNeg).toInt = i)) ∧ ∀ c : Int32, 0 ≤ c.toInt → c.toInt < n → Bt ch c → on (cs c.toNatClampNeg).toNatClampNeg = c
theorem m1_toInt : (-1 : Int32).toInt = -1 := by decide
theorem OnP.z {cs : Nat → Int32} {ch : Int32} {on : Nat → Int32} (h : ∀ i, i < 12 → on i = -1) : OnP cs ch (0 : Int32).toNatClampNeg on := by
  have e : (0 : Int32).toNatClampNeg = 0 := by decide
  rw [e]
  exact ⟨fun i hi => Or.inl (by rw [h i hi]; exact m1_toInt), fun c h0 h1 => absurd h1 (by omega)⟩
theorem OnP.skip {cs : Nat → Int32} {ch k : Int32} {n : Nat} {on : Nat → Int32} (h : OnP cs ch n on) (hk : k.toInt = n) (hb : (ch >>> (k &&& 31)) &&& 1 = 0) : OnP cs ch (n + 1) on := by
  refine ⟨fun i hi => ?_, fun c h0 h1 h2 => ?_⟩
  · rcases h.1 i hi with q | ⟨a, b, c, d⟩
    · exact Or.inl q
    · exact Or.inr ⟨a, by omega, c, d⟩
  · by_cases e : c = k
    · subst e; exact absurd hb h2
    · exact h.2 c h0 (by have : c.toInt ≠ k.toInt := fun z => e (Int32.toInt_inj.mp z); omega) h2
theorem OnP.put {cs : Nat → Int32} {ch k : Int32} {n : Nat} {on : Nat → Int32} (h : OnP cs ch n on) (hk : k.toInt = n) (hb : Bt ch k) (hs0 : 0 ≤ (cs k.toNatClampNeg).toInt) (hs : (cs k.toNatClampNeg).toInt ≤ 11) (hf : (on (cs k.toNatClampNeg).toNatClampNeg).toInt < 0) : OnP cs ch (n + 1) (upd on (cs k.toNatClampNeg).toNatClampNeg k) := by
  have q := ti_cl (x := cs k.toNatClampNeg) rfl hs0
  refine ⟨fun i hi => ?_, fun c h0 h1 h2 => ?_⟩
  · by_cases e : i = (cs k.toNatClampNeg).toNatClampNeg
    · subst e; rw [pk_us]; exact Or.inr ⟨by omega, by omega, hb, by omega⟩
    · rw [pk_un e]
      rcases h.1 i hi with z | ⟨a, b, c, d⟩
      · exact Or.inl z
      · exact Or.inr ⟨a, by omega, c, d⟩
  · by_cases e : c = k
    · subst e; exact pk_us
    · have hc : c.toInt < n := by have : c.toInt ≠ k.toInt := fun z => e (Int32.toInt_inj.mp z); omega
      have h3 := h.2 c h0 hc h2
      by_cases e2 : (cs c.toNatClampNeg).toNatClampNeg = (cs k.toNatClampNeg).toNatClampNeg
      · rw [e2] at h3; rw [h3] at hf; exact absurd hf (by omega)
      · rw [pk_un e2]; exact h3
/-- two CHANGES of one STEP: no CHOICE -/
theorem OnP.two {cs : Nat → Int32} {ch k : Int32} {n N : Nat} {on on2 : Nat → Int32} (h : OnP cs ch n on) (hk : k.toInt = n) (hb : Bt ch k) (hs0 : 0 ≤ (cs k.toNatClampNeg).toInt) (hs : (cs k.toNatClampNeg).toInt ≤ 11) (hf : 0 ≤ (on (cs k.toNatClampNeg).toNatClampNeg).toInt) (hN : n < N) (h2 : OnP cs ch N on2) : False := by
  have q := ti_cl (x := cs k.toNatClampNeg) rfl hs0
  rcases h.1 (cs k.toNatClampNeg).toNatClampNeg (by omega) with z | ⟨a, b, c, d⟩
  · omega
  · have e1 := h2.2 k (by omega) (by omega) hb
    have e2 := h2.2 _ a (by omega) c
    have q2 : (cs (on (cs k.toNatClampNeg).toNatClampNeg).toNatClampNeg).toNatClampNeg = (cs k.toNatClampNeg).toNatClampNeg := by
      have := ti_cl (x := cs (on (cs k.toNatClampNeg).toNatClampNeg).toNatClampNeg) rfl (by omega)
      omega
    rw [q2, e1] at e2
    rw [← e2] at b; omega
/-- a CHOICE tells its STEPS' CHANGES -/
theorem OnP.uniq {cs : Nat → Int32} {ch : Int32} {n : Nat} {f g : Nat → Int32} (h : OnP cs ch n f) (h2 : OnP cs ch n g) : ∀ i, i < 12 → f i = g i := fun i hi => by
  rcases h.1 i hi with z | ⟨a, b, c, d⟩
  · rcases h2.1 i hi with z2 | ⟨a, b, c, d⟩
    · exact Int32.toInt_inj.mp (by omega)
    · have e := h.2 _ a b c
      have q := ti_cl (x := cs (g i).toNatClampNeg) rfl (by omega)
      rw [show (cs (g i).toNatClampNeg).toNatClampNeg = i by omega] at e
      exact e
  · have e := h2.2 _ a b c
    have q := ti_cl (x := cs (f i).toNatClampNeg) rfl (by omega)
    rw [show (cs (f i).toNatClampNeg).toNatClampNeg = i by omega] at e
    exact e.symm
/-- the CHANGES that are told fit their STEPS -/
def ChR (σ : MS) : Prop := ∀ i : Nat, (i : Int) < (σ.1 40).toInt → 0 ≤ (σ.2.1 33 i).toInt ∧ (σ.2.1 33 i).toInt < (σ.2.1 12 (σ.1 29).toNatClampNeg).toInt ∧ FitK (σ.2.1 17 (12 * (σ.1 29).toNatClampNeg + (σ.2.1 33 i).toNatClampNeg)).toInt (σ.2.1 34 i).toInt (σ.2.1 35 i).toInt
def OnR (σ : MS) (ch : Int32) (on : Nat → Int32) : Prop := VC (σ.1 40) ch ∧ OnP (σ.2.1 33) ch (σ.1 40).toNatClampNeg on
/-- every STEP's CHANGE fits it -/
theorem OnR.fit {σ : MS} {ch : Int32} {on : Nat → Int32} (hI : Inv σ) (hc : ChR σ) (h : OnR σ ch on) : ∀ i, i < 12 → FitC (σ.1 29).toNatClampNeg (cor σ) i (on i) := fun i hi => by
  have h40 : 0 ≤ (σ.1 40).toInt ∧ (σ.1 40).toInt ≤ 12 := hI.1 40
  have q0 := ti_cl (x := σ.1 40) rfl h40.1
  rcases h.2.1 i hi with z | ⟨a, b, c, d⟩
  · exact ⟨by omega, by omega, fun q => absurd q (by omega)⟩
  · have q := ti_cl (x := on i) rfl a
    have h1 := hc (on i).toNatClampNeg (by omega)
    have e : (σ.2.1 33 (on i).toNatClampNeg).toNatClampNeg = i := by have := ti_cl (x := σ.2.1 33 (on i).toNatClampNeg) rfl h1.1; omega
    have h2 := h1.2.2
    rw [e] at h2
    exact ⟨by omega, by omega, fun _ => h2⟩
/-! SHOWN of all STEPS ahead of n -/
def ShR (B : Nat) (T : Nat → Nat → Int32) (J : Nat → Nat → Int64) (on : Nat → Int32) (n : Nat) (L H : Nat → Int64) : Prop := ∀ j, j < n → shOk B T L H (on j) j ∧ L j = shLo B T J L H (on j) j ∧ H j = shHi B T J L H (on j) j ∧ -1000000000 ≤ (L j).toInt ∧ (H j).toInt ≤ 1000000000
theorem Ers.iff {L H L' H' : Nat → Int64} {a : Nat} (h1 : L a = L' a) (h2 : H a = H' a) : Ers L H a ↔ Ers L' H' a := by
  show ¬ (L a = 0 ∧ H a = 0) ↔ ¬ (L' a = 0 ∧ H' a = 0); rw [h1, h2]
theorem sp_loc {B : Nat} {T : Nat → Nat → Int32} {J : Nat → Nat → Int64} {L H L' H' : Nat → Int64} {j : Nat} (hs : StOk (T 17 (12 * B + j)).toInt (T 18 (12 * B + j)).toInt (T 19 (12 * B + j)).toInt (T 20 (12 * B + j)).toInt (T 21 (12 * B + j)).toInt (T 11 B).toInt j) (hl : ∀ i, i < j → L i = L' i) (hh : ∀ i, i < j → H i = H' i) : spLo B T J L H j = spLo B T J L' H' j ∧ spHi B T J L H j = spHi B T J L' H' j ∧ (spOk B T L H j ↔ spOk B T L' H' j) := by
  unfold StOk at hs
  have hk : (T 17 (12 * B + j)).toInt = 0 ∨ (T 17 (12 * B + j)).toInt = 1 ∨ (T 17 (12 * B + j)).toInt = 2 ∨ (T 17 (12 * B + j)).toInt = 3 ∨ (T 17 (12 * B + j)).toInt = 4 ∨ (T 17 (12 * B + j)).toInt = 5 ∨ (T 17 (12 * B + j)).toInt = 6 ∨ (T 17 (12 * B + j)).toInt = 7 := by omega
  obtain ⟨-, -, -, ha, hb, -, hcd⟩ := hs
  have nk : (T 17 (12 * B + j)).toInt ≠ 6 → (spOk B T L H j ↔ spOk B T L' H' j) := fun z => ⟨fun _ q => absurd q z, fun _ q => absurd q z⟩
  rcases hk with k | k | k | k | k | k | k | k
  · rw [(sp_0 (Or.inl k)).1, (sp_0 (Or.inl k)).2, (sp_0 (L := L') (H := H') (Or.inl k)).1, (sp_0 (L := L') (H := H') (Or.inl k)).2]; exact ⟨rfl, rfl, nk (by omega)⟩
  · rw [(sp_0 (Or.inr (Or.inl k))).1, (sp_0 (Or.inr (Or.inl k))).2, (sp_0 (L := L') (H := H') (Or.inr (Or.inl k))).1, (sp_0 (L := L') (H := H') (Or.inr (Or.inl k))).2]; exact ⟨rfl, rfl, nk (by omega)⟩
  · have a := ha (by omega); have b := hb (by omega)
    have a' := cl_lt a.1 a.2; have b' := cl_lt b.1 b.2
    rw [(sp_2 k).1, (sp_2 k).2, (sp_2 (L := L') (H := H') k).1, (sp_2 (L := L') (H := H') k).2, hl _ a', hl _ b', hh _ a', hh _ b']; exact ⟨rfl, rfl, nk (by omega)⟩
  · have a := ha (by omega); have b := hb (by omega)
    have a' := cl_lt a.1 a.2; have b' := cl_lt b.1 b.2
    rw [(sp_3 k).1, (sp_3 k).2, (sp_3 (L := L') (H := H') k).1, (sp_3 (L := L') (H := H') k).2, hl _ a', hl _ b', hh _ a', hh _ b']; exact ⟨rfl, rfl, nk (by omega)⟩
  · have a := ha (by omega); have b := hb (by omega)
    have a' := cl_lt a.1 a.2; have b' := cl_lt b.1 b.2
    rw [(sp_4 k).1, (sp_4 k).2, (sp_4 (L := L') (H := H') k).1, (sp_4 (L := L') (H := H') k).2]
    unfold tmLo tmHi; rw [hl _ a', hl _ b', hh _ a', hh _ b']; exact ⟨rfl, rfl, nk (by omega)⟩
  · have a := ha (by omega)
    have a' := cl_lt a.1 a.2
    by_cases e : Ers L H (T 18 (12 * B + j)).toNatClampNeg
    · have e' : Ers L' H' (T 18 (12 * B + j)).toNatClampNeg := (Ers.iff (hl _ a') (hh _ a')).mp e
      rw [(sp_5y k e).1, (sp_5y k e).2, (sp_5y (L := L') (H := H') k e').1, (sp_5y (L := L') (H := H') k e').2, hl _ a', hh _ a']; exact ⟨rfl, rfl, nk (by omega)⟩
    · have e' : ¬ Ers L' H' (T 18 (12 * B + j)).toNatClampNeg := fun q => e ((Ers.iff (hl _ a') (hh _ a')).mpr q)
      rw [(sp_5n k e).1, (sp_5n k e).2, (sp_5n (L := L') (H := H') k e').1, (sp_5n (L := L') (H := H') k e').2]; exact ⟨rfl, rfl, nk (by omega)⟩
  · have b := hb (by omega)
    have b' := cl_lt b.1 b.2
    rw [(sp_0 (Or.inr (Or.inr k))).1, (sp_0 (Or.inr (Or.inr k))).2, (sp_0 (L := L') (H := H') (Or.inr (Or.inr k))).1, (sp_0 (L := L') (H := H') (Or.inr (Or.inr k))).2]
    refine ⟨rfl, rfl, ?_⟩
    unfold spOk; rw [Ers.iff (hl _ b') (hh _ b')]
  · have a := ha (by omega); have b := hb (by omega); have cd := hcd k
    have a' := cl_lt a.1 a.2; have b' := cl_lt b.1 b.2; have c' := cl_lt cd.1 cd.2.1; have d' := cl_lt cd.2.2.1 cd.2.2.2
    rw [(sp_7 k).1, (sp_7 k).2, (sp_7 (L := L') (H := H') k).1, (sp_7 (L := L') (H := H') k).2]
    by_cases e : Ers L H (T 20 (12 * B + j)).toNatClampNeg ∨ Ers L H (T 21 (12 * B + j)).toNatClampNeg
    · have e' : Ers L' H' (T 20 (12 * B + j)).toNatClampNeg ∨ Ers L' H' (T 21 (12 * B + j)).toNatClampNeg := by rw [← Ers.iff (hl _ c') (hh _ c'), ← Ers.iff (hl _ d') (hh _ d')]; exact e
      rw [(pk_y (H := H) e).1, (pk_y (L := L) e).2, (pk_y (H := H') e').1, (pk_y (L := L') e').2]
      unfold ovLo ovHi; rw [hl _ a', hl _ b', hh _ a', hh _ b']; exact ⟨rfl, rfl, nk (by omega)⟩
    · have e' : ¬ (Ers L' H' (T 20 (12 * B + j)).toNatClampNeg ∨ Ers L' H' (T 21 (12 * B + j)).toNatClampNeg) := by rw [← Ers.iff (hl _ c') (hh _ c'), ← Ers.iff (hl _ d') (hh _ d')]; exact e
      rw [(pk_n (J := J) (B := B) (H := H) e).1, (pk_n (J := J) (B := B) (L := L) e).2, (pk_n (J := J) (B := B) (H := H') e').1, (pk_n (J := J) (B := B) (L := L') e').2, hl _ a', hl _ b', hh _ a', hh _ b']; exact ⟨rfl, rfl, nk (by omega)⟩
theorem sh_loc {B : Nat} {T : Nat → Nat → Int32} {J : Nat → Nat → Int64} {L H L' H' : Nat → Int64} {j : Nat} {c : Int32} (hs : StOk (T 17 (12 * B + j)).toInt (T 18 (12 * B + j)).toInt (T 19 (12 * B + j)).toInt (T 20 (12 * B + j)).toInt (T 21 (12 * B + j)).toInt (T 11 B).toInt j) (hf : FitC B T j c) (hl : ∀ i, i < j → L i = L' i) (hh : ∀ i, i < j → H i = H' i) : shLo B T J L H c j = shLo B T J L' H' c j ∧ shHi B T J L H c j = shHi B T J L' H' c j ∧ (shOk B T L H c j ↔ shOk B T L' H' c j) := by
  have s := sp_loc (J := J) hs hl hh
  have o : shOk B T L H c j ↔ shOk B T L' H' c j := by unfold shOk; rw [s.2.2]
  by_cases h2 : OnK T c 2
  · have hk : (T 17 (12 * B + j)).toInt = 7 := by have := hf.2.2 h2.1; unfold FitK at this; exact (this.2.2.1 h2.2).1
    unfold StOk at hs
    have a := hs.2.2.2.1 (by omega); have b := hs.2.2.2.2.1 (by omega)
    have a' := cl_lt a.1 a.2; have b' := cl_lt b.1 b.2
    rw [(sh_2 h2).1, (sh_2 h2).2, (sh_2 (L := L') (H := H') h2).1, (sh_2 (L := L') (H := H') h2).2]
    unfold ovLo ovHi; rw [hl _ a', hl _ b', hh _ a', hh _ b']; exact ⟨rfl, rfl, o⟩
  · refine ⟨?_, ?_, o⟩
    · unfold shLo; rw [s.1, if_neg h2, if_neg h2]
    · unfold shHi; rw [s.2.1, if_neg h2, if_neg h2]
theorem ShR.snoc {B : Nat} {T : Nat → Nat → Int32} {J : Nat → Nat → Int64} {on : Nat → Int32} {n : Nat} {L H : Nat → Int64} {v1 v2 : Int64} (hs : StT B T (n + 1)) (hf : ∀ i, i < n + 1 → FitC B T i (on i)) (h : ShR B T J on n L H) (ho : shOk B T L H (on n) n) (h1 : v1 = shLo B T J L H (on n) n) (h2 : v2 = shHi B T J L H (on n) n) (b1 : -1000000000 ≤ v1.toInt) (b2 : v2.toInt ≤ 1000000000) : ShR B T J on (n + 1) (vp_updL L n v1) (vp_updL H n v2) := fun j hj => by
  have e1 : ∀ i, i < j → L i = vp_updL L n v1 i := fun i hi => (pk_uLn (by omega)).symm
  have e2 : ∀ i, i < j → H i = vp_updL H n v2 i := fun i hi => (pk_uLn (by omega)).symm
  have s := sh_loc (J := J) (hs j hj) (hf j hj) e1 e2
  rw [← s.1, ← s.2.1, ← s.2.2]
  by_cases q : j = n
  · subst q; rw [pk_uLs, pk_uLs]; exact ⟨ho, h1, h2, b1, b2⟩
  · rw [pk_uLn q, pk_uLn q]; exact h j (by omega)
theorem ShR.z {B : Nat} {T : Nat → Nat → Int32} {J : Nat → Nat → Int64} {on : Nat → Int32} {L H : Nat → Int64} : ShR B T J on (0 : Int32).toNatClampNeg L H := fun j hj => absurd hj (by rw [show (0 : Int32).toNatClampNeg = 0 from by decide]; exact Nat.not_lt_zero _)
theorem ChR.add {σ τ : MS} {st kd nn : Int32} (h : ChR σ) (e33 : τ.2.1 33 = upd (σ.2.1 33) (σ.1 40).toNatClampNeg st) (e34 : τ.2.1 34 = upd (σ.2.1 34) (σ.1 40).toNatClampNeg kd) (e35 : τ.2.1 35 = upd (σ.2.1 35) (σ.1 40).toNatClampNeg nn) (e40 : (τ.1 40).toInt = (σ.1 40).toInt + 1) (e29 : τ.1 29 = σ.1 29) (e12 : τ.2.1 12 = σ.2.1 12) (e17 : τ.2.1 17 = σ.2.1 17) (h40 : 0 ≤ (σ.1 40).toInt)
    (f : 0 ≤ st.toInt ∧ st.toInt < (σ.2.1 12 (σ.1 29).toNatClampNeg).toInt ∧ FitK (σ.2.1 17 (12 * (σ.1 29).toNatClampNeg + st.toNatClampNeg)).toInt kd.toInt nn.toInt) : ChR τ := fun i hi => by
  have q := ti_cl (x := σ.1 40) rfl h40
  rw [e29, e12, e17, e33, e34, e35]
  by_cases e : i = (σ.1 40).toNatClampNeg
  · subst e; rw [pk_us, pk_us, pk_us]; exact f
  · rw [pk_un e, pk_un e, pk_un e]; exact h i (by omega)
def ShBad (B : Nat) (T : Nat → Nat → Int32) (J : Nat → Nat → Int64) (on : Nat → Int32) (j : Nat) (L H : Nat → Int64) : Prop := ShR B T J on j L H ∧ ¬ (shOk B T L H (on j) j ∧ -1000000000 ≤ (shLo B T J L H (on j) j).toInt ∧ (shHi B T J L H (on j) j).toInt ≤ 1000000000)
theorem lt64 {x y : Int64} (h : x < y) : x.toInt < y.toInt := Int64.lt_iff_toInt_lt.mp h
theorem le64 {x y : Int64} (h : x ≤ y) : x.toInt ≤ y.toInt := Int64.le_iff_toInt_le.mp h
theorem nlt64 {x y : Int64} (h : ¬ x < y) : y.toInt ≤ x.toInt := Int64.le_iff_toInt_le.mp (Int64.not_lt.mp h)
theorem nle64 {x y : Int64} (h : ¬ x ≤ y) : y.toInt < x.toInt := Int64.lt_iff_toInt_lt.mp (Int64.not_le.mp h)
theorem b9a : (-1000000000 : Int64).toInt = -1000000000 := by decide
theorem b9b : (1000000000 : Int64).toInt = 1000000000 := by decide

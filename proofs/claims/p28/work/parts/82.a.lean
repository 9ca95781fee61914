/-! own rows of p28: the class's state and world -/
abbrev PS : Type := (Nat → Int32) × (Nat → Nat → Int32) × (Nat → Nat → Option Nat)
abbrev CE : Type := (Nat → Nat) × (Nat → ClassId) × (Option Nat × Option Nat) × PS × va_W × List Nat × (Nat → va_E)
def kA (κ : CE) : Nat → Nat := κ.1
def kC (κ : CE) : Nat → ClassId := κ.2.1
def kE (κ : CE) : Option Nat := κ.2.2.1.1
def kP (κ : CE) : Option Nat := κ.2.2.1.2
def pI (κ : CE) : Nat → Int32 := κ.2.2.2.1.1
def pA (κ : CE) : Nat → Nat → Int32 := κ.2.2.2.1.2.1
def pQ (κ : CE) : Nat → Nat → Option Nat := κ.2.2.2.1.2.2
def kX (κ : CE) : va_W := κ.2.2.2.2.1
def kL (κ : CE) : List Nat := κ.2.2.2.2.2.1
def kf (κ : CE) : Nat → va_E := κ.2.2.2.2.2.2
def cF (κ : CE) (σ : MS) : va_W := [(kA κ 0, .inr (11, [.ref (kA κ 1), .int (σ.1 1), .int (σ.1 2), .int (σ.1 3), .ref (kA κ 6), .ref (kA κ 12), .ref (kA κ 15), .ref (kA κ 21), .ref (kA κ 24), .ref (kA κ 2), .ref (kA κ 3), .ref (kA κ 4), .int (σ.1 7), .int (σ.1 8), .ref (kA κ 5), va_rf (kE κ), va_rf (kP κ)])), (kA κ 1, .inl (kC κ 1, 1000, .inl (σ.2.1 0))), (kA κ 2, .inl (kC κ 2, 4, .inl (σ.2.1 4))), (kA κ 3, .inl (kC κ 3, 4, .inl (σ.2.1 5))), (kA κ 4, .inl (kC κ 4, 4, .inl (σ.2.1 6))), (kA κ 5, .inl (kC κ 5, 4, .inr (.inl (σ.2.2.1 9)))), (kA κ 6, .inr (3, [.ref (kA κ 7), .ref (kA κ 8), .ref (kA κ 9), .ref (kA κ 10), .ref (kA κ 11), .int (pI κ 0), .int (pI κ 1), .int (pI κ 2)])), (kA κ 7, .inl (kC κ 7, 2, .inr (.inr (.inr (.inr (pQ κ 0)))))), (kA κ 8, .inl (kC κ 8, 12, .inr (.inr (.inr (.inr (pQ κ 1)))))), (kA κ 9, .inl (kC κ 9, 4, .inl (pA κ 0))), (kA κ 10, .inl (kC κ 10, 4, .inl (pA κ 1))), (kA κ 11, .inl (kC κ 11, 4, .inl (pA κ 2))), (kA κ 12, .inr (7, [.ref (kA κ 13), .ref (kA κ 14), .int (σ.1 12)])), (kA κ 13, .inl (kC κ 13, 492, .inl (σ.2.1 10))), (kA κ 14, .inl (kC κ 14, 40, .inl (σ.2.1 11))), (kA κ 15, .inr (0, [.ref (kA κ 16), .ref (kA κ 17), .ref (kA κ 18), .ref (kA κ 19), .ref (kA κ 20), .int (σ.1 18), .int (σ.1 19)])), (kA κ 16, .inl (kC κ 16, 12, .inl (σ.2.1 13))), (kA κ 17, .inl (kC κ 17, 12, .inl (σ.2.1 14))), (kA κ 18, .inl (kC κ 18, 12, .inl (σ.2.1 15))), (kA κ 19, .inl (kC κ 19, 12, .inl (σ.2.1 16))), (kA κ 20, .inl (kC κ 20, 12, .inl (σ.2.1 17))), (kA κ 21, .inr (8, [.ref (kA κ 6), .ref (kA κ 15), .ref (kA κ 22), .ref (kA κ 23), .long (σ.2.2.2 22), .long (σ.2.2.2 23), .int (σ.1 24), .int (σ.1 25), .int (σ.1 26)])), (kA κ 22, .inl (kC κ 22, 12, .inr (.inl (σ.2.2.1 20)))), (kA κ 23, .inl (kC κ 23, 12, .inr (.inl (σ.2.2.1 21)))), (kA κ 24, .inr (10, [.ref (kA κ 6), .ref (kA κ 12), .ref (kA κ 15), .ref (kA κ 25), .ref (kA κ 26)])), (kA κ 25, .inl (kC κ 25, 492, .inr (.inl (σ.2.2.1 27)))), (kA κ 26, .inl (kC κ 26, 492, .inr (.inl (σ.2.2.1 28))))]
def cW (κ : CE) (σ : MS) : va_W := (cF κ σ ++ kX κ) ++ va_pl (kL κ) (kf κ)
def cT (κ : CE) : List (ClassId × FieldType) := [(kC κ 1, .byte), (kC κ 2, .int), (kC κ 3, .int), (kC κ 4, .int), (kC κ 5, .long), (kC κ 7, .object RX5), (kC κ 8, .object RX9), (kC κ 9, .int), (kC κ 10, .int), (kC κ 11, .int), (kC κ 13, .int), (kC κ 14, .boolean), (kC κ 16, .int), (kC κ 17, .int), (kC κ 18, .int), (kC κ 19, .int), (kC κ 20, .int), (kC κ 22, .long), (kC κ 23, .long), (kC κ 25, .long), (kC κ 26, .long)]
/-- a ROW's, a STEP's fields -/
abbrev RT : Type := (Nat → Int32) × Int64
abbrev TT : Type := (Nat → Int32) × (Nat → Int64) × Option Nat
def rwV (u : RT) : List Value := [.long u.2, .int (u.1 0), .int (u.1 1), .int (u.1 2), .int (u.1 3)]
def stV (t : TT) : List Value := [.int (t.1 0), .long (t.2.1 0), va_rf t.2.2, .int (t.1 1), .int (t.1 2), .int (t.1 3), .int (t.1 4), .int (t.1 5), .int (t.1 6), .long (t.2.1 1), .long (t.2.1 2)]
def RwLd (u : RT) : Prop := 1 ≤ (u.1 0).toInt ∧ (u.1 0).toInt ≤ 6 ∧ 0 ≤ (u.1 3).toInt ∧ (u.1 3).toInt + (u.1 0).toInt ≤ 12
def IsRow (κ : CE) (r : Nat) (u : RT) : Prop := r ∈ kL κ ∧ kf κ r = .inr (5, rwV u) ∧ RwLd u
def IsStep (κ : CE) (a : Nat) (t : TT) : Prop := a ∈ kL κ ∧ kf κ a = .inr (9, stV t) ∧ (∀ j, 1 ≤ j → j ≤ 4 → 0 ≤ (t.1 j).toInt ∧ (t.1 j).toInt < (pI κ 1).toInt) ∧ ∀ r, t.2.2 = some r → ∃ u, IsRow κ r u
/-- what holds of the PROGRAM that is told -/
def PInv (κ : CE) : Prop := (0 ≤ (pI κ 0).toInt ∧ (pI κ 0).toInt ≤ 2) ∧ (0 ≤ (pI κ 1).toInt ∧ (pI κ 1).toInt ≤ 12) ∧ (0 ≤ (pI κ 2).toInt ∧ (pI κ 2).toInt ≤ 4) ∧
  (∀ j : Nat, (j : Int) < (pI κ 2).toInt → 0 ≤ (pA κ 0 j).toInt ∧ (pA κ 0 j).toInt < (pI κ 1).toInt) ∧
  (∀ j : Nat, (j : Int) < (pI κ 0).toInt → ∃ r u, pQ κ 0 j = some r ∧ IsRow κ r u) ∧
  (∀ j : Nat, (j : Int) < (pI κ 1).toInt → ∃ a t, pQ κ 1 j = some a ∧ IsStep κ a t) ∧
  ∀ j r : Nat, (pQ κ 0 j = some r → r ∈ kL κ ∧ ∃ v, kf κ r = .inr (5, v)) ∧ (pQ κ 1 j = some r → r ∈ kL κ ∧ ∃ v, kf κ r = .inr (9, v))
theorem cpl {κ : CE} {σ : MS} {a : Nat} {e : va_E} (hm : a ∈ kL κ) (he : kf κ a = e) : ∃ k : Nat, (cW κ σ)[k]? = some (a, e) := by
  obtain ⟨k, h⟩ := va_pl_get (X := cF κ σ ++ kX κ) (f := kf κ) hm
  exact ⟨k, by rw [← he]; exact h⟩
theorem PInv.st {κ : CE} (h : PInv κ) {x : Int32} (h0 : 0 ≤ x.toInt) (h1 : x.toInt < (pI κ 1).toInt) : ∃ a t, pQ κ 1 (Int32.toNatClampNeg x) = some a ∧ IsStep κ a t := h.2.2.2.2.2.1 _ (by rw [ti_cl rfl h0]; exact h1)
theorem PInv.rw {κ : CE} (h : PInv κ) {x : Int32} (h0 : 0 ≤ x.toInt) (h1 : x.toInt < (pI κ 0).toInt) : ∃ r u, pQ κ 0 (Int32.toNatClampNeg x) = some r ∧ IsRow κ r u := h.2.2.2.2.1 _ (by rw [ti_cl rfl h0]; exact h1)
theorem PInv.en {κ : CE} (h : PInv κ) {x z : Int32} (e : z = pA κ 0 (Int32.toNatClampNeg x)) (h0 : 0 ≤ x.toInt) (h1 : x.toInt < (pI κ 2).toInt) : 0 ≤ z.toInt ∧ z.toInt < (pI κ 1).toInt := by
  rw [e]; exact h.2.2.2.1 _ (by rw [ti_cl rfl h0]; exact h1)
def loC : Nat → Int := fun k => match k with
  | 1 => 0
  | 7 => 0
  | 12 => 0
  | 18 => 0
  | 25 => -1
  | 26 => 0
  | _ => -2147483648
def hiC : Nat → Int := fun k => match k with
  | 1 => 1000
  | 7 => 4
  | 12 => 40
  | 18 => 12
  | 25 => 11
  | 26 => 12
  | _ => 2147483647
def loD : Nat → Int := fun k => match k with
  | 5 => 0
  | 13 => 0
  | 15 => 0
  | 17 => -1
  | _ => -2147483648
def hiD : Nat → Int := fun k => match k with
  | 5 => 11
  | 13 => 11
  | 15 => 99
  | 17 => 11
  | _ => 2147483647
def lnD : Nat → Nat := fun k => match k with
  | 5 => 4
  | 13 => 12
  | 15 => 12
  | 17 => 12
  | _ => 0
/-- what holds of the class's state between calls and within them: ranges -/
def CInv (σ : MS) : Prop := (∀ p, loC p ≤ (σ.1 p).toInt ∧ (σ.1 p).toInt ≤ hiC p) ∧ ∀ p j, j < lnD p → loD p ≤ (σ.2.1 p j).toInt ∧ (σ.2.1 p j).toInt ≤ hiD p
theorem CInv.sI {σ : MS} {k : Nat} {v : Int32} (h : CInv σ) (hv : loC k ≤ v.toInt ∧ v.toInt ≤ hiC k) : CInv (sI σ k v) := ⟨fun p => by
  show loC p ≤ (upd σ.1 k v p).toInt ∧ (upd σ.1 k v p).toInt ≤ hiC p
  by_cases e : p = k
  · subst e; rw [pk_us]; exact hv
  · rw [pk_un e]; exact h.1 p, h.2⟩
theorem CInv.sA {σ : MS} {k : Nat} {f : Nat → Int32} (h : CInv σ) (hf : ∀ j, j < lnD k → loD k ≤ (f j).toInt ∧ (f j).toInt ≤ hiD k) : CInv (sA σ k f) := ⟨h.1, fun p j hj => by
  show loD p ≤ (va_up σ.2.1 k f p j).toInt ∧ (va_up σ.2.1 k f p j).toInt ≤ hiD p
  by_cases e : p = k
  · subst e
    rw [show va_up σ.2.1 p f p = f from if_pos rfl]; exact hf j hj
  · rw [show va_up σ.2.1 k f p = σ.2.1 p from if_neg e]; exact h.2 p j hj⟩
theorem CInv.sL {σ : MS} {k : Nat} {v : Int64} (h : CInv σ) : CInv (sL σ k v) := h
theorem CInv.sJ {σ : MS} {k : Nat} {f : Nat → Int64} (h : CInv σ) : CInv (sJ σ k f) := h
/-- what the tables say beside the words, of the class: Worker's call of its host's floored -/
def Ey (U : State) : Prop := Ex U ∧ va_Nw (.methodLinkNest RX10 101 yX11_floored "NearEnough") U
theorem Ey.x {U : State} (h : Ey U) : Ex U := h.1
theorem Ey.n {U : State} (h : Ey U) : va_Nw (.methodLinkNest RX10 101 yX11_floored "NearEnough") U := h.2
theorem Ey.same {u U : State} (hvm : u.vm = U.vm) (ha : u.vm.Alike U.vm) (h : Ey u) : Ey U := ⟨Ex.same hvm ha h.1, va_Nw.same rfl hvm h.2⟩
theorem Ey.warm {s U : State} (hW : s.WarmedH U.vm) (h : Ey s) : Ey U := ⟨h.1.warm hW, va_Nw.warmM hW h.2⟩
def wSy (dC : Nat → ClassId) (dI : Nat → Nat → Nat) (ws : va_W) (tys : List (ClassId × FieldType)) (sz : Nat) (U : State) : Prop := U.heap.size = sz ∧ va_P (dC, dI) vwCl ws U.heap ∧ va_K (dC, dI) vwCl tys U ∧ va_D (fun _ => True) ws ∧ Ey U
theorem preSy {s : State} {H : Heap} {dC : Nat → ClassId} {dI : Nat → Nat → Nat} {A : Nat → Prop} {ws : va_W} {tys : List (ClassId × FieldType)} {As : List Value} (hP : va_P (dC, dI) vwCl ws H) (hK : va_K (dC, dI) vwCl tys s) (hD : va_D A ws) (hE : Ey s) : PreS s H (va_Pc As (wSy dC dI ws tys H.size)) As :=
  ⟨fun a U g mk q => by
    obtain ⟨q0, q1, qP, qK, qD, qE⟩ := q
    exact ⟨q0, q1, qP, va_K.moved (u := U) (U := U.calling g mk a) (Vm.Alike.refl U.vm) qK, qD, Ey.same (u := U) (U := U.calling g mk a) rfl (Vm.Alike.refl U.vm) qE⟩,
   fun U hU hW => ⟨rfl, by rw [hU], by rw [hU]; exact hP, va_K.moved hW.alike hK, hD.weaken (fun _ _ _ _ => trivial), hE.warm hW⟩⟩
theorem preVy {s : State} {H : Heap} {dC : Nat → ClassId} {dI : Nat → Nat → Nat} {A : Nat → Prop} {ws : va_W} {tys : List (ClassId × FieldType)} {b : Nat} {As : List Value} (hP : va_P (dC, dI) vwCl ws H) (hK : va_K (dC, dI) vwCl tys s) (hD : va_D A ws) (hE : Ey s) {ci q0 : Nat} {q : vw_C} {fs : List Value} (hc : vwCl[ci]? = some q) (he : ws[q0]? = some (b, .inr (ci, fs))) : PreV s H q.1 b (va_Pc (.ref b :: As) (wSy dC dI ws tys H.size)) As :=
  ⟨(preSy hP hK hD hE).1, va_recv hK hP hc he, (preSy hP hK hD hE).2⟩
theorem cS1 {κ : CE} {σ : MS} {f : Nat → Int32} : (cW κ σ).set 1 (kA κ 1, .inl (kC κ 1, 1000, .inl f)) = cW κ (sA σ 0 f) := rfl
theorem cS2 {κ : CE} {σ : MS} {f : Nat → Int32} : (cW κ σ).set 2 (kA κ 2, .inl (kC κ 2, 4, .inl f)) = cW κ (sA σ 4 f) := rfl
theorem cS3 {κ : CE} {σ : MS} {f : Nat → Int32} : (cW κ σ).set 3 (kA κ 3, .inl (kC κ 3, 4, .inl f)) = cW κ (sA σ 5 f) := rfl
theorem cS4 {κ : CE} {σ : MS} {f : Nat → Int32} : (cW κ σ).set 4 (kA κ 4, .inl (kC κ 4, 4, .inl f)) = cW κ (sA σ 6 f) := rfl
theorem cS5 {κ : CE} {σ : MS} {f : Nat → Int64} : (cW κ σ).set 5 (kA κ 5, .inl (kC κ 5, 4, .inr (.inl f))) = cW κ (sJ σ 9 f) := rfl
theorem cS13 {κ : CE} {σ : MS} {f : Nat → Int32} : (cW κ σ).set 13 (kA κ 13, .inl (kC κ 13, 492, .inl f)) = cW κ (sA σ 10 f) := rfl
theorem cS14 {κ : CE} {σ : MS} {f : Nat → Int32} : (cW κ σ).set 14 (kA κ 14, .inl (kC κ 14, 40, .inl f)) = cW κ (sA σ 11 f) := rfl
theorem cS16 {κ : CE} {σ : MS} {f : Nat → Int32} : (cW κ σ).set 16 (kA κ 16, .inl (kC κ 16, 12, .inl f)) = cW κ (sA σ 13 f) := rfl
theorem cS17 {κ : CE} {σ : MS} {f : Nat → Int32} : (cW κ σ).set 17 (kA κ 17, .inl (kC κ 17, 12, .inl f)) = cW κ (sA σ 14 f) := rfl
theorem cS18 {κ : CE} {σ : MS} {f : Nat → Int32} : (cW κ σ).set 18 (kA κ 18, .inl (kC κ 18, 12, .inl f)) = cW κ (sA σ 15 f) := rfl
theorem cS19 {κ : CE} {σ : MS} {f : Nat → Int32} : (cW κ σ).set 19 (kA κ 19, .inl (kC κ 19, 12, .inl f)) = cW κ (sA σ 16 f) := rfl
theorem cS20 {κ : CE} {σ : MS} {f : Nat → Int32} : (cW κ σ).set 20 (kA κ 20, .inl (kC κ 20, 12, .inl f)) = cW κ (sA σ 17 f) := rfl
theorem cS22 {κ : CE} {σ : MS} {f : Nat → Int64} : (cW κ σ).set 22 (kA κ 22, .inl (kC κ 22, 12, .inr (.inl f))) = cW κ (sJ σ 20 f) := rfl
theorem cS23 {κ : CE} {σ : MS} {f : Nat → Int64} : (cW κ σ).set 23 (kA κ 23, .inl (kC κ 23, 12, .inr (.inl f))) = cW κ (sJ σ 21 f) := rfl
theorem cS25 {κ : CE} {σ : MS} {f : Nat → Int64} : (cW κ σ).set 25 (kA κ 25, .inl (kC κ 25, 492, .inr (.inl f))) = cW κ (sJ σ 27 f) := rfl
theorem cS26 {κ : CE} {σ : MS} {f : Nat → Int64} : (cW κ σ).set 26 (kA κ 26, .inl (kC κ 26, 492, .inr (.inl f))) = cW κ (sJ σ 28 f) := rfl
theorem ne0i {x : Int32} (h : x.toInt ≠ 0) : ¬ x = 0 := fun e => h (by rw [e]; decide)
theorem lmax_ne {y r : Int64} (h : r = if y < 1 then 1 else y) : ¬ r = 0 := fun e => by
  by_cases q : y < 1
  · rw [if_pos q] at h; rw [h] at e; exact absurd e (by decide)
  · rw [if_neg q] at h; rw [← h, e] at q; exact q (by decide)
theorem imin_ok {x y z : Int32} (e : z = if y < x then y else x) : (z.toInt = x.toInt ∨ z.toInt = y.toInt) ∧ z.toInt ≤ x.toInt ∧ z.toInt ≤ y.toInt := by
  have hq : y < x ↔ y.toInt < x.toInt := Int32.lt_iff_toInt_lt
  by_cases q : y < x
  · rw [if_pos q] at e; have := hq.mp q; rw [e]; omega
  · rw [if_neg q] at e; have := Int.not_lt.mp (fun z => q (hq.mpr z)); rw [e]; omega
theorem imax_ok {x y z : Int32} (e : z = if x < y then y else x) : (z.toInt = x.toInt ∨ z.toInt = y.toInt) ∧ x.toInt ≤ z.toInt ∧ y.toInt ≤ z.toInt := by
  have hq : x < y ↔ x.toInt < y.toInt := Int32.lt_iff_toInt_lt
  by_cases q : x < y
  · rw [if_pos q] at e; have := hq.mp q; rw [e]; omega
  · rw [if_neg q] at e; have := Int.not_lt.mp (fun z => q (hq.mpr z)); rw [e]; omega
theorem lneg_iff {x : Int64} : x < 0 ↔ x.toBitVec.msb = true := by
  rw [Int64.lt_iff_toInt_lt, BitVec.msb_eq_toInt]
  have h : x.toBitVec.toInt = x.toInt := rfl
  rw [h, decide_eq_true_eq]
  exact Iff.rfl
theorem lxor_neg {x y z : Int64} (hz : z = x ^^^ y) (hy : 0 ≤ y.toInt) : z < 0 ↔ x < 0 := by
  have h1 : y.toBitVec.msb = false := by
    rw [BitVec.msb_eq_toInt]
    have h : y.toBitVec.toInt = y.toInt := rfl
    rw [h]; exact decide_eq_false (by omega)
  rw [lneg_iff, lneg_iff, hz, Int64.toBitVec_xor, BitVec.msb_xor, h1, Bool.xor_false]
theorem fmod_ok {x y m : Int64} (hm : m = x - x / y * y) (h1 : 1 ≤ y.toInt) (h2 : y.toInt ≤ 6) : (-6 < m.toInt ∧ m.toInt < 6) ∧ (¬ x < 0 → 0 ≤ m.toInt ∧ m.toInt < y.toInt) ∧ (x < 0 → -y.toInt < m.toInt ∧ m.toInt ≤ 0) := by
  have q1 : x.toInt.tmod y.toInt < y.toInt := Int.tmod_lt_of_pos _ (by omega)
  have q2 : -y.toInt < x.toInt.tmod y.toInt := by
    have := Int.lt_tmod_of_pos x.toInt (b := y.toInt) (by omega)
    omega
  have e : m.toInt = x.toInt.tmod y.toInt := by
    have h3 : (x / y).toInt = (x.toInt.tdiv y.toInt).bmod (2 ^ 64) := Int64.toInt_div x y
    have h4 : x.toInt - x.toInt.tdiv y.toInt * y.toInt = x.toInt.tmod y.toInt := by rw [Int.tmod_def, Int.mul_comm]
    rw [hm, Int64.toInt_sub, Int64.toInt_mul, h3, Int.sub_bmod_bmod, ← Int.sub_bmod_bmod, Int.bmod_mul_bmod, Int.sub_bmod_bmod, h4]
    exact Int.bmod_eq_of_le (by omega) (by omega)
  have hx : (x < 0) ↔ x.toInt < 0 := Int64.lt_iff_toInt_lt
  rw [e]
  refine ⟨⟨by omega, by omega⟩, fun h => ⟨?_, q1⟩, fun h => ⟨q2, ?_⟩⟩
  · exact Int.tmod_nonneg _ (Int.not_lt.mp (fun z => h (hx.mpr z)))
  · have h3 : x.toInt < 0 := hx.mp h
    have h4 : (-(-x.toInt)).tmod y.toInt = -((-x.toInt).tmod y.toInt) := Int.neg_tmod ..
    have h5 : 0 ≤ (-x.toInt).tmod y.toInt := Int.tmod_nonneg _ (by omega)
    rw [Int.neg_neg] at h4
    omega
theorem ladd_small {z x y : Int64} (hz : z = x + y) (h1 : -1000 ≤ x.toInt + y.toInt) (h2 : x.toInt + y.toInt ≤ 1000) : z.toInt = x.toInt + y.toInt := by
  rw [hz, Int64.toInt_add]; exact Int.bmod_eq_of_le (by omega) (by omega)
theorem labs_ok {x r : Int64} (h : r = if 0 < x then x else -x) : 0 ≤ r.toInt ∨ r = -9223372036854775808 := by
  have hx : (0 < x) ↔ 0 < x.toInt := Int64.lt_iff_toInt_lt
  by_cases q : 0 < x
  · rw [if_pos q] at h; left; rw [h]; have := hx.mp q; omega
  · rw [if_neg q] at h
    have h3 : x.toInt ≤ 0 := Int.not_lt.mp (fun z => q (hx.mpr z))
    by_cases q : x = -9223372036854775808
    · right; rw [h, q]; decide
    · left
      have h4 := Int64.minValue_le_toInt x
      have h5 : Int64.minValue.toInt = -9223372036854775808 := by decide
      have h6 : x.toInt ≠ -9223372036854775808 := fun z => q (Int64.toInt_inj.mp (by rw [z]; decide))
      rw [h, Int64.toInt_neg]
      have h7 : (-x.toInt).bmod (2 ^ 64) = -x.toInt := Int.bmod_eq_of_le (by omega) (by omega)
      rw [h7]; omega

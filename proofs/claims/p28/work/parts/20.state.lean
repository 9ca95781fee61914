/-! own rows of p28: the reference's state: ints, what the arrays of ints and of longs hold, longs, each by the place of its field -/
abbrev MS : Type := (Nat → Int32) × (Nat → Nat → Int32) × (Nat → Nat → Int64) × (Nat → Int64)
def sI (σ : MS) (k : Nat) (v : Int32) : MS := (upd σ.1 k v, σ.2.1, σ.2.2.1, σ.2.2.2)
def sA (σ : MS) (k : Nat) (f : Nat → Int32) : MS := (σ.1, va_up σ.2.1 k f, σ.2.2.1, σ.2.2.2)
def sJ (σ : MS) (k : Nat) (f : Nat → Int64) : MS := (σ.1, σ.2.1, va_up σ.2.2.1 k f, σ.2.2.2)
def sL (σ : MS) (k : Nat) (v : Int64) : MS := (σ.1, σ.2.1, σ.2.2.1, vp_updL σ.2.2.2 k v)
def mF (ad : Nat → Nat) (σ : MS) : List Value := [.ref (ad 0), .ref (ad 1), .int (σ.1 2), .int (σ.1 3), .int (σ.1 4), .int (σ.1 5), .int (σ.1 6), .int (σ.1 7), .int (σ.1 8), .int (σ.1 9), .long (σ.2.2.2 10), .ref (ad 11), .ref (ad 12), .ref (ad 13), .ref (ad 14), .ref (ad 15), .ref (ad 16), .ref (ad 17), .ref (ad 18), .ref (ad 19), .ref (ad 20), .ref (ad 21), .ref (ad 22), .ref (ad 23), .ref (ad 24), .ref (ad 25), .ref (ad 26), .ref (ad 27), .ref (ad 28), .int (σ.1 29), .int (σ.1 30), .ref (ad 31), .ref (ad 32), .ref (ad 33), .ref (ad 34), .ref (ad 35), .ref (ad 36), .ref (ad 37), .ref (ad 38), .int (σ.1 39), .int (σ.1 40), .ref (ad 41), .ref (ad 42), .ref (ad 43), .ref (ad 44), .long (σ.2.2.2 45), .long (σ.2.2.2 46), .ref (ad 47), .long (σ.2.2.2 48), .int (σ.1 49), .ref (ad 50), .ref (ad 51), .ref (ad 52), .int (σ.1 53), .ref (ad 54), .ref (ad 55), .ref (ad 56), .ref (ad 57), .int (σ.1 58)]
def mW (h : Nat) (ad : Nat → Nat) (cl : Nat → ClassId) (σ : MS) : va_W := [(h, .inr (12, mF ad σ)), (ad 0, .inl (cl 0, 1020, .inl (σ.2.1 0))), (ad 1, .inl (cl 1, 1000, .inl (σ.2.1 1))), (ad 11, .inl (cl 11, 2, .inl (σ.2.1 11))), (ad 12, .inl (cl 12, 2, .inl (σ.2.1 12))), (ad 13, .inl (cl 13, 2, .inl (σ.2.1 13))), (ad 14, .inl (cl 14, 4, .inl (σ.2.1 14))), (ad 15, .inl (cl 15, 4, .inl (σ.2.1 15))), (ad 16, .inl (cl 16, 4, .inl (σ.2.1 16))), (ad 17, .inl (cl 17, 24, .inl (σ.2.1 17))), (ad 18, .inl (cl 18, 24, .inl (σ.2.1 18))), (ad 19, .inl (cl 19, 24, .inl (σ.2.1 19))), (ad 20, .inl (cl 20, 24, .inl (σ.2.1 20))), (ad 21, .inl (cl 21, 24, .inl (σ.2.1 21))), (ad 22, .inl (cl 22, 8, .inl (σ.2.1 22))), (ad 23, .inl (cl 23, 8, .inl (σ.2.1 23))), (ad 24, .inl (cl 24, 8, .inl (σ.2.1 24))), (ad 25, .inl (cl 25, 4, .inr (.inl (σ.2.2.1 25)))), (ad 26, .inl (cl 26, 24, .inr (.inl (σ.2.2.1 26)))), (ad 27, .inl (cl 27, 24, .inr (.inl (σ.2.2.1 27)))), (ad 28, .inl (cl 28, 24, .inr (.inl (σ.2.2.1 28)))), (ad 31, .inl (cl 31, 480, .inl (σ.2.1 31))), (ad 32, .inl (cl 32, 12, .inl (σ.2.1 32))), (ad 33, .inl (cl 33, 12, .inl (σ.2.1 33))), (ad 34, .inl (cl 34, 12, .inl (σ.2.1 34))), (ad 35, .inl (cl 35, 12, .inl (σ.2.1 35))), (ad 36, .inl (cl 36, 12, .inl (σ.2.1 36))), (ad 37, .inl (cl 37, 12, .inl (σ.2.1 37))), (ad 38, .inl (cl 38, 40, .inl (σ.2.1 38))), (ad 41, .inl (cl 41, 12, .inr (.inl (σ.2.2.1 41)))), (ad 42, .inl (cl 42, 12, .inr (.inl (σ.2.2.1 42)))), (ad 43, .inl (cl 43, 12, .inr (.inl (σ.2.2.1 43)))), (ad 44, .inl (cl 44, 12, .inr (.inl (σ.2.2.1 44)))), (ad 47, .inl (cl 47, 4096, .inr (.inl (σ.2.2.1 47)))), (ad 50, .inl (cl 50, 4, .inl (σ.2.1 50))), (ad 51, .inl (cl 51, 4, .inl (σ.2.1 51))), (ad 52, .inl (cl 52, 4, .inl (σ.2.1 52))), (ad 54, .inl (cl 54, 16441, .inl (σ.2.1 54))), (ad 55, .inl (cl 55, 16441, .inl (σ.2.1 55))), (ad 56, .inl (cl 56, 4096, .inl (σ.2.1 56))), (ad 57, .inl (cl 57, 4096, .inl (σ.2.1 57)))]
def mT (cl : Nat → ClassId) : List (ClassId × FieldType) := [(cl 0, .byte), (cl 1, .byte), (cl 11, .int), (cl 12, .int), (cl 13, .int), (cl 14, .int), (cl 15, .int), (cl 16, .int), (cl 17, .int), (cl 18, .int), (cl 19, .int), (cl 20, .int), (cl 21, .int), (cl 22, .int), (cl 23, .int), (cl 24, .int), (cl 25, .long), (cl 26, .long), (cl 27, .long), (cl 28, .long), (cl 31, .int), (cl 32, .int), (cl 33, .int), (cl 34, .int), (cl 35, .int), (cl 36, .int), (cl 37, .int), (cl 38, .boolean), (cl 41, .long), (cl 42, .long), (cl 43, .long), (cl 44, .long), (cl 47, .long), (cl 50, .int), (cl 51, .int), (cl 52, .int), (cl 54, .int), (cl 55, .int), (cl 56, .int), (cl 57, .int)]
/-- two states that differ at most at these fields -/
def eqx (ps : List Nat) (τ σ : MS) : Prop := ∀ q, q ∉ ps → τ.1 q = σ.1 q ∧ τ.2.1 q = σ.2.1 q ∧ τ.2.2.1 q = σ.2.2.1 q ∧ τ.2.2.2 q = σ.2.2.2 q
theorem eqx.rf {ps : List Nat} {σ : MS} : eqx ps σ σ := fun _ _ => ⟨rfl, rfl, rfl, rfl⟩
theorem eqx.tr {ps qs : List Nat} {a b c : MS} (h : eqx ps a b) (h2 : eqx qs b c) (hs : ∀ q, q ∈ ps → q ∈ qs) : eqx qs a c := fun q hq => by
  have h1 := h q (fun z => hq (hs q z))
  have h3 := h2 q hq
  exact ⟨h1.1.trans h3.1, h1.2.1.trans h3.2.1, h1.2.2.1.trans h3.2.2.1, h1.2.2.2.trans h3.2.2.2⟩
theorem eqx.mono {ps qs : List Nat} {a b : MS} (h : eqx ps a b) (hs : ∀ q, q ∈ ps → q ∈ qs) : eqx qs a b := fun q hq => h q (fun z => hq (hs q z))
theorem eqx.sI {ps : List Nat} {a b : MS} {k : Nat} {v : Int32} (h : eqx ps a b) (hk : k ∈ ps) : eqx ps (sI a k v) b := fun q hq => by
  have h1 := h q hq
  refine ⟨?_, h1.2⟩
  show upd a.1 k v q = b.1 q
  rw [← h1.1]; exact pk_un (fun e => hq (e ▸ hk))
theorem eqx.sL {ps : List Nat} {a b : MS} {k : Nat} {v : Int64} (h : eqx ps a b) (hk : k ∈ ps) : eqx ps (sL a k v) b := fun q hq => by
  have h1 := h q hq
  refine ⟨h1.1, h1.2.1, h1.2.2.1, ?_⟩
  show vp_updL a.2.2.2 k v q = b.2.2.2 q
  rw [← h1.2.2.2]; exact pk_uLn (fun e => hq (e ▸ hk))
theorem eqx.sA {ps : List Nat} {a b : MS} {k : Nat} {v : Nat → Int32} (h : eqx ps a b) (hk : k ∈ ps) : eqx ps (sA a k v) b := fun q hq => by
  have h1 := h q hq
  refine ⟨h1.1, ?_, h1.2.2⟩
  show va_up a.2.1 k v q = b.2.1 q
  rw [← h1.2.1]; exact if_neg (fun (e : q = k) => hq (e ▸ hk))
theorem eqx.sJ {ps : List Nat} {a b : MS} {k : Nat} {v : Nat → Int64} (h : eqx ps a b) (hk : k ∈ ps) : eqx ps (sJ a k v) b := fun q hq => by
  have h1 := h q hq
  refine ⟨h1.1, h1.2.1, ?_, h1.2.2.2⟩
  show va_up a.2.2.1 k v q = b.2.2.1 q
  rw [← h1.2.2.1]; exact if_neg (fun (e : q = k) => hq (e ▸ hk))
/-- numbers: what is known of an int is known of its toInt -/
theorem ti_add {z x y : Int32} {a b : Int} (hz : z = x + y) (hx : x.toInt = a) (hy : y.toInt = b) (h1 : -2147483648 ≤ a + b) (h2 : a + b ≤ 2147483647) : z.toInt = a + b := by
  rw [hz, Int32.toInt_add, hx, hy]; exact Int.bmod_eq_of_le (by omega) (by omega)
theorem ti_sub {z x y : Int32} {a b : Int} (hz : z = x - y) (hx : x.toInt = a) (hy : y.toInt = b) (h1 : -2147483648 ≤ a - b) (h2 : a - b ≤ 2147483647) : z.toInt = a - b := by
  rw [hz, Int32.toInt_sub, hx, hy]; exact Int.bmod_eq_of_le (by omega) (by omega)
theorem ti_mul {z x y : Int32} {a b : Int} (hz : z = x * y) (hx : x.toInt = a) (hy : y.toInt = b) (h1 : -2147483648 ≤ a * b) (h2 : a * b ≤ 2147483647) : z.toInt = a * b := by
  rw [hz, Int32.toInt_mul, hx, hy]; exact Int.bmod_eq_of_le (by omega) (by omega)
theorem ti_lt {x y : Int32} {a b : Int} (hx : x.toInt = a) (hy : y.toInt = b) (h : x < y) : a < b := by rw [← hx, ← hy]; exact Int32.lt_iff_toInt_lt.mp h
theorem ti_nlt {x y : Int32} {a b : Int} (hx : x.toInt = a) (hy : y.toInt = b) (h : ¬ x < y) : b ≤ a := by rw [← hx, ← hy]; exact Int.not_lt.mp (fun z => h (Int32.lt_iff_toInt_lt.mpr z))
theorem ti_le {x y : Int32} {a b : Int} (hx : x.toInt = a) (hy : y.toInt = b) (h : x ≤ y) : a ≤ b := by rw [← hx, ← hy]; exact Int32.le_iff_toInt_le.mp h
theorem ti_nle {x y : Int32} {a b : Int} (hx : x.toInt = a) (hy : y.toInt = b) (h : ¬ x ≤ y) : b < a := by rw [← hx, ← hy]; exact Int.not_le.mp (fun z => h (Int32.le_iff_toInt_le.mpr z))
theorem ti_eq {x y : Int32} {a b : Int} (hx : x.toInt = a) (hy : y.toInt = b) (h : x = y) : a = b := by rw [← hx, ← hy, h]
theorem ti_ne {x y : Int32} {a b : Int} (hx : x.toInt = a) (hy : y.toInt = b) (h : ¬ x = y) : a ≠ b := fun e => h (Int32.toInt_inj.mp (by rw [hx, hy]; exact e))
theorem iincp {z v k j : Int32} (h : z = v + k) (hk : j = k) : v + j = z := by rw [hk, h]
theorem dcd {p : Prop} [h : Decidable p] (e : decide p = true) : p := of_decide_eq_true e
theorem ti_inx {x : Int32} {n : Nat} (h0 : 0 ≤ x.toInt) (h1 : x.toInt < (n : Int)) : vp_in x n := vp_in_iff.mpr ⟨h0, h1⟩
theorem cl_lt {x : Int32} {n : Nat} (h0 : 0 ≤ x.toInt) (h1 : x.toInt < (n : Int)) : x.toNatClampNeg < n := by
  have h : x.toNatClampNeg = x.toInt.toNat := rfl
  rw [h]; omega
theorem ti_in {x : Int32} {a : Int} {n : Nat} (hx : x.toInt = a) (h0 : 0 ≤ a) (h1 : a < n) : vp_in x n := vp_in_iff.mpr (by rw [hx]; exact ⟨h0, h1⟩)
theorem ti_cl {x : Int32} {a : Int} (hx : x.toInt = a) (h0 : 0 ≤ a) : ((x.toNatClampNeg : Nat) : Int) = a := by
  have h : x.toNatClampNeg = x.toInt.toNat := rfl
  rw [h, hx]; omega
theorem wS0 {h : Nat} {ad : Nat → Nat} {cl : Nat → ClassId} {σ : MS} {f : Nat → Int32} : (mW h ad cl σ).set 1 (ad 0, .inl (cl 0, 1020, .inl f)) = mW h ad cl (sA σ 0 f) := rfl
theorem wS1 {h : Nat} {ad : Nat → Nat} {cl : Nat → ClassId} {σ : MS} {f : Nat → Int32} : (mW h ad cl σ).set 2 (ad 1, .inl (cl 1, 1000, .inl f)) = mW h ad cl (sA σ 1 f) := rfl
theorem wS11 {h : Nat} {ad : Nat → Nat} {cl : Nat → ClassId} {σ : MS} {f : Nat → Int32} : (mW h ad cl σ).set 3 (ad 11, .inl (cl 11, 2, .inl f)) = mW h ad cl (sA σ 11 f) := rfl
theorem wS12 {h : Nat} {ad : Nat → Nat} {cl : Nat → ClassId} {σ : MS} {f : Nat → Int32} : (mW h ad cl σ).set 4 (ad 12, .inl (cl 12, 2, .inl f)) = mW h ad cl (sA σ 12 f) := rfl
theorem wS13 {h : Nat} {ad : Nat → Nat} {cl : Nat → ClassId} {σ : MS} {f : Nat → Int32} : (mW h ad cl σ).set 5 (ad 13, .inl (cl 13, 2, .inl f)) = mW h ad cl (sA σ 13 f) := rfl
theorem wS14 {h : Nat} {ad : Nat → Nat} {cl : Nat → ClassId} {σ : MS} {f : Nat → Int32} : (mW h ad cl σ).set 6 (ad 14, .inl (cl 14, 4, .inl f)) = mW h ad cl (sA σ 14 f) := rfl
theorem wS15 {h : Nat} {ad : Nat → Nat} {cl : Nat → ClassId} {σ : MS} {f : Nat → Int32} : (mW h ad cl σ).set 7 (ad 15, .inl (cl 15, 4, .inl f)) = mW h ad cl (sA σ 15 f) := rfl
theorem wS16 {h : Nat} {ad : Nat → Nat} {cl : Nat → ClassId} {σ : MS} {f : Nat → Int32} : (mW h ad cl σ).set 8 (ad 16, .inl (cl 16, 4, .inl f)) = mW h ad cl (sA σ 16 f) := rfl
theorem wS17 {h : Nat} {ad : Nat → Nat} {cl : Nat → ClassId} {σ : MS} {f : Nat → Int32} : (mW h ad cl σ).set 9 (ad 17, .inl (cl 17, 24, .inl f)) = mW h ad cl (sA σ 17 f) := rfl
theorem wS18 {h : Nat} {ad : Nat → Nat} {cl : Nat → ClassId} {σ : MS} {f : Nat → Int32} : (mW h ad cl σ).set 10 (ad 18, .inl (cl 18, 24, .inl f)) = mW h ad cl (sA σ 18 f) := rfl
theorem wS19 {h : Nat} {ad : Nat → Nat} {cl : Nat → ClassId} {σ : MS} {f : Nat → Int32} : (mW h ad cl σ).set 11 (ad 19, .inl (cl 19, 24, .inl f)) = mW h ad cl (sA σ 19 f) := rfl
theorem wS20 {h : Nat} {ad : Nat → Nat} {cl : Nat → ClassId} {σ : MS} {f : Nat → Int32} : (mW h ad cl σ).set 12 (ad 20, .inl (cl 20, 24, .inl f)) = mW h ad cl (sA σ 20 f) := rfl
theorem wS21 {h : Nat} {ad : Nat → Nat} {cl : Nat → ClassId} {σ : MS} {f : Nat → Int32} : (mW h ad cl σ).set 13 (ad 21, .inl (cl 21, 24, .inl f)) = mW h ad cl (sA σ 21 f) := rfl
theorem wS22 {h : Nat} {ad : Nat → Nat} {cl : Nat → ClassId} {σ : MS} {f : Nat → Int32} : (mW h ad cl σ).set 14 (ad 22, .inl (cl 22, 8, .inl f)) = mW h ad cl (sA σ 22 f) := rfl
theorem wS23 {h : Nat} {ad : Nat → Nat} {cl : Nat → ClassId} {σ : MS} {f : Nat → Int32} : (mW h ad cl σ).set 15 (ad 23, .inl (cl 23, 8, .inl f)) = mW h ad cl (sA σ 23 f) := rfl
theorem wS24 {h : Nat} {ad : Nat → Nat} {cl : Nat → ClassId} {σ : MS} {f : Nat → Int32} : (mW h ad cl σ).set 16 (ad 24, .inl (cl 24, 8, .inl f)) = mW h ad cl (sA σ 24 f) := rfl
theorem wS25 {h : Nat} {ad : Nat → Nat} {cl : Nat → ClassId} {σ : MS} {f : Nat → Int64} : (mW h ad cl σ).set 17 (ad 25, .inl (cl 25, 4, .inr (.inl f))) = mW h ad cl (sJ σ 25 f) := rfl
theorem wS26 {h : Nat} {ad : Nat → Nat} {cl : Nat → ClassId} {σ : MS} {f : Nat → Int64} : (mW h ad cl σ).set 18 (ad 26, .inl (cl 26, 24, .inr (.inl f))) = mW h ad cl (sJ σ 26 f) := rfl
theorem wS27 {h : Nat} {ad : Nat → Nat} {cl : Nat → ClassId} {σ : MS} {f : Nat → Int64} : (mW h ad cl σ).set 19 (ad 27, .inl (cl 27, 24, .inr (.inl f))) = mW h ad cl (sJ σ 27 f) := rfl
theorem wS28 {h : Nat} {ad : Nat → Nat} {cl : Nat → ClassId} {σ : MS} {f : Nat → Int64} : (mW h ad cl σ).set 20 (ad 28, .inl (cl 28, 24, .inr (.inl f))) = mW h ad cl (sJ σ 28 f) := rfl
theorem wS31 {h : Nat} {ad : Nat → Nat} {cl : Nat → ClassId} {σ : MS} {f : Nat → Int32} : (mW h ad cl σ).set 21 (ad 31, .inl (cl 31, 480, .inl f)) = mW h ad cl (sA σ 31 f) := rfl
theorem wS32 {h : Nat} {ad : Nat → Nat} {cl : Nat → ClassId} {σ : MS} {f : Nat → Int32} : (mW h ad cl σ).set 22 (ad 32, .inl (cl 32, 12, .inl f)) = mW h ad cl (sA σ 32 f) := rfl
theorem wS33 {h : Nat} {ad : Nat → Nat} {cl : Nat → ClassId} {σ : MS} {f : Nat → Int32} : (mW h ad cl σ).set 23 (ad 33, .inl (cl 33, 12, .inl f)) = mW h ad cl (sA σ 33 f) := rfl
theorem wS34 {h : Nat} {ad : Nat → Nat} {cl : Nat → ClassId} {σ : MS} {f : Nat → Int32} : (mW h ad cl σ).set 24 (ad 34, .inl (cl 34, 12, .inl f)) = mW h ad cl (sA σ 34 f) := rfl
theorem wS35 {h : Nat} {ad : Nat → Nat} {cl : Nat → ClassId} {σ : MS} {f : Nat → Int32} : (mW h ad cl σ).set 25 (ad 35, .inl (cl 35, 12, .inl f)) = mW h ad cl (sA σ 35 f) := rfl
theorem wS36 {h : Nat} {ad : Nat → Nat} {cl : Nat → ClassId} {σ : MS} {f : Nat → Int32} : (mW h ad cl σ).set 26 (ad 36, .inl (cl 36, 12, .inl f)) = mW h ad cl (sA σ 36 f) := rfl
theorem wS37 {h : Nat} {ad : Nat → Nat} {cl : Nat → ClassId} {σ : MS} {f : Nat → Int32} : (mW h ad cl σ).set 27 (ad 37, .inl (cl 37, 12, .inl f)) = mW h ad cl (sA σ 37 f) := rfl
theorem wS38 {h : Nat} {ad : Nat → Nat} {cl : Nat → ClassId} {σ : MS} {f : Nat → Int32} : (mW h ad cl σ).set 28 (ad 38, .inl (cl 38, 40, .inl f)) = mW h ad cl (sA σ 38 f) := rfl
theorem wS41 {h : Nat} {ad : Nat → Nat} {cl : Nat → ClassId} {σ : MS} {f : Nat → Int64} : (mW h ad cl σ).set 29 (ad 41, .inl (cl 41, 12, .inr (.inl f))) = mW h ad cl (sJ σ 41 f) := rfl
theorem wS42 {h : Nat} {ad : Nat → Nat} {cl : Nat → ClassId} {σ : MS} {f : Nat → Int64} : (mW h ad cl σ).set 30 (ad 42, .inl (cl 42, 12, .inr (.inl f))) = mW h ad cl (sJ σ 42 f) := rfl
theorem wS43 {h : Nat} {ad : Nat → Nat} {cl : Nat → ClassId} {σ : MS} {f : Nat → Int64} : (mW h ad cl σ).set 31 (ad 43, .inl (cl 43, 12, .inr (.inl f))) = mW h ad cl (sJ σ 43 f) := rfl
theorem wS44 {h : Nat} {ad : Nat → Nat} {cl : Nat → ClassId} {σ : MS} {f : Nat → Int64} : (mW h ad cl σ).set 32 (ad 44, .inl (cl 44, 12, .inr (.inl f))) = mW h ad cl (sJ σ 44 f) := rfl
theorem wS47 {h : Nat} {ad : Nat → Nat} {cl : Nat → ClassId} {σ : MS} {f : Nat → Int64} : (mW h ad cl σ).set 33 (ad 47, .inl (cl 47, 4096, .inr (.inl f))) = mW h ad cl (sJ σ 47 f) := rfl
theorem wS50 {h : Nat} {ad : Nat → Nat} {cl : Nat → ClassId} {σ : MS} {f : Nat → Int32} : (mW h ad cl σ).set 34 (ad 50, .inl (cl 50, 4, .inl f)) = mW h ad cl (sA σ 50 f) := rfl
theorem wS51 {h : Nat} {ad : Nat → Nat} {cl : Nat → ClassId} {σ : MS} {f : Nat → Int32} : (mW h ad cl σ).set 35 (ad 51, .inl (cl 51, 4, .inl f)) = mW h ad cl (sA σ 51 f) := rfl
theorem wS52 {h : Nat} {ad : Nat → Nat} {cl : Nat → ClassId} {σ : MS} {f : Nat → Int32} : (mW h ad cl σ).set 36 (ad 52, .inl (cl 52, 4, .inl f)) = mW h ad cl (sA σ 52 f) := rfl
theorem wS54 {h : Nat} {ad : Nat → Nat} {cl : Nat → ClassId} {σ : MS} {f : Nat → Int32} : (mW h ad cl σ).set 37 (ad 54, .inl (cl 54, 16441, .inl f)) = mW h ad cl (sA σ 54 f) := rfl
theorem wS55 {h : Nat} {ad : Nat → Nat} {cl : Nat → ClassId} {σ : MS} {f : Nat → Int32} : (mW h ad cl σ).set 38 (ad 55, .inl (cl 55, 16441, .inl f)) = mW h ad cl (sA σ 55 f) := rfl
theorem wS56 {h : Nat} {ad : Nat → Nat} {cl : Nat → ClassId} {σ : MS} {f : Nat → Int32} : (mW h ad cl σ).set 39 (ad 56, .inl (cl 56, 4096, .inl f)) = mW h ad cl (sA σ 56 f) := rfl
theorem wS57 {h : Nat} {ad : Nat → Nat} {cl : Nat → ClassId} {σ : MS} {f : Nat → Int32} : (mW h ad cl σ).set 40 (ad 57, .inl (cl 57, 4096, .inl f)) = mW h ad cl (sA σ 57 f) := rfl
def loI : Nat → Int := fun k => match k with
  | 2 => 0
  | 3 => 0
  | 4 => 0
  | 6 => 0
  | 7 => 0
  | 8 => 0
  | 29 => 0
  | 30 => 0
  | 39 => 0
  | 40 => 0
  | 53 => 0
  | 58 => 0
  | _ => -2147483648
def hiI : Nat → Int := fun k => match k with
  | 2 => 1000
  | 3 => 1000
  | 4 => 7
  | 6 => 1000
  | 7 => 1000
  | 8 => 5
  | 29 => 1
  | 30 => 1
  | 39 => 40
  | 40 => 12
  | 53 => 4
  | 58 => 99999
  | _ => 2147483647
def loA : Nat → Int := fun k => match k with
  | 11 => 0
  | 12 => 0
  | 13 => 0
  | 14 => 0
  | 17 => 0
  | 18 => -1
  | 19 => -99
  | 20 => -1
  | 21 => -1
  | 22 => -1
  | 33 => 0
  | 34 => 0
  | 35 => 0
  | 37 => -1
  | 51 => 0
  | _ => -2147483648
def hiA : Nat → Int := fun k => match k with
  | 11 => 2
  | 12 => 12
  | 13 => 4
  | 14 => 6
  | 17 => 7
  | 18 => 11
  | 19 => 99
  | 20 => 99
  | 21 => 11
  | 22 => 11
  | 33 => 11
  | 34 => 6
  | 35 => 99
  | 37 => 11
  | 51 => 11
  | _ => 2147483647
def lnA : Nat → Nat := fun k => match k with
  | 0 => 1020
  | 1 => 1000
  | 11 => 2
  | 12 => 2
  | 13 => 2
  | 14 => 4
  | 15 => 4
  | 16 => 4
  | 17 => 24
  | 18 => 24
  | 19 => 24
  | 20 => 24
  | 21 => 24
  | 22 => 8
  | 23 => 8
  | 24 => 8
  | 25 => 4
  | 26 => 24
  | 27 => 24
  | 28 => 24
  | 31 => 480
  | 32 => 12
  | 33 => 12
  | 34 => 12
  | 35 => 12
  | 36 => 12
  | 37 => 12
  | 38 => 40
  | 41 => 12
  | 42 => 12
  | 43 => 12
  | 44 => 12
  | 47 => 4096
  | 50 => 4
  | 51 => 4
  | 52 => 4
  | 54 => 16441
  | 55 => 16441
  | 56 => 4096
  | 57 => 4096
  | _ => 0
/-- what holds of the reference's state at every call: ranges of its ints, of what its arrays hold -/
def Inv (σ : MS) : Prop := (∀ p, loI p ≤ (σ.1 p).toInt ∧ (σ.1 p).toInt ≤ hiI p) ∧ ∀ p j, j < lnA p → loA p ≤ (σ.2.1 p j).toInt ∧ (σ.2.1 p j).toInt ≤ hiA p
theorem Inv.sI {σ : MS} {k : Nat} {v : Int32} (h : Inv σ) (hv : loI k ≤ v.toInt ∧ v.toInt ≤ hiI k) : Inv (sI σ k v) := ⟨fun p => by
  show loI p ≤ (upd σ.1 k v p).toInt ∧ (upd σ.1 k v p).toInt ≤ hiI p
  by_cases e : p = k
  · subst e; rw [pk_us]; exact hv
  · rw [pk_un e]; exact h.1 p, h.2⟩
theorem Inv.sA {σ : MS} {k i : Nat} {v : Int32} (h : Inv σ) (hv : loA k ≤ v.toInt ∧ v.toInt ≤ hiA k) : Inv (sA σ k (upd (σ.2.1 k) i v)) := ⟨h.1, fun p j hj => by
  show loA p ≤ (va_up σ.2.1 k (upd (σ.2.1 k) i v) p j).toInt ∧ (va_up σ.2.1 k (upd (σ.2.1 k) i v) p j).toInt ≤ hiA p
  by_cases e : p = k
  · subst e
    rw [show va_up σ.2.1 p (upd (σ.2.1 p) i v) p = upd (σ.2.1 p) i v from if_pos rfl]
    by_cases e2 : j = i
    · subst e2; rw [pk_us]; exact hv
    · rw [pk_un e2]; exact h.2 p j hj
  · rw [show va_up σ.2.1 k (upd (σ.2.1 k) i v) p = σ.2.1 p from if_neg e]; exact h.2 p j hj⟩
theorem Inv.sL {σ : MS} {k : Nat} {v : Int64} (h : Inv σ) : Inv (sL σ k v) := h
theorem Inv.sJ {σ : MS} {k : Nat} {f : Nat → Int64} (h : Inv σ) : Inv (sJ σ k f) := h
theorem Inv.any (x : Int32) : (-2147483648 : Int) ≤ x.toInt ∧ x.toInt ≤ 2147483647 := ⟨Int32.minValue_le_toInt x, by have := Int32.toInt_lt x; omega⟩
theorem eqx.eq {ps : List Nat} {a b c : MS} (h : a = b) (h2 : eqx ps b c) : eqx ps a c := by rw [h]; exact h2
theorem tA {σ : MS} {k q : Nat} {f : Nat → Int32} (h : q ≠ k) : (sA σ k f).2.1 q = σ.2.1 q := if_neg h
theorem tAe {σ : MS} {k : Nat} {f : Nat → Int32} : (sA σ k f).2.1 k = f := if_pos rfl
theorem tJ {σ : MS} {k q : Nat} {f : Nat → Int64} : (sJ σ k f).2.1 q = σ.2.1 q := rfl
theorem tL {σ : MS} {k q : Nat} {v : Int64} : (sL σ k v).2.1 q = σ.2.1 q := rfl
theorem tI {σ : MS} {k q : Nat} {v : Int32} : (sI σ k v).2.1 q = σ.2.1 q := rfl
/-- no FAULT in τ: none in σ -/
def Mo (τ σ : MS) : Prop := (τ.1 4).toInt = 0 → (σ.1 4).toInt = 0
theorem Mo.eq {a b c : MS} (h : a = b) (h2 : Mo b c) : Mo a c := by rw [h]; exact h2
theorem Mo.rf {σ : MS} : Mo σ σ := fun h => h
/-- the reader's place: goes on within the text -/
def Es (σ : MS) : Prop := (σ.1 7).toInt ≤ (σ.1 3).toInt
/-- the reader has gone on, or stands at the end -/
def Pg (τ σ : MS) : Prop := (σ.1 7).toInt ≤ (τ.1 7).toInt ∧ ((τ.1 8).toInt = 0 ∨ (σ.1 7).toInt < (τ.1 7).toInt)
def Lx (τ σ : MS) : Prop := τ.1 3 = σ.1 3 ∧ (σ.1 7).toInt ≤ (τ.1 7).toInt ∧ (τ.1 7).toInt ≤ (σ.1 3).toInt ∧ (((τ.1 8).toInt = 0 ∨ (σ.1 7).toInt < (τ.1 7).toInt) ∨ (τ.1 8 = σ.1 8 ∧ τ.1 7 = σ.1 7))
theorem Lx.rf {σ : MS} (h : Es σ) : Lx σ σ := ⟨rfl, Int.le_refl _, h, Or.inr ⟨rfl, rfl⟩⟩
theorem Lx.tr {a b c : MS} (h : Lx a b) (h2 : Lx b c) : Lx a c := ⟨h.1.trans h2.1, Int.le_trans h2.2.1 h.2.1, by rw [← h2.1]; exact h.2.2.1, by
  have q1 := h.2.1
  have q2 := h2.2.1
  rcases h.2.2.2 with (e | e) | ⟨e, e'⟩
  · exact Or.inl (Or.inl e)
  · exact Or.inl (Or.inr (by omega))
  · rcases h2.2.2.2 with (k | k) | ⟨k, k'⟩
    · exact Or.inl (Or.inl (by rw [e]; exact k))
    · exact Or.inl (Or.inr (by rw [e']; exact k))
    · exact Or.inr ⟨e.trans k, e'.trans k'⟩⟩
theorem Lx.es {τ σ : MS} (h : Lx τ σ) : Es τ := by show _ ≤ (τ.1 3).toInt; rw [h.1]; exact h.2.2.1
theorem Lx.eq {a b c : MS} (h : a = b) (h2 : Lx b c) : Lx a c := by rw [h]; exact h2
theorem Lx.of {ps : List Nat} {τ σ : MS} (h : eqx ps τ σ) (he : Es σ) (h3 : 3 ∉ ps) (h7 : 7 ∉ ps) (h8 : 8 ∉ ps) : Lx τ σ := ⟨(h 3 h3).1, by rw [(h 7 h7).1]; exact Int.le_refl _, by rw [(h 7 h7).1]; exact he, Or.inr ⟨(h 8 h8).1, (h 7 h7).1⟩⟩
theorem Pg.tr {a b c : MS} (p : Pg b c) (l : Lx a b) : Pg a c := by
  have q1 := l.2.1
  have q2 := p.1
  refine ⟨Int.le_trans p.1 l.2.1, ?_⟩
  rcases l.2.2.2 with (e | e) | ⟨e, e'⟩
  · exact Or.inl e
  · exact Or.inr (by omega)
  · rcases p.2 with k | k
    · exact Or.inl (by rw [e]; exact k)
    · exact Or.inr (by omega)
theorem Pg.l {a b c : MS} (p : Pg a b) (l : Lx b c) : Pg a c := by
  have q1 := l.2.1
  have q2 := p.1
  exact ⟨by omega, by rcases p.2 with k | k; exact Or.inl k; exact Or.inr (by omega)⟩
theorem Mo.tr {a b c : MS} (h : Mo a b) (h2 : Mo b c) : Mo a c := fun h9 => h2 (h h9)
theorem Mo.of {ps : List Nat} {τ σ : MS} (h : eqx ps τ σ) (hp : 4 ∉ ps) : Mo τ σ := fun h9 => by rw [← (h 4 hp).1]; exact h9
/-- what holds if there is no FAULT -/
def When (τ : MS) (P : Prop) : Prop := (τ.1 4).toInt = 0 → P
def sgn (σ : MS) (k : Int32) : Int32 := if k < σ.1 3 then (σ.2.1 1 k.toNatClampNeg) &&& 255 else 0
theorem i2l_ne {z : Int32} {y : Int64} (hy : y = z.toInt64) (h : z.toInt ≠ 0) : ¬ y = 0 := fun e => h (by
  have h1 : y.toInt = z.toInt := by rw [hy]; exact Int32.toInt_toInt64 z
  rw [← h1, e]; decide)
theorem nbz {z : Int32} (h : z.toInt = 0 ∨ z.toInt = 1) : narrow .boolean (.int z) = .int z := by
  rcases h with h | h
  · have e : z = 0 := Int32.toInt_inj.mp (by rw [h]; decide)
    rw [e]; rfl
  · have e : z = 1 := Int32.toInt_inj.mp (by rw [h]; decide)
    rw [e]; rfl
theorem ti_and255 {z x : Int32} (hz : z = x &&& 255) : 0 ≤ z.toInt ∧ z.toInt ≤ 255 := by
  have h := pk_and x (m := 255) 8 (by decide)
  have h2 : x.toBitVec.toNat % 2 ^ 8 < 256 := Nat.mod_lt _ (by decide)
  rw [hz, h, nI_toInt (by omega)]; omega
theorem Inv_sA1 {σ : MS} {k : Nat} {f : Nat → Int32} (h : Inv σ) (hf : ∀ j, j < lnA k → loA k ≤ (f j).toInt ∧ (f j).toInt ≤ hiA k) : Inv (sA σ k f) := ⟨h.1, fun p j hj => by
  show loA p ≤ (va_up σ.2.1 k f p j).toInt ∧ (va_up σ.2.1 k f p j).toInt ≤ hiA p
  by_cases e : p = k
  · subst e
    rw [show va_up σ.2.1 p f p = f from if_pos rfl]; exact hf j hj
  · rw [show va_up σ.2.1 k f p = σ.2.1 p from if_neg e]; exact h.2 p j hj⟩
theorem rgu {f : Nat → Int32} {n i : Nat} {v : Int32} {lo hi : Int} (h : ∀ j, j < n → lo ≤ (f j).toInt ∧ (f j).toInt ≤ hi) (hv : lo ≤ v.toInt ∧ v.toInt ≤ hi) : ∀ j, j < n → lo ≤ (upd f i v j).toInt ∧ (upd f i v j).toInt ≤ hi := fun j hj => by
  by_cases e : j = i
  · subst e; rw [pk_us]; exact hv
  · rw [pk_un e]; exact h j hj
section ZY
variable {p : Program} {l : Launch} {e : Env} {R : Room} {s : State} {m : MethodId} {args : Array Value} {below : List Frame} {meth : Method} {c : Code} {H : Heap} {locs : List Loc} {cells slots : Nat} {Q : State → Prop} {pc : Nat} {ls : Array Slot} {rest st0 : List Value} {a : Array Value} {A0 : Nat → Prop} {H0 : Heap} {mc ms : Nat} {dC : Nat → ClassId} {dI : Nat → Nat → Nat}
theorem free_all {ws : va_W} (hD : va_D A0 ws) (hS : va_S A0 H0 H locs) (hA : ∀ q, H0.size ≤ q → A0 q) : ∀ q, va_A ws H.size q → A0 q := by
  intro q h
  rcases h with ⟨k, e, h⟩ | h
  · exact hD.2 k (q, e) h
  · exact hA q (Nat.le_trans hS.1 h)
/-- a call that takes the whole world and gives it back -/
theorem zy_i {S : Type} {post : Int32 → S → Prop} {ws : va_W} {w1 : S → va_W}
    (hr : va_Run p l e R s m args below meth c H locs cells slots mc ms (F0 m pc ls st0) rest (va_Qi post (fun u => wEn dC dI (va_A ws H.size) (w1 u) []) (va_A ws H.size) a) (va_A ws H.size))
    (hD : va_D A0 ws) (hS : va_S A0 H0 H locs) (hA : ∀ q, H0.size ≤ q → A0 q)
    (kk : ∀ (r : Int32) (u : S) (H1 : Heap) (locs1 : List Loc), post r u → va_P (dC, dI) vwCl (w1 u) H1 → va_D A0 (w1 u) → va_S A0 H0 H1 locs1 → W p l e R s m args below meth c H1 locs1 (cells + mc) (slots + ms) Q (F0 m (pc + 3) ls (.int r :: rest))) : W p l e R s m args below meth c H locs cells slots Q (F0 m pc ls st0) := by
  have hF := free_all hD hS hA
  refine va_calli hr hS (fun q _ h => hF q h) hF (fun r u t H1 locs1 ht hvm hw hB hz hk hS1 => ?_)
  obtain ⟨hP1, -, hD1⟩ := hB
  rw [ht] at hP1
  exact kk r u H1 locs1 hw hP1 (hD1.weaken (fun _ q _ h => hF q.1 h)) hS1
theorem zy_l {S : Type} {post : Int64 → S → Prop} {ws : va_W} {w1 : S → va_W}
    (hr : va_Run p l e R s m args below meth c H locs cells slots mc ms (F0 m pc ls st0) rest (va_Ql post (fun u => wEn dC dI (va_A ws H.size) (w1 u) []) (va_A ws H.size) a) (va_A ws H.size))
    (hD : va_D A0 ws) (hS : va_S A0 H0 H locs) (hA : ∀ q, H0.size ≤ q → A0 q)
    (kk : ∀ (r : Int64) (u : S) (H1 : Heap) (locs1 : List Loc), post r u → va_P (dC, dI) vwCl (w1 u) H1 → va_D A0 (w1 u) → va_S A0 H0 H1 locs1 → W p l e R s m args below meth c H1 locs1 (cells + mc) (slots + ms) Q (F0 m (pc + 3) ls (.long r :: rest))) : W p l e R s m args below meth c H locs cells slots Q (F0 m pc ls st0) := by
  have hF := free_all hD hS hA
  refine va_calll hr hS (fun q _ h => hF q h) hF (fun r u t H1 locs1 ht hvm hw hB hz hk hS1 => ?_)
  obtain ⟨hP1, -, hD1⟩ := hB
  rw [ht] at hP1
  exact kk r u H1 locs1 hw hP1 (hD1.weaken (fun _ q _ h => hF q.1 h)) hS1
theorem zy_v {S : Type} {post : S → Prop} {ws : va_W} {w1 : S → va_W}
    (hr : va_Run p l e R s m args below meth c H locs cells slots mc ms (F0 m pc ls st0) rest (va_Qv post (fun u => wEn dC dI (va_A ws H.size) (w1 u) []) (va_A ws H.size) a) (va_A ws H.size))
    (hD : va_D A0 ws) (hS : va_S A0 H0 H locs) (hA : ∀ q, H0.size ≤ q → A0 q)
    (kk : ∀ (u : S) (H1 : Heap) (locs1 : List Loc), post u → va_P (dC, dI) vwCl (w1 u) H1 → va_D A0 (w1 u) → va_S A0 H0 H1 locs1 → W p l e R s m args below meth c H1 locs1 (cells + mc) (slots + ms) Q (F0 m (pc + 3) ls rest)) : W p l e R s m args below meth c H locs cells slots Q (F0 m pc ls st0) := by
  have hF := free_all hD hS hA
  refine va_callv hr hS (fun q _ h => hF q h) hF (fun u t H1 locs1 ht hvm hw hB hz hk hS1 => ?_)
  obtain ⟨hP1, -, hD1⟩ := hB
  rw [ht] at hP1
  exact kk u H1 locs1 hw hP1 (hD1.weaken (fun _ q _ h => hF q.1 h)) hS1
/-- a call that needs no world and leaves all -/
theorem zs_i {post : Int32 → Prop} {ws : va_W}
    (hr : va_Run p l e R s m args below meth c H locs cells slots mc ms (F0 m pc ls st0) rest (va_Qi (fun (r : Int32) (_ : Unit) => post r) (fun _ => wEn dC dI (va_A [] H.size) [] []) (va_A [] H.size) a) (va_A [] H.size))
    (hP : va_P (dC, dI) vwCl ws H) (hD : va_D A0 ws) (hS : va_S A0 H0 H locs) (hA : ∀ q, H0.size ≤ q → A0 q)
    (kk : ∀ (r : Int32) (H1 : Heap) (locs1 : List Loc), post r → va_P (dC, dI) vwCl ws H1 → va_D A0 ws → va_S A0 H0 H1 locs1 → W p l e R s m args below meth c H1 locs1 (cells + mc) (slots + ms) Q (F0 m (pc + 3) ls (.int r :: rest))) : W p l e R s m args below meth c H locs cells slots Q (F0 m pc ls st0) := by
  have hF : ∀ q, va_A [] H.size q → H.size ≤ q := fun q h => by
    rcases h with ⟨k, e, h⟩ | h
    · simp at h
    · exact h
  refine va_calli hr hS (fun q h1 h => absurd (hF q h) (by omega)) (fun q h => hA q (Nat.le_trans hS.1 (hF q h))) (fun r u t H1 locs1 ht hvm hw hB hz hk hS1 => ?_)
  exact kk r H1 locs1 hw (hP.kept (fun k x hx => hk x.1 ((hP k x hx).lt) (fun h => absurd (hF _ h) (by have := (hP k x hx).lt; omega)))) hD hS1
theorem zs_l {post : Int64 → Prop} {ws : va_W}
    (hr : va_Run p l e R s m args below meth c H locs cells slots mc ms (F0 m pc ls st0) rest (va_Ql (fun (r : Int64) (_ : Unit) => post r) (fun _ => wEn dC dI (va_A [] H.size) [] []) (va_A [] H.size) a) (va_A [] H.size))
    (hP : va_P (dC, dI) vwCl ws H) (hD : va_D A0 ws) (hS : va_S A0 H0 H locs) (hA : ∀ q, H0.size ≤ q → A0 q)
    (kk : ∀ (r : Int64) (H1 : Heap) (locs1 : List Loc), post r → va_P (dC, dI) vwCl ws H1 → va_D A0 ws → va_S A0 H0 H1 locs1 → W p l e R s m args below meth c H1 locs1 (cells + mc) (slots + ms) Q (F0 m (pc + 3) ls (.long r :: rest))) : W p l e R s m args below meth c H locs cells slots Q (F0 m pc ls st0) := by
  have hF : ∀ q, va_A [] H.size q → H.size ≤ q := fun q h => by
    rcases h with ⟨k, e, h⟩ | h
    · simp at h
    · exact h
  refine va_calll hr hS (fun q h1 h => absurd (hF q h) (by omega)) (fun q h => hA q (Nat.le_trans hS.1 (hF q h))) (fun r u t H1 locs1 ht hvm hw hB hz hk hS1 => ?_)
  exact kk r H1 locs1 hw (hP.kept (fun k x hx => hk x.1 ((hP k x hx).lt) (fun h => absurd (hF _ h) (by have := (hP k x hx).lt; omega)))) hD hS1
theorem zQ {g : JFrame} (h : ∀ Q' : State → Prop, Q' = Q → W p l e R s m args below meth c H locs cells slots Q' g) : W p l e R s m args below meth c H locs cells slots Q g := h Q rfl
theorem empP {D : va_G} {cl : List vw_C} : va_P D cl [] H := fun k q h => by simp at h
theorem empD : va_D A0 [] := ⟨fun i j p q h => by simp at h, fun k q h => by simp at h⟩
end ZY

/-! own rows of p28: FRONT and PLAN, once they are made -/
def ky (κ : CE) (X : va_W) : CE := (κ.1, κ.2.1, κ.2.2.1, κ.2.2.2.1, X, κ.2.2.2.2.2)
def FR (κ : CE) (a : Nat) (φ : MS) : va_W := [(a, .inr (1, [.ref (kA κ 6), .ref (kA κ 15), .ref (kA κ 21), .int (φ.1 1), .ref (kA κ 27), .ref (kA κ 28), .int (φ.1 2)])), (kA κ 27, .inl (kC κ 27, 4096, .inr (.inl (φ.2.2.1 3)))), (kA κ 28, .inl (kC κ 28, 4096, .inl (φ.2.1 4)))]
def PL (κ : CE) (a : Nat) (φ : MS) : va_W := [(a, .inr (2, [.ref (kA κ 6), .ref (kA κ 12), .ref (kA κ 15), .ref (kA κ 21), .ref (kA κ 24), .int (φ.1 1), .ref (kA κ 29), .ref (kA κ 30)])), (kA κ 29, .inl (kC κ 29, 16040, .inl (φ.2.1 3))), (kA κ 30, .inl (kC κ 30, 16441, .inl (φ.2.1 4)))]
def tT (κ : CE) : List (ClassId × FieldType) := cT κ ++ [(kC κ 27, .long), (kC κ 28, .int), (kC κ 29, .int), (kC κ 30, .int)]
def xW (κ : CE) (X : va_W) (σ : MS) : va_W := (cF κ σ ++ X) ++ va_pl (kL κ) (kf κ)
theorem xcP {D : va_G} {cl : List vw_C} {κ : CE} {X : va_W} {σ : MS} {H : Heap} (h : va_P D cl (xW κ X σ) H) : va_P D cl (cW (ky κ X) σ) H := h
theorem xcD {A : Nat → Prop} {κ : CE} {X : va_W} {σ : MS} (h : va_D A (xW κ X σ)) : va_D A (cW (ky κ X) σ) := h
theorem cxP {D : va_G} {cl : List vw_C} {κ : CE} {X : va_W} {σ : MS} {H : Heap} (h : va_P D cl (cW (ky κ X) σ) H) : va_P D cl (xW κ X σ) H := h
theorem cxD {A : Nat → Prop} {κ : CE} {X : va_W} {σ : MS} (h : va_D A (cW (ky κ X) σ)) : va_D A (xW κ X σ) := h
theorem xpl {κ : CE} {X : va_W} {σ : MS} {a : Nat} {e : va_E} (hm : a ∈ kL κ) (he : kf κ a = e) : ∃ k : Nat, (xW κ X σ)[k]? = some (a, e) := by
  obtain ⟨k, h⟩ := va_pl_get (X := cF κ σ ++ X) (f := kf κ) hm
  exact ⟨k, by rw [← he]; exact h⟩
def FInv (φ : MS) : Prop := 0 ≤ (φ.1 2).toInt ∧ (φ.1 2).toInt ≤ 4096
def GInv (_ : MS) : Prop := True
theorem nneg {x : Int32} (h : 0 ≤ x.toInt) : ¬ x < 0 := fun e => by
  have h1 : x.toInt < (0 : Int32).toInt := Int32.lt_iff_toInt_lt.mp e
  have h2 : (0 : Int32).toInt = 0 := by decide
  omega
theorem clsum {x y : Int32} {n : Nat} (hx : 0 ≤ x.toInt) (hy : 0 ≤ y.toInt) (h : x.toInt + y.toInt ≤ n) : x.toNatClampNeg + y.toNatClampNeg ≤ n := by
  have h1 := ti_cl (x := x) rfl hx
  have h2 := ti_cl (x := y) rfl hy
  omega
theorem shr1 {z x : Int32} (h : z = x >>> ((1 : Int32) &&& 31)) (h0 : 0 ≤ x.toInt) : z.toInt = x.toInt / 2 := by
  have e : (1 : Int32) &&& 31 = 1 := by decide
  rw [e] at h
  have h1 : (x >>> (1 : Int32)).toBitVec = x.toBitVec.sshiftRight 1 := by
    rw [Int32.toBitVec_shiftRight]
    show x.toBitVec.sshiftRight (BitVec.toNat _) = _
    rw [show BitVec.toNat ((1 : Int32).toBitVec.smod 32) = 1 by decide]
  have h2 : (x >>> (1 : Int32)).toInt = (x >>> (1 : Int32)).toBitVec.toInt := rfl
  rw [h, h2, h1, BitVec.toInt_sshiftRight, Int.shiftRight_eq_div_pow]
  rfl
theorem l2i_in {y : Int64} {z : Int32} (hz : z = y.toInt32) (h : 0 ≤ y.toInt ∨ y = -9223372036854775808) (h1 : ¬ (401 : Int64) ≤ y) : 0 ≤ z.toInt ∧ z.toInt ≤ 400 := by
  rcases h with h | h
  · have h2 : ¬ (401 : Int64).toInt ≤ y.toInt := fun e => h1 (Int64.le_iff_toInt_le.mpr e)
    have h3 : (401 : Int64).toInt = 401 := by decide
    have := l2i_val hz h (by omega)
    omega
  · rw [hz, h]; decide

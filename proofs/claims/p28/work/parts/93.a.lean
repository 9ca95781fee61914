/-! own rows of p28: what was read is told -/
section VQR
variable {p : Program} {l : Launch} {e : Env} {R : Room} {s : State} {m : MethodId} {args : Array Value} {below : List Frame} {meth : Method} {c : Code} {H : Heap} {locs : List Loc} {cells slots : Nat} {Q : State → Prop}
variable {cc : ByteArray} {pc : Nat} {ls : Array Slot} {rest : List Value} {D : va_G} {cl : List vw_C} {A : Nat → Prop} {a : Nat} {tys : List (ClassId × FieldType)} {ws : va_W} {H0 : Heap}
theorem va_astqr (hexec : p.tables.exec = Jvm.exec) (hb : c.code = cc) (hK : va_K D cl tys s) (hP : va_P D cl ws H) (hD : va_D A ws) (hS : va_S A H0 H locs) (q0 t0 ci : Nat) {cA : ClassId} {r : vw_C} {n : Nat} {o : Option Nat} {f : Nat → Option Nat} (ha : ws[q0]? = some (a, .inl (cA, n, .inr (.inr (.inr (.inr f)))))) (ht : tys[t0]? = some (cA, .object r.1)) (hv : ∀ v, o = some v → ∃ (qk : Nat) (vs : List Value), ws[qk]? = some (v, .inr (ci, vs))) (hc : cl[ci]? = some r) {i : Int32} (hin : vp_in i n) (hdg : decode cc pc = .ok (.aastore, 1))
    (kk : ∀ (H1 : Heap) (locs1 : List Loc), va_P D cl (ws.set q0 (a, .inl (cA, n, .inr (.inr (.inr (.inr (va_up f i.toNatClampNeg o))))))) H1 → va_D A (ws.set q0 (a, .inl (cA, n, .inr (.inr (.inr (.inr (va_up f i.toNatClampNeg o))))))) → va_S A H0 H1 locs1 → W p l e R s m args below meth c H1 locs1 cells slots Q (F0 m (pc + 1) ls rest)) : W p l e R s m args below meth c H locs cells slots Q (F0 m pc ls (va_rf o :: .int i :: .ref a :: rest)) := by
  cases o with
  | none => exact va_astqN hexec hb hK hP hD hS q0 t0 ha ht hin hdg kk
  | some v =>
    obtain ⟨qk, vs, h⟩ := hv v rfl
    exact va_astq hexec hb hK hP hD hS q0 t0 qk ci ha ht h hc hin hdg kk
end VQR
def bF (κ κr : CE) : va_W := [(kA κ 6, .inr (3, [.ref (kA κ 7), .ref (kA κ 8), .ref (kA κ 9), .ref (kA κ 10), .ref (kA κ 11), .int (pI κ 0), .int (pI κ 1), .int (pI κ 2)])), (kA κ 7, .inl (kC κ 7, 2, .inr (.inr (.inr (.inr (pQ κ 0)))))), (kA κ 8, .inl (kC κ 8, 12, .inr (.inr (.inr (.inr (pQ κ 1)))))), (kA κ 9, .inl (kC κ 9, 4, .inl (pA κ 0))), (kA κ 10, .inl (kC κ 10, 4, .inl (pA κ 1))), (kA κ 11, .inl (kC κ 11, 4, .inl (pA κ 2))),
  (kA κr 3, .inr (3, [.ref (kA κr 4), .ref (kA κr 5), .ref (kA κr 6), .ref (kA κr 7), .ref (kA κr 8), .int (pI κr 0), .int (pI κr 1), .int (pI κr 2)])), (kA κr 4, .inl (kC κr 4, 2, .inr (.inr (.inr (.inr (pQ κr 0)))))), (kA κr 5, .inl (kC κr 5, 12, .inr (.inr (.inr (.inr (pQ κr 1)))))), (kA κr 6, .inl (kC κr 6, 4, .inl (pA κr 0))), (kA κr 7, .inl (kC κr 7, 4, .inl (pA κr 1))), (kA κr 8, .inl (kC κr 8, 4, .inl (pA κr 2)))]
def bW (κ κr : CE) : va_W := bF κ κr ++ va_pl (kL κr) (kf κr)
def bT (κ κr : CE) : List (ClassId × FieldType) := [(kC κ 7, .object RX5), (kC κ 8, .object RX9), (kC κ 9, .int), (kC κ 10, .int), (kC κ 11, .int), (kC κr 4, .object RX5), (kC κr 5, .object RX9), (kC κr 6, .int), (kC κr 7, .int), (kC κr 8, .int)]
theorem bpl {κ κr : CE} {a : Nat} {e : va_E} (hm : a ∈ kL κr) (he : kf κr a = e) : ∃ k : Nat, (bW κ κr)[k]? = some (a, e) := by
  obtain ⟨k, h⟩ := va_pl_get (X := bF κ κr) (f := kf κr) hm
  exact ⟨k, by rw [← he]; exact h⟩
theorem bq0 {κ κr : CE} (h : PInv κr) (j : Nat) : ∀ v, pQ κr 0 j = some v → ∃ (qk : Nat) (vs : List Value), (bW κ κr)[qk]? = some (v, .inr (5, vs)) := fun v e => by
  obtain ⟨h1, vs, h2⟩ := (h.2.2.2.2.2.2 j v).1 e
  obtain ⟨k, hk⟩ := bpl (κ := κ) h1 h2
  exact ⟨k, vs, hk⟩
theorem bq1 {κ κr : CE} (h : PInv κr) (j : Nat) : ∀ v, pQ κr 1 j = some v → ∃ (qk : Nat) (vs : List Value), (bW κ κr)[qk]? = some (v, .inr (9, vs)) := fun v e => by
  obtain ⟨h1, vs, h2⟩ := (h.2.2.2.2.2.2 j v).2 e
  obtain ⟨k, hk⟩ := bpl (κ := κ) h1 h2
  exact ⟨k, vs, hk⟩
def BeOk (κr : CE) (u : PS) : Prop := (u.1 0 = pI κr 0 ∧ u.1 1 = pI κr 1 ∧ u.1 2 = pI κr 2) ∧ (∀ j, j < 4 → u.2.1 0 j = pA κr 0 j ∧ u.2.1 1 j = pA κr 1 j ∧ u.2.1 2 j = pA κr 2 j) ∧ (∀ j, j < 2 → u.2.2 0 j = pQ κr 0 j) ∧ ∀ j, j < 12 → u.2.2 1 j = pQ κr 1 j
theorem stq_ {q f : Nat → Option Nat} {v z : Int32} (h : ∀ j : Nat, (j : Int) < v.toInt → q j = f j) (hv : 0 ≤ v.toInt) (hz : z.toInt = v.toInt + 1) : ∀ j : Nat, (j : Int) < z.toInt → va_up q (Int32.toNatClampNeg v) (f (Int32.toNatClampNeg v)) j = f j := fun j hj => by
  by_cases e : j = Int32.toNatClampNeg v
  · rw [e]; exact va_up_self _ _ _
  · have q0 := ti_cl (x := v) rfl hv
    rw [va_up_ne _ _ e]; exact h j (by omega)
theorem cpy4 {f g : Nat → Int32} {j : Nat} (h : j < 4) : va_cpy f g (Int32.toNatClampNeg 0) (Int32.toNatClampNeg 0) (Int32.toNatClampNeg 4) j = f j := by
  have e1 : Int32.toNatClampNeg 0 = 0 := by decide
  have e2 : Int32.toNatClampNeg 4 = 4 := by decide
  unfold va_cpy
  rw [e1, e2, if_pos ⟨Nat.zero_le _, by omega⟩]
  rw [show 0 + (j - 0) = j by omega]

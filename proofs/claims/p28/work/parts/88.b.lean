/-! own rows of p28: the PROGRAM that is read grows -/
def kw (κ : CE) (a : Nat) (e : va_E) : CE := (κ.1, κ.2.1, κ.2.2.1, κ.2.2.2.1, κ.2.2.2.2.1, κ.2.2.2.2.2.1, va_up (kf κ) a e)
def ku (κ : CE) (a : Nat) (t : TT) : CE := kw κ a (.inr (9, stV t))
def kp (κ : CE) (q : Nat) : CE := (κ.1, κ.2.1, κ.2.2.1, κ.2.2.2.1, κ.2.2.2.2.1, kL κ ++ [q], kf κ)
def kI (κ : CE) (i : Nat) (v : Int32) : CE := (κ.1, κ.2.1, κ.2.2.1, (upd (pI κ) i v, pA κ, pQ κ), κ.2.2.2.2)
def kQ (κ : CE) (j : Nat) (f : Nat → Option Nat) : CE := (κ.1, κ.2.1, κ.2.2.1, (pI κ, pA κ, va_up (pQ κ) j f), κ.2.2.2.2)
def kM (κ : CE) (j : Nat) (f : Nat → Int32) : CE := (κ.1, κ.2.1, κ.2.2.1, (pI κ, va_up (pA κ) j f, pQ κ), κ.2.2.2.2)
theorem kf_self {κ : CE} {a : Nat} {e : va_E} : kf (kw κ a e) a = e := va_up_self _ _ _
theorem kf_ne {κ : CE} {a r : Nat} {e : va_E} (h : r ≠ a) : kf (kw κ a e) r = kf κ r := va_up_ne _ _ h
theorem n95 {v : List Value} {t : TT} : (Sum.inr (9, stV t) : va_E) ≠ .inr (5, v) := fun h => by
  have := (Prod.mk.inj (Sum.inr.inj h)).1
  omega
theorem IsRow.dn {κ : CE} {a r : Nat} {t : TT} {u : RT} (h : IsRow (ku κ a t) r u) : r ≠ a ∧ IsRow κ r u := by
  by_cases e : r = a
  · subst e
    have h2 : kf (kw κ r (.inr (9, stV t))) r = .inr (5, rwV u) := h.2.1
    rw [kf_self] at h2
    exact absurd h2 n95
  · exact ⟨e, h.1, by rw [← h.2.1]; exact (kf_ne e).symm, h.2.2⟩
theorem IsRow.up {κ : CE} {a r : Nat} {e : va_E} {u : RT} (h : IsRow κ r u) (hr : r ≠ a) : IsRow (kw κ a e) r u := ⟨h.1, by rw [kf_ne hr]; exact h.2.1, h.2.2⟩
theorem IsRow.push {κ : CE} {q r : Nat} {e : va_E} {u : RT} (h : IsRow κ r u) (hq : q ∉ kL κ) : IsRow (kw (kp κ q) q e) r u := by
  have hr : r ≠ q := fun z => hq (z ▸ h.1)
  exact ⟨List.mem_append_left _ h.1, by rw [kf_ne hr]; exact h.2.1, h.2.2⟩
theorem IsStep.push {κ : CE} {q a : Nat} {e : va_E} {t : TT} (h : IsStep κ a t) (hq : q ∉ kL κ) : IsStep (kw (kp κ q) q e) a t := by
  have hr : a ≠ q := fun z => hq (z ▸ h.1)
  exact ⟨List.mem_append_left _ h.1, by rw [kf_ne hr]; exact h.2.1, h.2.2.1, fun r e => by
    obtain ⟨u, hu⟩ := h.2.2.2 r e
    exact ⟨u, hu.push hq⟩⟩
theorem PInv.push {κ : CE} {q : Nat} {e : va_E} (h : PInv κ) (hq : q ∉ kL κ) : PInv (kw (kp κ q) q e) :=
  ⟨h.1, h.2.1, h.2.2.1, h.2.2.2.1, fun j hj => by
    obtain ⟨r, u, h1, h2⟩ := h.2.2.2.2.1 j hj
    exact ⟨r, u, h1, h2.push hq⟩, fun j hj => by
    obtain ⟨r, u, h1, h2⟩ := h.2.2.2.2.2 j hj
    exact ⟨r, u, h1, h2.push hq⟩⟩
theorem rW_push {κ : CE} {σ : MS} {q : Nat} {e : va_E} (hq : q ∉ kL κ) : rW κ σ ++ [(q, e)] = rW (kw (kp κ q) q e) σ := by
  show (rF κ σ ++ va_pl (kL κ) (kf κ)) ++ [(q, e)] = rF κ σ ++ va_pl (kL κ ++ [q]) (va_up (kf κ) q e)
  rw [List.append_assoc, va_pl_push hq]
theorem rW_kw {κ : CE} {a k : Nat} {e e' : va_E} {σ : MS} {A : Nat → Prop} (hD : va_D A (rW (kw κ a e) σ)) (ha : a ∈ kL κ) (hk : (rW (kw κ a e) σ)[k]? = some (a, e)) : (rW (kw κ a e) σ).set k (a, e') = rW (kw κ a e') σ := by
  have h := va_pl_set (X := rF κ σ) (L := kL κ) (f := va_up (kf κ) a e) (e := e') hD ha (by rw [va_up_self]; exact hk)
  refine h.trans ?_
  show rF κ σ ++ va_pl (kL κ) (va_up (va_up (kf κ) a e) a e') = rF κ σ ++ va_pl (kL κ) (va_up (kf κ) a e')
  rw [show va_up (va_up (kf κ) a e) a e' = va_up (kf κ) a e' from funext (fun j => by unfold va_up; by_cases h : j = a <;> simp [h])]
theorem IsRow.ki {κ κ' : CE} {r : Nat} {u : RT} (h : IsRow κ r u) (e1 : kL κ' = kL κ) (e2 : kf κ' = kf κ) : IsRow κ' r u := ⟨by rw [e1]; exact h.1, by rw [e2]; exact h.2.1, h.2.2⟩
theorem IsStep.ki {κ κ' : CE} {a : Nat} {t : TT} (h : IsStep κ a t) (e1 : kL κ' = kL κ) (e2 : kf κ' = kf κ) (hp : (pI κ 1).toInt ≤ (pI κ' 1).toInt) : IsStep κ' a t := ⟨by rw [e1]; exact h.1, by rw [e2]; exact h.2.1, fun j h1 h2 => by
  have := h.2.2.1 j h1 h2
  omega, fun r e => by
  obtain ⟨u, hu⟩ := h.2.2.2 r e
  exact ⟨u, hu.ki e1 e2⟩⟩
theorem cln {x : Int32} {n : Nat} (h : 0 ≤ x.toInt) (e : (n : Int) = x.toInt) : n = x.toNatClampNeg := by
  have := ti_cl (x := x) rfl h
  omega
/-- a STEP more -/
theorem PInv.addS {κ : CE} {a : Nat} {t : TT} {z : Int32} (h : PInv κ) (ha : a ∈ kL κ) (hf : kf κ a = .inr (9, stV t)) (hr : ∀ j, 1 ≤ j → j ≤ 4 → 0 ≤ (t.1 j).toInt ∧ (t.1 j).toInt ≤ (pI κ 1).toInt) (hw : ∀ r, t.2.2 = some r → ∃ u, IsRow κ r u) (hz : z.toInt = (pI κ 1).toInt + 1) (hc : (pI κ 1).toInt < 12) : PInv (kI (kQ κ 1 (va_up (pQ κ 1) (Int32.toNatClampNeg (pI κ 1)) (some a))) 1 z) := by
  obtain ⟨h0, h1, h2, h3, h4, h5⟩ := h
  have e1 : pI (kI (kQ κ 1 (va_up (pQ κ 1) (Int32.toNatClampNeg (pI κ 1)) (some a))) 1 z) 1 = z := rfl
  refine ⟨h0, by rw [e1]; omega, h2, fun j hj => ?_, fun j hj => ?_, fun j hj => ?_⟩
  · have := h3 j hj
    rw [e1]; exact ⟨this.1, by have := this.2; show (pA κ 0 j).toInt < z.toInt; omega⟩
  · obtain ⟨r, u, q1, q2⟩ := h4 j hj
    exact ⟨r, u, q1, q2.ki rfl rfl⟩
  · rw [e1] at hj
    by_cases e : j = Int32.toNatClampNeg (pI κ 1)
    · refine ⟨a, t, ?_, ha, hf, fun k k1 k2 => ?_, fun r e => ?_⟩
      · show va_up (pQ κ 1) (Int32.toNatClampNeg (pI κ 1)) (some a) j = some a
        rw [e]; exact va_up_self _ _ _
      · have := hr k k1 k2
        rw [e1]; exact ⟨this.1, by omega⟩
      · obtain ⟨u, hu⟩ := hw r e
        exact ⟨u, hu.ki rfl rfl⟩
    · have q0 := ti_cl (x := pI κ 1) rfl h1.1
      obtain ⟨r, u, q1, q2⟩ := h5 j (by omega)
      refine ⟨r, u, ?_, q2.ki rfl rfl (by rw [e1]; omega)⟩
      show va_up (pQ κ 1) (Int32.toNatClampNeg (pI κ 1)) (some a) j = some r
      rw [va_up_ne _ _ e]; exact q1
/-- a ROW more -/
theorem PInv.addR {κ : CE} {a : Nat} {u : RT} {z : Int32} (h : PInv κ) (ha : IsRow κ a u) (hz : z.toInt = (pI κ 0).toInt + 1) (hc : (pI κ 0).toInt < 2) : PInv (kI (kQ κ 0 (va_up (pQ κ 0) (Int32.toNatClampNeg (pI κ 0)) (some a))) 0 z) := by
  obtain ⟨h0, h1, h2, h3, h4, h5⟩ := h
  have e1 : pI (kI (kQ κ 0 (va_up (pQ κ 0) (Int32.toNatClampNeg (pI κ 0)) (some a))) 0 z) 0 = z := rfl
  refine ⟨by rw [e1]; omega, h1, h2, h3, fun j hj => ?_, fun j hj => ?_⟩
  · rw [e1] at hj
    by_cases e : j = Int32.toNatClampNeg (pI κ 0)
    · refine ⟨a, u, ?_, ha.ki rfl rfl⟩
      show va_up (pQ κ 0) (Int32.toNatClampNeg (pI κ 0)) (some a) j = some a
      rw [e]; exact va_up_self _ _ _
    · have q0 := ti_cl (x := pI κ 0) rfl h0.1
      obtain ⟨r, v, q1, q2⟩ := h4 j (by omega)
      refine ⟨r, v, ?_, q2.ki rfl rfl⟩
      show va_up (pQ κ 0) (Int32.toNatClampNeg (pI κ 0)) (some a) j = some r
      rw [va_up_ne _ _ e]; exact q1
  · obtain ⟨r, v, q1, q2⟩ := h5 j hj
    exact ⟨r, v, q1, q2.ki rfl rfl (Int.le_refl _)⟩
/-- an END more -/
theorem PInv.addE {κ : CE} {x z : Int32} {f g : Nat → Int32} (h : PInv κ) (hx : 0 ≤ x.toInt ∧ x.toInt < (pI κ 1).toInt) (hz : z.toInt = (pI κ 2).toInt + 1) (hc : (pI κ 2).toInt < 4) : PInv (kI (kM (kM (kM κ 0 (upd (pA κ 0) (Int32.toNatClampNeg (pI κ 2)) x)) 1 f) 2 g) 2 z) := by
  obtain ⟨h0, h1, h2, h3, h4, h5⟩ := h
  refine ⟨h0, h1, (show 0 ≤ z.toInt ∧ z.toInt ≤ 4 by omega), fun j hj => ?_, fun j hj => ?_, fun j hj => ?_⟩
  · have hj : (j : Int) < z.toInt := hj
    show 0 ≤ (upd (pA κ 0) (Int32.toNatClampNeg (pI κ 2)) x j).toInt ∧ (upd (pA κ 0) (Int32.toNatClampNeg (pI κ 2)) x j).toInt < (pI κ 1).toInt
    by_cases e : j = Int32.toNatClampNeg (pI κ 2)
    · rw [e, pk_us]; exact hx
    · have q0 := ti_cl (x := pI κ 2) rfl h2.1
      rw [pk_un e]; exact h3 j (by omega)
  · obtain ⟨r, v, q1, q2⟩ := h4 j hj
    exact ⟨r, v, q1, q2.ki rfl rfl⟩
  · obtain ⟨r, v, q1, q2⟩ := h5 j hj
    exact ⟨r, v, q1, q2.ki rfl rfl (Int.le_refl _)⟩

section V9
variable {p : Program} {l : Launch} {e : Env} {R : Room} {s : State} {m : MethodId} {args : Array Value} {below : List Frame} {meth : Method} {c : Code} {H : Heap} {locs : List Loc} {cells slots : Nat} {Q : State → Prop}
variable {y : MethodName} {bytes cc : ByteArray} {maxL nL mc ms n index : Nat} {ret : Option FieldType} {ws : List Cond} {rm : Room} {Pc : Array Value → State → Prop} {Qc : Array Value → State → Outcome → State → Prop} {free : Addr → Prop} {Ts : List Cond} {own C : String} {b : Addr} {As rest : List Value} {g : JFrame}
/-- a call with more on the stack below it -/
theorem va_runV_9 (S : CallFix p m c cc nL s args Ts own) (hM : Met l y ws rm Pc Qc mc ms free) (cw : CallW R s args own C index y bytes maxL ret ws rm mc ms n) (h9 : 9 + (maxL + 11) + rm.locals ≤ R.locals) (hp : PreV s H C b Pc As)
    (hg : g.method = m) (hn : As.length = n) (hsize : g.locals.size = nL) (hstack : g.stack = As.reverse ++ .ref b :: rest) (hW : 2 * g.monitorRoom + (rest.map fun v => v.category).sum ≤ 9) (hdg : decode cc g.pc = .ok (.invokevirtual index, 3)) (hf : cells + mc ≤ R.cells ∧ slots + ms ≤ R.slots) :
    va_Run p l e R s m args below meth c H locs cells slots mc ms g rest (Qc (Value.ref b :: As).toArray) (free) := by
  have hK : Back l R p e below s args y 3 9 (PreOf R mc ms Pc) (PostOf Qc mc ms free) := by
    obtain ⟨hrc, hrs, hfr, hlo, hws, hcw, -, hini, -⟩ := cw.1
    exact back_of (bytes := bytes) (maxL := maxL) (ret := ret) hM hp.1 hrc hrs hfr h9 hws hcw (fun a' U hW => word_at hW (Or.inl (by first | rfl | simp [Cond.onTables, Cond.keeps, Cond.steady])) hini)
  obtain ⟨⟨-, -, -, -, -, -, hcode, -, hy, hlen, hl⟩, hin, hse⟩ := cw
  obtain ⟨hx, hb, hml, ho, -⟩ := S
  obtain ⟨-, ⟨cellB, hcB, hoB, hclB⟩, hPc⟩ := hp
  intro T hT X
  obtain ⟨v, vm₁, ⟨U', l2, c2, s2⟩, hW₁, X', ⟨g', mk, t, L, e1, e2, hq, h1, hL, h2, h3⟩, st⟩ := callV X hx (C := C) (bytes := bytes) (maxL := maxL) (ret := ret) ho hl hin hse hcode hy hK (by rw [hT]; exact hcB) hoB hclB hg (hsize.trans hml.symm) (argsL := As) (rest := rest) (fun sig h => hn.trans (hlen sig h)) hstack hW (by rw [hb]; exact hdg)
    (fun vm₁ hW₁ => ⟨hf.1, hf.2, hPc (T.setVm vm₁) hT hW₁⟩)
  dsimp only [Pt.U, Pt.locs, Pt.cells, Pt.slots] at X' e1 e2 h1 h2 h3 st
  subst h1; subst h2; subst h3
  exact ⟨v, (T.setVm vm₁).calling g' mk (Value.ref b :: As).toArray, t, U', L, hT, X', hL, e1, e2, hq, st⟩
theorem lv_room_9 {pc : Nat} {ls : Array Slot} {st : List Value} (h : (st.map fun v => v.category).sum ≤ 9) : 2 * (F0 m pc ls rest).monitorRoom + (st.map fun v => v.category).sum ≤ 9 := by
  show 2 * 0 + (st.map fun v => v.category).sum ≤ 9
  omega
end V9
/-! own rows of p28: the PROGRAM that is read grows -/
def kw (κ : CE) (a : Nat) (e : va_E) : CE := (κ.1, κ.2.1, κ.2.2.1, κ.2.2.2.1, κ.2.2.2.2.1, κ.2.2.2.2.2.1, va_up (kf κ) a e)
def ku (κ : CE) (a : Nat) (t : TT) : CE := kw κ a (.inr (9, stV t))
def kv (κ : CE) (a : Nat) (u : RT) : CE := kw κ a (.inr (5, rwV u))
def kp (κ : CE) (q : Nat) : CE := (κ.1, κ.2.1, κ.2.2.1, κ.2.2.2.1, κ.2.2.2.2.1, kL κ ++ [q], kf κ)
def kI (κ : CE) (i : Nat) (v : Int32) : CE := (κ.1, κ.2.1, κ.2.2.1, (upd (pI κ) i v, pA κ, pQ κ), κ.2.2.2.2)
def kQ (κ : CE) (j : Nat) (f : Nat → Option Nat) : CE := (κ.1, κ.2.1, κ.2.2.1, (pI κ, pA κ, va_up (pQ κ) j f), κ.2.2.2.2)
def kM (κ : CE) (j : Nat) (f : Nat → Int32) : CE := (κ.1, κ.2.1, κ.2.2.1, (pI κ, va_up (pA κ) j f, pQ κ), κ.2.2.2.2)
def kN (κ : CE) (i : Nat → Int32) (m : Nat → Nat → Int32) (q : Nat → Nat → Option Nat) : CE := (κ.1, κ.2.1, κ.2.2.1, (i, m, q), κ.2.2.2.2)
theorem kf_self {κ : CE} {a : Nat} {e : va_E} : kf (kw κ a e) a = e := va_up_self _ _ _
theorem kf_ne {κ : CE} {a r : Nat} {e : va_E} (h : r ≠ a) : kf (kw κ a e) r = kf κ r := va_up_ne _ _ h
theorem n95 {v : List Value} {t : TT} : (Sum.inr (9, stV t) : va_E) ≠ .inr (5, v) := fun h => by
  have := (Prod.mk.inj (Sum.inr.inj h)).1
  omega
theorem IsRow.dn {κ : CE} {a r : Nat} {t : TT} {u : RT} (h : IsRow (ku κ a t) r u) : r ≠ a ∧ IsRow κ r u := by
  by_cases e : r = a
  · subst e
    have h2 : kf (kw κ r (.inr (9, stV t))) r = .inr (5, rwV u) := h.2.1
    rw [kf_self] at h2
    exact absurd h2 n95
  · exact ⟨e, h.1, by rw [← h.2.1]; exact (kf_ne e).symm, h.2.2⟩
theorem IsRow.up {κ : CE} {a r : Nat} {e : va_E} {u : RT} (h : IsRow κ r u) (hr : r ≠ a) : IsRow (kw κ a e) r u := ⟨h.1, by rw [kf_ne hr]; exact h.2.1, h.2.2⟩
theorem IsRow.push {κ : CE} {q r : Nat} {e : va_E} {u : RT} (h : IsRow κ r u) (hq : q ∉ kL κ) : IsRow (kw (kp κ q) q e) r u := by
  have hr : r ≠ q := fun z => hq (z ▸ h.1)
  exact ⟨List.mem_append_left _ h.1, by rw [kf_ne hr]; exact h.2.1, h.2.2⟩
theorem IsStep.push {κ : CE} {q a : Nat} {e : va_E} {t : TT} (h : IsStep κ a t) (hq : q ∉ kL κ) : IsStep (kw (kp κ q) q e) a t := by
  have hr : a ≠ q := fun z => hq (z ▸ h.1)
  exact ⟨List.mem_append_left _ h.1, by rw [kf_ne hr]; exact h.2.1, h.2.2.1, fun r e => by
    obtain ⟨u, hu⟩ := h.2.2.2 r e
    exact ⟨u, hu.push hq⟩⟩
theorem PInv.push {κ : CE} {q : Nat} {e : va_E} (h : PInv κ) (hq : q ∉ kL κ) : PInv (kw (kp κ q) q e) :=
  ⟨h.1, h.2.1, h.2.2.1, h.2.2.2.1, fun j hj => by
    obtain ⟨r, u, h1, h2⟩ := h.2.2.2.2.1 j hj
    exact ⟨r, u, h1, h2.push hq⟩, fun j hj => by
    obtain ⟨r, u, h1, h2⟩ := h.2.2.2.2.2.1 j hj
    exact ⟨r, u, h1, h2.push hq⟩, fun j r => by
    have h0 := h.2.2.2.2.2.2 j r
    refine ⟨fun e => ?_, fun e => ?_⟩
    · obtain ⟨h1, h2⟩ := h0.1 e
      exact ⟨List.mem_append_left _ h1, by rw [kf_ne (r := r) (a := q) (fun z => hq (z ▸ h1))]; exact h2⟩
    · obtain ⟨h1, h2⟩ := h0.2 e
      exact ⟨List.mem_append_left _ h1, by rw [kf_ne (r := r) (a := q) (fun z => hq (z ▸ h1))]; exact h2⟩⟩
theorem rW_push {κ : CE} {σ : MS} {q : Nat} {e : va_E} (hq : q ∉ kL κ) : rW κ σ ++ [(q, e)] = rW (kw (kp κ q) q e) σ := by
  show (rF κ σ ++ va_pl (kL κ) (kf κ)) ++ [(q, e)] = rF κ σ ++ va_pl (kL κ ++ [q]) (va_up (kf κ) q e)
  rw [List.append_assoc, va_pl_push hq]
theorem rW_kw {κ : CE} {a k : Nat} {e e' : va_E} {σ : MS} {A : Nat → Prop} (hD : va_D A (rW (kw κ a e) σ)) (ha : a ∈ kL κ) (hk : (rW (kw κ a e) σ)[k]? = some (a, e)) : (rW (kw κ a e) σ).set k (a, e') = rW (kw κ a e') σ := by
  have h := va_pl_set (X := rF κ σ) (L := kL κ) (f := va_up (kf κ) a e) (e := e') hD ha (by rw [va_up_self]; exact hk)
  refine h.trans ?_
  show rF κ σ ++ va_pl (kL κ) (va_up (va_up (kf κ) a e) a e') = rF κ σ ++ va_pl (kL κ) (va_up (kf κ) a e')
  rw [show va_up (va_up (kf κ) a e) a e' = va_up (kf κ) a e' from funext (fun j => by unfold va_up; by_cases h : j = a <;> simp [h])]
theorem IsRow.ki {κ κ' : CE} {r : Nat} {u : RT} (h : IsRow κ r u) (e1 : kL κ' = kL κ) (e2 : kf κ' = kf κ) : IsRow κ' r u := ⟨by rw [e1]; exact h.1, by rw [e2]; exact h.2.1, h.2.2⟩
theorem IsStep.ki {κ κ' : CE} {a : Nat} {t : TT} (h : IsStep κ a t) (e1 : kL κ' = kL κ) (e2 : kf κ' = kf κ) (hp : (pI κ 1).toInt ≤ (pI κ' 1).toInt) : IsStep κ' a t := ⟨by rw [e1]; exact h.1, by rw [e2]; exact h.2.1, fun j h1 h2 => by
  have := h.2.2.1 j h1 h2
  omega, fun r e => by
  obtain ⟨u, hu⟩ := h.2.2.2 r e
  exact ⟨u, hu.ki e1 e2⟩⟩
theorem cln {x : Int32} {n : Nat} (h : 0 ≤ x.toInt) (e : (n : Int) = x.toInt) : n = x.toNatClampNeg := by
  have := ti_cl (x := x) rfl h
  omega
/-- a STEP more -/
theorem PInv.addS {κ : CE} {a : Nat} {t : TT} {z : Int32} (h : PInv κ) (ha : a ∈ kL κ) (hf : kf κ a = .inr (9, stV t)) (hr : ∀ j, 1 ≤ j → j ≤ 4 → 0 ≤ (t.1 j).toInt ∧ (t.1 j).toInt ≤ (pI κ 1).toInt) (hw : ∀ r, t.2.2 = some r → ∃ u, IsRow κ r u) (hz : z.toInt = (pI κ 1).toInt + 1) (hc : (pI κ 1).toInt < 12) : PInv (kI (kQ κ 1 (va_up (pQ κ 1) (Int32.toNatClampNeg (pI κ 1)) (some a))) 1 z) := by
  obtain ⟨h0, h1, h2, h3, h4, h5, h6⟩ := h
  have e1 : pI (kI (kQ κ 1 (va_up (pQ κ 1) (Int32.toNatClampNeg (pI κ 1)) (some a))) 1 z) 1 = z := rfl
  refine ⟨h0, by rw [e1]; omega, h2, fun j hj => ?_, fun j hj => ?_, fun j hj => ?_, fun j r => ⟨(h6 j r).1, fun e => ?_⟩⟩
  · have := h3 j hj
    rw [e1]; exact ⟨this.1, by have := this.2; show (pA κ 0 j).toInt < z.toInt; omega⟩
  · obtain ⟨r, u, q1, q2⟩ := h4 j hj
    exact ⟨r, u, q1, q2.ki rfl rfl⟩
  · rw [e1] at hj
    by_cases e : j = Int32.toNatClampNeg (pI κ 1)
    · refine ⟨a, t, ?_, ha, hf, fun k k1 k2 => ?_, fun r e => ?_⟩
      · show va_up (pQ κ 1) (Int32.toNatClampNeg (pI κ 1)) (some a) j = some a
        rw [e]; exact va_up_self _ _ _
      · have := hr k k1 k2
        rw [e1]; exact ⟨this.1, by omega⟩
      · obtain ⟨u, hu⟩ := hw r e
        exact ⟨u, hu.ki rfl rfl⟩
    · have q0 := ti_cl (x := pI κ 1) rfl h1.1
      obtain ⟨r, u, q1, q2⟩ := h5 j (by omega)
      refine ⟨r, u, ?_, q2.ki rfl rfl (by rw [e1]; omega)⟩
      show va_up (pQ κ 1) (Int32.toNatClampNeg (pI κ 1)) (some a) j = some r
      rw [va_up_ne _ _ e]; exact q1
  · have e : va_up (pQ κ 1) (Int32.toNatClampNeg (pI κ 1)) (some a) j = some r := e
    by_cases e2 : j = Int32.toNatClampNeg (pI κ 1)
    · rw [e2, va_up_self] at e
      rw [← Option.some.inj e]; exact ⟨ha, _, hf⟩
    · rw [va_up_ne _ _ e2] at e
      exact (h6 j r).2 e
/-- a ROW more -/
theorem PInv.addR {κ : CE} {a : Nat} {u : RT} {z : Int32} (h : PInv κ) (ha : IsRow κ a u) (hz : z.toInt = (pI κ 0).toInt + 1) (hc : (pI κ 0).toInt < 2) : PInv (kI (kQ κ 0 (va_up (pQ κ 0) (Int32.toNatClampNeg (pI κ 0)) (some a))) 0 z) := by
  obtain ⟨h0, h1, h2, h3, h4, h5, h6⟩ := h
  have e1 : pI (kI (kQ κ 0 (va_up (pQ κ 0) (Int32.toNatClampNeg (pI κ 0)) (some a))) 0 z) 0 = z := rfl
  refine ⟨by rw [e1]; omega, h1, h2, h3, fun j hj => ?_, fun j hj => ?_, fun j r => ⟨fun e => ?_, (h6 j r).2⟩⟩
  · rw [e1] at hj
    by_cases e : j = Int32.toNatClampNeg (pI κ 0)
    · refine ⟨a, u, ?_, ha.ki rfl rfl⟩
      show va_up (pQ κ 0) (Int32.toNatClampNeg (pI κ 0)) (some a) j = some a
      rw [e]; exact va_up_self _ _ _
    · have q0 := ti_cl (x := pI κ 0) rfl h0.1
      obtain ⟨r, v, q1, q2⟩ := h4 j (by omega)
      refine ⟨r, v, ?_, q2.ki rfl rfl⟩
      show va_up (pQ κ 0) (Int32.toNatClampNeg (pI κ 0)) (some a) j = some r
      rw [va_up_ne _ _ e]; exact q1
  · obtain ⟨r, v, q1, q2⟩ := h5 j hj
    exact ⟨r, v, q1, q2.ki rfl rfl (Int.le_refl _)⟩
  · have e : va_up (pQ κ 0) (Int32.toNatClampNeg (pI κ 0)) (some a) j = some r := e
    by_cases e2 : j = Int32.toNatClampNeg (pI κ 0)
    · rw [e2, va_up_self] at e
      rw [← Option.some.inj e]; exact ⟨ha.1, _, ha.2.1⟩
    · rw [va_up_ne _ _ e2] at e
      exact (h6 j r).1 e
/-- an END more -/
theorem PInv.addE {κ : CE} {x z : Int32} {m : Nat → Nat → Int32} {i : Nat → Int32} (h : PInv κ) (hi : i = upd (pI κ) 2 z) (hm : m 0 = upd (pA κ 0) (Int32.toNatClampNeg (pI κ 2)) x) (hx : 0 ≤ x.toInt ∧ x.toInt < (pI κ 1).toInt) (hz : z.toInt = (pI κ 2).toInt + 1) (hc : (pI κ 2).toInt < 4) : PInv (kN κ i m (pQ κ)) := by
  obtain ⟨h0, h1, h2, h3, h4, h5, h6⟩ := h
  have i0 : i 0 = pI κ 0 := by rw [hi]; rfl
  have i1 : i 1 = pI κ 1 := by rw [hi]; rfl
  have i2 : i 2 = z := by rw [hi]; rfl
  refine ⟨(show 0 ≤ (i 0).toInt ∧ (i 0).toInt ≤ 2 by rw [i0]; exact h0), (show 0 ≤ (i 1).toInt ∧ (i 1).toInt ≤ 12 by rw [i1]; exact h1), (show 0 ≤ (i 2).toInt ∧ (i 2).toInt ≤ 4 by rw [i2]; omega), fun j hj => ?_, fun j hj => ?_, fun j hj => ?_, h6⟩
  · have hj : (j : Int) < (i 2).toInt := hj
    rw [i2] at hj
    show 0 ≤ (m 0 j).toInt ∧ (m 0 j).toInt < (i 1).toInt
    rw [hm, i1]
    by_cases e : j = Int32.toNatClampNeg (pI κ 2)
    · rw [e, pk_us]; exact hx
    · have q0 := ti_cl (x := pI κ 2) rfl h2.1
      rw [pk_un e]; exact h3 j (by omega)
  · have hj : (j : Int) < (i 0).toInt := hj
    rw [i0] at hj
    obtain ⟨r, v, q1, q2⟩ := h4 j hj
    exact ⟨r, v, q1, q2.ki rfl rfl⟩
  · have hj : (j : Int) < (i 1).toInt := hj
    rw [i1] at hj
    obtain ⟨r, v, q1, q2⟩ := h5 j hj
    exact ⟨r, v, q1, q2.ki rfl rfl (show (pI κ 1).toInt ≤ (i 1).toInt by rw [i1]; exact Int.le_refl _)⟩
/-- what readParts leaves of a STEP -/
def PrOk (κ : CE) (a : Nat) (t : TT) (F : Int) : Prop := (∀ r, t.2.2 = some r → ∃ u, r ≠ a ∧ IsRow κ r u) ∧ (F ≠ 0 ∨ ((∀ j, 1 ≤ j → j ≤ 4 → 0 ≤ (t.1 j).toInt ∧ (t.1 j).toInt ≤ (pI κ 1).toInt) ∧ (t.2.2 ≠ none ∨ ((t.1 1).toInt < (pI κ 1).toInt ∧ (t.1 2).toInt < (pI κ 1).toInt))))
theorem four {P : Nat → Prop} (h1 : P 1) (h2 : P 2) (h3 : P 3) (h4 : P 4) : ∀ j, 1 ≤ j → j ≤ 4 → P j := fun j a b => by
  rcases (show j = 1 ∨ j = 2 ∨ j = 3 ∨ j = 4 by omega) with e | e | e | e <;> rw [e] <;> assumption
theorem PrOk.none {κ : CE} {a : Nat} {t : TT} {F : Int} (hr : t.2.2 = none) (hF : F ≠ 0 ∨ ((∀ j, 1 ≤ j → j ≤ 4 → 0 ≤ (t.1 j).toInt ∧ (t.1 j).toInt ≤ (pI κ 1).toInt) ∧ ((t.1 1).toInt < (pI κ 1).toInt ∧ (t.1 2).toInt < (pI κ 1).toInt))) : PrOk κ a t F := ⟨fun r h => absurd (hr.symm.trans h) (by simp), hF.elim Or.inl (fun h => Or.inr ⟨h.1, Or.inr h.2⟩)⟩
theorem PrOk.some {κ : CE} {a r : Nat} {t t0 : TT} {u : RT} {F : Int} (hr : t.2.2 = some r) (hu : IsRow (ku κ a t0) r u) (hF : F ≠ 0 ∨ (∀ j, 1 ≤ j → j ≤ 4 → 0 ≤ (t.1 j).toInt ∧ (t.1 j).toInt ≤ (pI κ 1).toInt)) : PrOk κ a t F := ⟨fun r' h => by
  have e : r = r' := Option.some.inj (hr.symm.trans h)
  rw [← e]; exact ⟨u, hu.dn⟩, hF.elim Or.inl (fun h => Or.inr ⟨h, Or.inl (by rw [hr]; simp)⟩)⟩
theorem PrOk.f {κ : CE} {a : Nat} {t : TT} {F : Int} (hr : t.2.2 = Option.none) (hF : F ≠ 0) : PrOk κ a t F := ⟨fun r h => absurd (hr.symm.trans h) (by simp), Or.inl hF⟩
theorem PrOk.eq {κ : CE} {a : Nat} {t t' : TT} {F : Int} (h : PrOk κ a t F) (e1 : t'.1 = t.1) (e2 : t'.2.2 = t.2.2) : PrOk κ a t' F := by
  unfold PrOk; rw [e1, e2]; exact h

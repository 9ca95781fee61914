/-! own rows of p28: program(): the reader's world beside the object's -/
theorem pmc {ws ws' : va_W} (h : ∀ (_ : DecidableEq (Nat × va_E)) (z : Nat × va_E), ws.count z = ws'.count z) : List.Perm ws ws' := by
  letI d : DecidableEq (Nat × va_E) := fun a b => Classical.propDecidable (a = b)
  exact List.perm_iff_count.mpr (fun z => h d z)
def cFu (κ : CE) (σ : MS) : va_W := [(kA κ 2, .inl (kC κ 2, 4, .inl (σ.2.1 4))), (kA κ 3, .inl (kC κ 3, 4, .inl (σ.2.1 5))), (kA κ 4, .inl (kC κ 4, 4, .inl (σ.2.1 6))), (kA κ 5, .inl (kC κ 5, 4, .inr (.inl (σ.2.2.1 9)))), (kA κ 6, .inr (3, [.ref (kA κ 7), .ref (kA κ 8), .ref (kA κ 9), .ref (kA κ 10), .ref (kA κ 11), .int (pI κ 0), .int (pI κ 1), .int (pI κ 2)])), (kA κ 7, .inl (kC κ 7, 2, .inr (.inr (.inr (.inr (pQ κ 0)))))), (kA κ 8, .inl (kC κ 8, 12, .inr (.inr (.inr (.inr (pQ κ 1)))))), (kA κ 9, .inl (kC κ 9, 4, .inl (pA κ 0))), (kA κ 10, .inl (kC κ 10, 4, .inl (pA κ 1))), (kA κ 11, .inl (kC κ 11, 4, .inl (pA κ 2))), (kA κ 12, .inr (7, [.ref (kA κ 13), .ref (kA κ 14), .int (σ.1 12)])), (kA κ 13, .inl (kC κ 13, 492, .inl (σ.2.1 10))), (kA κ 14, .inl (kC κ 14, 40, .inl (σ.2.1 11))), (kA κ 15, .inr (0, [.ref (kA κ 16), .ref (kA κ 17), .ref (kA κ 18), .ref (kA κ 19), .ref (kA κ 20), .int (σ.1 18), .int (σ.1 19)])), (kA κ 16, .inl (kC κ 16, 12, .inl (σ.2.1 13))), (kA κ 17, .inl (kC κ 17, 12, .inl (σ.2.1 14))), (kA κ 18, .inl (kC κ 18, 12, .inl (σ.2.1 15))), (kA κ 19, .inl (kC κ 19, 12, .inl (σ.2.1 16))), (kA κ 20, .inl (kC κ 20, 12, .inl (σ.2.1 17))), (kA κ 21, .inr (8, [.ref (kA κ 6), .ref (kA κ 15), .ref (kA κ 22), .ref (kA κ 23), .long (σ.2.2.2 22), .long (σ.2.2.2 23), .int (σ.1 24), .int (σ.1 25), .int (σ.1 26)])), (kA κ 22, .inl (kC κ 22, 12, .inr (.inl (σ.2.2.1 20)))), (kA κ 23, .inl (kC κ 23, 12, .inr (.inl (σ.2.2.1 21)))), (kA κ 24, .inr (10, [.ref (kA κ 6), .ref (kA κ 12), .ref (kA κ 15), .ref (kA κ 25), .ref (kA κ 26)])), (kA κ 25, .inl (kC κ 25, 492, .inr (.inl (σ.2.2.1 27)))), (kA κ 26, .inl (kC κ 26, 492, .inr (.inl (σ.2.2.1 28))))]
def cFv (κ : CE) (σ : MS) : va_W := [(kA κ 2, .inl (kC κ 2, 4, .inl (σ.2.1 4))), (kA κ 3, .inl (kC κ 3, 4, .inl (σ.2.1 5))), (kA κ 4, .inl (kC κ 4, 4, .inl (σ.2.1 6))), (kA κ 5, .inl (kC κ 5, 4, .inr (.inl (σ.2.2.1 9)))), (kA κ 12, .inr (7, [.ref (kA κ 13), .ref (kA κ 14), .int (σ.1 12)])), (kA κ 13, .inl (kC κ 13, 492, .inl (σ.2.1 10))), (kA κ 14, .inl (kC κ 14, 40, .inl (σ.2.1 11))), (kA κ 15, .inr (0, [.ref (kA κ 16), .ref (kA κ 17), .ref (kA κ 18), .ref (kA κ 19), .ref (kA κ 20), .int (σ.1 18), .int (σ.1 19)])), (kA κ 16, .inl (kC κ 16, 12, .inl (σ.2.1 13))), (kA κ 17, .inl (kC κ 17, 12, .inl (σ.2.1 14))), (kA κ 18, .inl (kC κ 18, 12, .inl (σ.2.1 15))), (kA κ 19, .inl (kC κ 19, 12, .inl (σ.2.1 16))), (kA κ 20, .inl (kC κ 20, 12, .inl (σ.2.1 17))), (kA κ 21, .inr (8, [.ref (kA κ 6), .ref (kA κ 15), .ref (kA κ 22), .ref (kA κ 23), .long (σ.2.2.2 22), .long (σ.2.2.2 23), .int (σ.1 24), .int (σ.1 25), .int (σ.1 26)])), (kA κ 22, .inl (kC κ 22, 12, .inr (.inl (σ.2.2.1 20)))), (kA κ 23, .inl (kC κ 23, 12, .inr (.inl (σ.2.2.1 21)))), (kA κ 24, .inr (10, [.ref (kA κ 6), .ref (kA κ 12), .ref (kA κ 15), .ref (kA κ 25), .ref (kA κ 26)])), (kA κ 25, .inl (kC κ 25, 492, .inr (.inl (σ.2.2.1 27)))), (kA κ 26, .inl (kC κ 26, 492, .inr (.inl (σ.2.2.1 28))))]
def cFp (κ : CE) : va_W := [(kA κ 6, .inr (3, [.ref (kA κ 7), .ref (kA κ 8), .ref (kA κ 9), .ref (kA κ 10), .ref (kA κ 11), .int (pI κ 0), .int (pI κ 1), .int (pI κ 2)])), (kA κ 7, .inl (kC κ 7, 2, .inr (.inr (.inr (.inr (pQ κ 0)))))), (kA κ 8, .inl (kC κ 8, 12, .inr (.inr (.inr (.inr (pQ κ 1)))))), (kA κ 9, .inl (kC κ 9, 4, .inl (pA κ 0))), (kA κ 10, .inl (kC κ 10, 4, .inl (pA κ 1))), (kA κ 11, .inl (kC κ 11, 4, .inl (pA κ 2)))]
def tpC (κ : CE) (σ : MS) : Nat × va_E := (kA κ 1, .inl (kC κ 1, 1000, .inl (σ.2.1 0)))
def rF3 (κ : CE) (σ : MS) : va_W := (rF κ σ).take 3
def rFp (κ : CE) : va_W := [(kA κ 3, .inr (3, [.ref (kA κ 4), .ref (kA κ 5), .ref (kA κ 6), .ref (kA κ 7), .ref (kA κ 8), .int (pI κ 0), .int (pI κ 1), .int (pI κ 2)])), (kA κ 4, .inl (kC κ 4, 2, .inr (.inr (.inr (.inr (pQ κ 0)))))), (kA κ 5, .inl (kC κ 5, 12, .inr (.inr (.inr (.inr (pQ κ 1)))))), (kA κ 6, .inl (kC κ 6, 4, .inl (pA κ 0))), (kA κ 7, .inl (kC κ 7, 4, .inl (pA κ 1))), (kA κ 8, .inl (kC κ 8, 4, .inl (pA κ 2)))]
theorem cF_eq {κ : CE} {σ : MS} : cF κ σ = cF0 κ σ :: tpC κ σ :: cFu κ σ := rfl
theorem cFu_perm {κ : CE} {σ : MS} : List.Perm (cFu κ σ) (cFv κ σ ++ cFp κ) := by
  show List.Perm (((cFv κ σ).take 4 ++ cFp κ) ++ (cFv κ σ).drop 4) (cFv κ σ ++ cFp κ)
  rw [List.append_assoc]
  have e : cFv κ σ = (cFv κ σ).take 4 ++ (cFv κ σ).drop 4 := (List.take_append_drop 4 _).symm
  refine (List.Perm.append_left _ List.perm_append_comm).trans ?_
  rw [← List.append_assoc, List.take_append_drop]
/-- the object without its tape -/
def oW (κ : CE) (X : va_W) (σ : MS) : va_W := ((cF0 κ σ :: cFu κ σ) ++ X) ++ va_pl (kL κ) (kf κ)
/-- both -/
def mW_ (κ : CE) (X : va_W) (σ : MS) (κr : CE) (ρ : MS) : va_W := (rF κr ρ ++ ((cF0 κ σ :: cFu κ σ) ++ X)) ++ (va_pl (kL κ) (kf κ) ++ va_pl (kL κr) (kf κr))
theorem op1_ {κ : CE} {X : va_W} {σ : MS} {z : Nat × va_E} : List.Perm (xW κ X σ ++ [z]) (oW κ X σ ++ [z, tpC κ σ]) := by
  show List.Perm (((cF0 κ σ :: tpC κ σ :: (cFu κ σ ++ X)) ++ va_pl (kL κ) (kf κ)) ++ [z]) (((cF0 κ σ :: (cFu κ σ ++ X)) ++ va_pl (kL κ) (kf κ)) ++ [z, tpC κ σ])
  refine pmc (fun _ z9 => ?_)
  simp only [List.count_append, List.count_cons, List.count_nil]
  omega
theorem op2_ {κ κr : CE} {X : va_W} {σ ρ : MS} : List.Perm (oW κ X σ ++ rW κr ρ) (mW_ κ X σ κr ρ) := by
  unfold oW rW mW_
  refine pmc (fun _ z9 => ?_)
  simp only [List.count_append, List.count_cons, List.count_nil]
  omega
def tpR (κr : CE) (ρ : MS) : Nat × va_E := (kA κr 2, .inl (kC κr 2, 1000, .inl (ρ.2.1 0)))
theorem tp_eq {κ κr : CE} {σ ρ : MS} (h1 : kA κr 2 = kA κ 1) (h2 : kC κr 2 = kC κ 1) : tpR κr ρ = tpC κ (sA σ 0 (ρ.2.1 0)) := by
  show (kA κr 2, Sum.inl (kC κr 2, 1000, Sum.inl (ρ.2.1 0))) = (kA κ 1, Sum.inl (kC κ 1, 1000, Sum.inl (ρ.2.1 0)))
  rw [h1, h2]
def rdC (κr : CE) (ρ : MS) : va_W := (rF κr ρ).take 2
theorem rF_eq {κr : CE} {ρ : MS} : rF κr ρ = rdC κr ρ ++ (tpR κr ρ :: rFp κr) := rfl
/-- back to the object: nothing was told -/
theorem op3_ {κ κr : CE} {X : va_W} {σ ρ : MS} (h1 : kA κr 2 = kA κ 1) (h2 : kC κr 2 = kC κ 1) : List.Perm (mW_ κ X σ κr ρ) (xW κ X (sA σ 0 (ρ.2.1 0)) ++ ((rdC κr ρ ++ rFp κr) ++ va_pl (kL κr) (kf κr))) := by
  have e : xW κ X (sA σ 0 (ρ.2.1 0)) = ((cF0 κ σ :: tpR κr ρ :: cFu κ σ) ++ X) ++ va_pl (kL κ) (kf κ) := by
    rw [tp_eq (σ := σ) h1 h2]; rfl
  rw [e]
  unfold mW_
  rw [rF_eq]
  refine pmc (fun _ z9 => ?_)
  simp only [List.count_append, List.count_cons, List.count_nil]
  omega
theorem op4_ {κ κr : CE} {X : va_W} {σ ρ : MS} : List.Perm (mW_ κ X σ κr ρ) ((((rdC κr ρ ++ [tpR κr ρ]) ++ ((cF0 κ σ :: cFv κ σ) ++ X)) ++ va_pl (kL κ) (kf κ)) ++ bW κ κr) := by
  have e : bW κ κr = (cFp κ ++ rFp κr) ++ va_pl (kL κr) (kf κr) := rfl
  rw [e]
  unfold mW_
  have e2 : rF κr ρ = (rdC κr ρ ++ [tpR κr ρ]) ++ rFp κr := rfl
  rw [e2]
  have hu := cFu_perm (κ := κ) (σ := σ)
  have h0 : List.Perm (((rdC κr ρ ++ [tpR κr ρ]) ++ rFp κr) ++ ((cF0 κ σ :: cFu κ σ) ++ X) ++ (va_pl (kL κ) (kf κ) ++ va_pl (kL κr) (kf κr))) (((rdC κr ρ ++ [tpR κr ρ]) ++ rFp κr) ++ ((cF0 κ σ :: (cFv κ σ ++ cFp κ)) ++ X) ++ (va_pl (kL κ) (kf κ) ++ va_pl (kL κr) (kf κr))) := List.Perm.append_right _ (List.Perm.append_left _ (List.Perm.append_right _ (List.Perm.cons _ hu)))
  refine h0.trans ?_
  refine pmc (fun _ z9 => ?_)
  simp only [List.count_append, List.count_cons, List.count_nil]
  omega
/-- what was read is told -/
def kB (κ κr : CE) : CE := (κ.1, κ.2.1, κ.2.2.1, κr.2.2.2.1, κ.2.2.2.2.1, κr.2.2.2.2.2)
theorem xX_kB {κ κr : CE} {φ ψ : MS} : xX (kB κ κr) φ ψ = xX κ φ ψ := by
  show fX (kB κ κr) (kE κ) φ ++ pX (kB κ κr) (kP κ) ψ = fX κ (kE κ) φ ++ pX κ (kP κ) ψ
  have e1 : fX (kB κ κr) (kE κ) φ = fX κ (kE κ) φ := by cases kE κ <;> rfl
  have e2 : pX (kB κ κr) (kP κ) ψ = pX κ (kP κ) ψ := by cases kP κ <;> rfl
  rw [e1, e2]
theorem bePs {D : va_G} {cl : List vw_C} {κ κr : CE} {u : PS} {H : Heap} (hu : BeOk κr u) (h : ∀ z ∈ cFp (kN κ u.1 u.2.1 u.2.2), va_at D cl z H) : ∀ z ∈ cFp (kB κ κr), va_at D cl z H := by
  obtain ⟨⟨u0, u1, u2⟩, um, uq0, uq1⟩ := hu
  have hh : ∀ z, z ∈ cFp (kN κ u.1 u.2.1 u.2.2) → va_at D cl z H := h
  simp only [cFp, List.mem_cons, List.not_mem_nil, or_false, forall_eq_or_imp, forall_eq] at hh ⊢
  obtain ⟨h0, h1, h2, h3, h4, h5⟩ := hh
  refine ⟨?_, at_cg_q uq0 h1, at_cg_q uq1 h2, at_cg_i (fun j hj => (um j hj).1) h3, at_cg_i (fun j hj => (um j hj).2.1) h4, at_cg_i (fun j hj => (um j hj).2.2) h5⟩
  have e : (kA (kN κ u.1 u.2.1 u.2.2) 6, (Sum.inr (3, [Value.ref (kA (kN κ u.1 u.2.1 u.2.2) 7), Value.ref (kA (kN κ u.1 u.2.1 u.2.2) 8), Value.ref (kA (kN κ u.1 u.2.1 u.2.2) 9), Value.ref (kA (kN κ u.1 u.2.1 u.2.2) 10), Value.ref (kA (kN κ u.1 u.2.1 u.2.2) 11), Value.int (pI (kN κ u.1 u.2.1 u.2.2) 0), Value.int (pI (kN κ u.1 u.2.1 u.2.2) 1), Value.int (pI (kN κ u.1 u.2.1 u.2.2) 2)]) : va_E)) = (kA (kB κ κr) 6, Sum.inr (3, [Value.ref (kA (kB κ κr) 7), Value.ref (kA (kB κ κr) 8), Value.ref (kA (kB κ κr) 9), Value.ref (kA (kB κ κr) 10), Value.ref (kA (kB κ κr) 11), Value.int (pI (kB κ κr) 0), Value.int (pI (kB κ κr) 1), Value.int (pI (kB κ κr) 2)])) := by
    show (kA κ 6, (Sum.inr (3, [_, _, _, _, _, Value.int (u.1 0), Value.int (u.1 1), Value.int (u.1 2)]) : va_E)) = (kA κ 6, Sum.inr (3, [_, _, _, _, _, Value.int (pI κr 0), Value.int (pI κr 1), Value.int (pI κr 2)]))
    rw [u0, u1, u2]; rfl
  rw [← e]; exact h0
theorem vP_iff {D : va_G} {cl : List vw_C} {ws : va_W} {H : Heap} : va_P D cl ws H ↔ ∀ z ∈ ws, va_at D cl z H := ⟨fun h z hz => by
  obtain ⟨i, hi⟩ := List.getElem?_of_mem hz
  exact h i z hi, fun h k q hk => h q (List.mem_of_getElem? hk)⟩
theorem vD_cg {A : Nat → Prop} {ws ws' : va_W} (h : va_D A ws) (e : ws.map Prod.fst = ws'.map Prod.fst) : va_D A ws' := by
  obtain ⟨h1, h2⟩ := vD_iff.mp h
  refine vD_iff.mpr ⟨by rw [← e]; exact h1, fun q hq => ?_⟩
  have h3 : q.1 ∈ ws.map Prod.fst := by rw [e]; exact List.mem_map_of_mem hq
  obtain ⟨z, hz, ez⟩ := List.mem_map.mp h3
  rw [← ez]; exact h2 z hz
def wr2 (κ : CE) (X : va_W) (σ : MS) (κr : CE) (ρ : MS) : va_W := ((rdC κr ρ ++ [tpR κr ρ]) ++ ((cF0 κ σ :: cFv κ σ) ++ X)) ++ va_pl (kL κ) (kf κ)
theorem cFu_kB {κ κr : CE} {σ : MS} {f : Nat → Int32} : List.Perm (cFu (kB κ κr) (sA σ 0 f)) (cFv κ σ ++ cFp (kB κ κr)) := cFu_perm (κ := kB κ κr) (σ := sA σ 0 f)
theorem beP {D : va_G} {cl : List vw_C} {κ κr : CE} {X : va_W} {σ ρ : MS} {u : PS} {H : Heap} (h1 : kA κr 2 = kA κ 1) (h2 : kC κr 2 = kC κ 1) (hu : BeOk κr u) (h : va_P D cl (wr2 κ X σ κr ρ ++ bW (kN κ u.1 u.2.1 u.2.2) κr) H) : va_P D cl (xW (kB κ κr) X (sA σ 0 (ρ.2.1 0))) H := by
  have h := vP_iff.mp h
  have hb : ∀ z ∈ bW (kN κ u.1 u.2.1 u.2.2) κr, va_at D cl z H := fun z hz => h z (List.mem_append_right _ hz)
  have hw : ∀ z ∈ wr2 κ X σ κr ρ, va_at D cl z H := fun z hz => h z (List.mem_append_left _ hz)
  have hp : ∀ z ∈ cFp (kB κ κr), va_at D cl z H := bePs hu (fun z hz => hb z (by
    show z ∈ (cFp (kN κ u.1 u.2.1 u.2.2) ++ rFp κr) ++ va_pl (kL κr) (kf κr)
    exact List.mem_append_left _ (List.mem_append_left _ hz)))
  refine vP_iff.mpr (fun z hz => ?_)
  have hz : z ∈ ((cF0 κ σ :: tpC κ (sA σ 0 (ρ.2.1 0)) :: cFu (kB κ κr) (sA σ 0 (ρ.2.1 0))) ++ X) ++ va_pl (kL κr) (kf κr) := hz
  rw [← tp_eq (σ := σ) h1 h2] at hz
  rcases List.mem_append.mp hz with hz | hz
  · rcases List.mem_append.mp hz with hz | hz
    · rcases List.mem_cons.mp hz with hz | hz
      · exact hw z (by unfold wr2; rw [hz]; exact List.mem_append_left _ (List.mem_append_right _ (List.mem_append_left _ List.mem_cons_self)))
      · rcases List.mem_cons.mp hz with hz | hz
        · exact hw z (by unfold wr2; rw [hz]; exact List.mem_append_left _ (List.mem_append_left _ (List.mem_append_right _ List.mem_cons_self)))
        · rcases List.mem_append.mp (cFu_kB.mem_iff.mp hz) with hz | hz
          · exact hw z (by unfold wr2; exact List.mem_append_left _ (List.mem_append_right _ (List.mem_append_left _ (List.mem_cons_of_mem _ hz))))
          · exact hp z hz
    · exact hw z (by unfold wr2; exact List.mem_append_left _ (List.mem_append_right _ (List.mem_append_right _ hz)))
  · exact hb z (by
      show z ∈ (cFp (kN κ u.1 u.2.1 u.2.2) ++ rFp κr) ++ va_pl (kL κr) (kf κr)
      exact List.mem_append_right _ hz)
theorem beD {A : Nat → Prop} {κ κr : CE} {X : va_W} {σ ρ : MS} {u : PS} (h1 : kA κr 2 = kA κ 1) (h2 : kC κr 2 = kC κ 1) (h : va_D A (wr2 κ X σ κr ρ ++ bW (kN κ u.1 u.2.1 u.2.2) κr)) : va_D A (xW (kB κ κr) X (sA σ 0 (ρ.2.1 0))) := by
  have hp : List.Perm (wr2 κ X σ κr ρ ++ bW (kN κ u.1 u.2.1 u.2.2) κr) ((((cF0 κ σ :: tpR κr ρ :: (cFv κ σ ++ cFp (kN κ u.1 u.2.1 u.2.2))) ++ X) ++ va_pl (kL κr) (kf κr)) ++ ((rdC κr ρ ++ rFp κr) ++ va_pl (kL κ) (kf κ))) := by
    show List.Perm ((((rdC κr ρ ++ [tpR κr ρ]) ++ ((cF0 κ σ :: cFv κ σ) ++ X)) ++ va_pl (kL κ) (kf κ)) ++ ((cFp (kN κ u.1 u.2.1 u.2.2) ++ rFp κr) ++ va_pl (kL κr) (kf κr))) _
    refine pmc (fun _ z9 => ?_)
    simp only [List.count_append, List.count_cons, List.count_nil]
    omega
  have hd := pmD h hp
  have hd2 : va_D A (((cF0 κ σ :: tpR κr ρ :: (cFv κ σ ++ cFp (kB κ κr))) ++ X) ++ va_pl (kL κr) (kf κr)) := vD_cg hd (by simp only [List.map_append, List.map_cons]; rfl)
  rw [tp_eq (σ := σ) h1 h2] at hd2
  refine pmD0 hd2 ?_
  show List.Perm _ (((cF0 κ σ :: tpC κ (sA σ 0 (ρ.2.1 0)) :: cFu (kB κ κr) (sA σ 0 (ρ.2.1 0))) ++ X) ++ va_pl (kL κr) (kf κr))
  refine List.Perm.append_right _ (List.Perm.append_right _ (List.Perm.cons _ (List.Perm.cons _ ?_)))
  exact cFu_kB.symm
/-- what a new Reader holds -/
def kR (q sc tp pg r1 r2 r3 r4 r5 : Nat) (kt k1 k2 k3 k4 k5 : ClassId) : CE := (fun k => match k with
  | 0 => q
  | 1 => sc
  | 2 => tp
  | 3 => pg
  | 4 => r1
  | 5 => r2
  | 6 => r3
  | 7 => r4
  | _ => r5, fun k => match k with
  | 2 => kt
  | 4 => k1
  | 5 => k2
  | 6 => k3
  | 7 => k4
  | _ => k5, (none, none), (fun _ => 0, fun _ _ => 0, fun _ _ => none), [], [], fun _ => .inr (0, []))
def rho0 (n : Int32) (f : Nat → Int32) : MS := (fun k => match k with
  | 0 => n
  | 2 => -1
  | _ => 0, fun _ => f, fun _ _ => 0, fun _ => 0)
theorem mn_ok {x : Int32} (h : 0 ≤ x.toInt ∧ x.toInt ≤ 1000) : 0 ≤ (mn_ x).toInt ∧ (mn_ x).toInt ≤ 1000 := by
  unfold mn_
  by_cases q : 1000 < x
  · rw [if_pos q]; decide
  · rw [if_neg q]; exact h
theorem rho_ok {n : Int32} {f : Nat → Int32} (h : 0 ≤ n.toInt ∧ n.toInt ≤ 1000) : RInv (rho0 n f) := fun p => by
  rcases p with _ | _ | _ | p
  · exact h
  · show loR 1 ≤ (0 : Int32).toInt ∧ (0 : Int32).toInt ≤ hiR 1
    decide
  · show loR 2 ≤ (-1 : Int32).toInt ∧ (-1 : Int32).toInt ≤ hiR 2
    decide
  · show loR (p + 3) ≤ (0 : Int32).toInt ∧ (0 : Int32).toInt ≤ hiR (p + 3)
    unfold loR hiR
    constructor
    · split <;> decide
    · split <;> decide
theorem kR_ok {q sc tp pg r1 r2 r3 r4 r5 : Nat} {kt k1 k2 k3 k4 k5 : ClassId} : PInv (kR q sc tp pg r1 r2 r3 r4 r5 kt k1 k2 k3 k4 k5) := by
  have z : (0 : Int32).toInt = 0 := by decide
  refine ⟨(show 0 ≤ (0 : Int32).toInt ∧ (0 : Int32).toInt ≤ 2 by decide), (show 0 ≤ (0 : Int32).toInt ∧ (0 : Int32).toInt ≤ 12 by decide), (show 0 ≤ (0 : Int32).toInt ∧ (0 : Int32).toInt ≤ 4 by decide), fun j hj => ?_, fun j hj => ?_, fun j hj => ?_, fun j r => ⟨fun e => ?_, fun e => ?_⟩⟩
  · have hj : (j : Int) < (0 : Int32).toInt := hj
    omega
  · have hj : (j : Int) < (0 : Int32).toInt := hj
    omega
  · have hj : (j : Int) < (0 : Int32).toInt := hj
    omega
  · have e : (none : Option Nat) = some r := e
    cases e
  · have e : (none : Option Nat) = some r := e
    cases e

/-! own rows of p28: FRONT, PLAN are made; the PROGRAM that was read is told -/
theorem arrV_cg {c : ClassId} {n : Nat} {f g : Nat → Value} (h : ∀ j, j < n → f j = g j) : arrV c n f = arrV c n g := by
  unfold arrV
  rw [show (fun j : Fin n => f j.val) = fun j : Fin n => g j.val from funext (fun j => h j.val j.isLt)]
theorem at_cg_q {D : va_G} {cl : List vw_C} {a : Nat} {c : ClassId} {n : Nat} {f g : Nat → Option Nat} {H : Heap} (h : ∀ j, j < n → f j = g j) (hp : va_at D cl (a, .inl (c, n, .inr (.inr (.inr (.inr f))))) H) : va_at D cl (a, .inl (c, n, .inr (.inr (.inr (.inr g))))) H := by
  show H[a]? = some (arrV c n (fun j => va_rf (g j)))
  rw [← arrV_cg (fun j hj => by rw [h j hj] : ∀ j, j < n → va_rf (f j) = va_rf (g j))]; exact hp
theorem at_cg_i {D : va_G} {cl : List vw_C} {a : Nat} {c : ClassId} {n : Nat} {f g : Nat → Int32} {H : Heap} (h : ∀ j, j < n → f j = g j) (hp : va_at D cl (a, .inl (c, n, .inl f)) H) : va_at D cl (a, .inl (c, n, .inl g)) H := by
  show H[a]? = some (arrV c n (fun j => .int (g j)))
  rw [← arrV_cg (fun j hj => by rw [h j hj] : ∀ j, j < n → Value.int (f j) = Value.int (g j))]; exact hp
def cF0 (κ : CE) (σ : MS) : Nat × va_E := (kA κ 0, .inr (11, [.ref (kA κ 1), .int (σ.1 1), .int (σ.1 2), .int (σ.1 3), .ref (kA κ 6), .ref (kA κ 12), .ref (kA κ 15), .ref (kA κ 21), .ref (kA κ 24), .ref (kA κ 2), .ref (kA κ 3), .ref (kA κ 4), .int (σ.1 7), .int (σ.1 8), .ref (kA κ 5), va_rf (kE κ), va_rf (kP κ)]))
def cFt (κ : CE) (σ : MS) : va_W := [(kA κ 1, .inl (kC κ 1, 1000, .inl (σ.2.1 0))), (kA κ 2, .inl (kC κ 2, 4, .inl (σ.2.1 4))), (kA κ 3, .inl (kC κ 3, 4, .inl (σ.2.1 5))), (kA κ 4, .inl (kC κ 4, 4, .inl (σ.2.1 6))), (kA κ 5, .inl (kC κ 5, 4, .inr (.inl (σ.2.2.1 9)))), (kA κ 6, .inr (3, [.ref (kA κ 7), .ref (kA κ 8), .ref (kA κ 9), .ref (kA κ 10), .ref (kA κ 11), .int (pI κ 0), .int (pI κ 1), .int (pI κ 2)])), (kA κ 7, .inl (kC κ 7, 2, .inr (.inr (.inr (.inr (pQ κ 0)))))), (kA κ 8, .inl (kC κ 8, 12, .inr (.inr (.inr (.inr (pQ κ 1)))))), (kA κ 9, .inl (kC κ 9, 4, .inl (pA κ 0))), (kA κ 10, .inl (kC κ 10, 4, .inl (pA κ 1))), (kA κ 11, .inl (kC κ 11, 4, .inl (pA κ 2))), (kA κ 12, .inr (7, [.ref (kA κ 13), .ref (kA κ 14), .int (σ.1 12)])), (kA κ 13, .inl (kC κ 13, 492, .inl (σ.2.1 10))), (kA κ 14, .inl (kC κ 14, 40, .inl (σ.2.1 11))), (kA κ 15, .inr (0, [.ref (kA κ 16), .ref (kA κ 17), .ref (kA κ 18), .ref (kA κ 19), .ref (kA κ 20), .int (σ.1 18), .int (σ.1 19)])), (kA κ 16, .inl (kC κ 16, 12, .inl (σ.2.1 13))), (kA κ 17, .inl (kC κ 17, 12, .inl (σ.2.1 14))), (kA κ 18, .inl (kC κ 18, 12, .inl (σ.2.1 15))), (kA κ 19, .inl (kC κ 19, 12, .inl (σ.2.1 16))), (kA κ 20, .inl (kC κ 20, 12, .inl (σ.2.1 17))), (kA κ 21, .inr (8, [.ref (kA κ 6), .ref (kA κ 15), .ref (kA κ 22), .ref (kA κ 23), .long (σ.2.2.2 22), .long (σ.2.2.2 23), .int (σ.1 24), .int (σ.1 25), .int (σ.1 26)])), (kA κ 22, .inl (kC κ 22, 12, .inr (.inl (σ.2.2.1 20)))), (kA κ 23, .inl (kC κ 23, 12, .inr (.inl (σ.2.2.1 21)))), (kA κ 24, .inr (10, [.ref (kA κ 6), .ref (kA κ 12), .ref (kA κ 15), .ref (kA κ 25), .ref (kA κ 26)])), (kA κ 25, .inl (kC κ 25, 492, .inr (.inl (σ.2.2.1 27)))), (kA κ 26, .inl (kC κ 26, 492, .inr (.inl (σ.2.2.1 28))))]
/-- FRONT is made -/
def kF (κ : CE) (q o1 o2 : Nat) (k1 k2 : ClassId) : CE := (va_up (va_up κ.1 27 o1) 28 o2, va_up (va_up κ.2.1 27 k1) 28 k2, (some q, kP κ), κ.2.2.2.1, κ.2.2.2.2)
/-- PLAN is made -/
def kG (κ : CE) (q o1 o2 : Nat) (k1 k2 : ClassId) : CE := (va_up (va_up κ.1 29 o1) 30 o2, va_up (va_up κ.2.1 29 k1) 30 k2, (kE κ, some q), κ.2.2.2.1, κ.2.2.2.2)
def f0_ : MS := (fun k => if k = 1 then -1 else 0, fun _ _ => 0, fun _ _ => 0, fun _ => 0)
theorem FInv0 : FInv f0_ := by unfold FInv f0_; decide
theorem pX_kF {κ : CE} {q o1 o2 : Nat} {k1 k2 : ClassId} {ψ : MS} : pX (kF κ q o1 o2 k1 k2) (kP κ) ψ = pX κ (kP κ) ψ := by
  cases kP κ with
  | none => rfl
  | some b => rfl
theorem fX_kG {κ : CE} {q o1 o2 : Nat} {k1 k2 : ClassId} {φ : MS} : fX (kG κ q o1 o2 k1 k2) (kE κ) φ = fX κ (kE κ) φ := by
  cases kE κ with
  | none => rfl
  | some b => rfl
theorem mkFP {D : va_G} {cl : List vw_C} {κ : CE} {φ ψ σ : MS} {H : Heap} {q o1 o2 : Nat} {k1 k2 : ClassId} (he : kE κ = none) (h : va_P D cl (cF0 (kF κ q o1 o2 k1 k2) σ :: (((cFt κ σ ++ xX κ φ ψ) ++ va_pl (kL κ) (kf κ)) ++ FR (kF κ q o1 o2 k1 k2) q f0_)) H) : va_P D cl (xW (kF κ q o1 o2 k1 k2) (xX (kF κ q o1 o2 k1 k2) f0_ ψ) σ) H := by
  refine pmP h (fun z hz => ?_)
  have hz : z ∈ (((cF0 (kF κ q o1 o2 k1 k2) σ :: cFt κ σ) ++ (FR (kF κ q o1 o2 k1 k2) q f0_ ++ pX (kF κ q o1 o2 k1 k2) (kP κ) ψ)) ++ va_pl (kL κ) (kf κ)) := hz
  rw [pX_kF] at hz
  have e : xX κ φ ψ = pX κ (kP κ) ψ := by unfold xX; rw [he]; rfl
  rw [e]
  simp only [List.mem_append, List.mem_cons] at hz ⊢
  rcases hz with ((h | h) | h | h) | h
  · exact Or.inl h
  · exact Or.inr (Or.inl (Or.inl (Or.inl h)))
  · exact Or.inr (Or.inr h)
  · exact Or.inr (Or.inl (Or.inl (Or.inr h)))
  · exact Or.inr (Or.inl (Or.inr h))
theorem mkFD {A : Nat → Prop} {κ : CE} {φ ψ σ : MS} {q o1 o2 : Nat} {k1 k2 : ClassId} (he : kE κ = none) (h : va_D A (cF0 (kF κ q o1 o2 k1 k2) σ :: (((cFt κ σ ++ xX κ φ ψ) ++ va_pl (kL κ) (kf κ)) ++ FR (kF κ q o1 o2 k1 k2) q f0_))) : va_D A (xW (kF κ q o1 o2 k1 k2) (xX (kF κ q o1 o2 k1 k2) f0_ ψ) σ) := by
  refine pmD0 h ?_
  show List.Perm _ (((cF0 (kF κ q o1 o2 k1 k2) σ :: cFt κ σ) ++ (FR (kF κ q o1 o2 k1 k2) q f0_ ++ pX (kF κ q o1 o2 k1 k2) (kP κ) ψ)) ++ va_pl (kL κ) (kf κ))
  rw [pX_kF]
  have e : xX κ φ ψ = pX κ (kP κ) ψ := by unfold xX; rw [he]; rfl
  rw [e, List.cons_append, List.cons_append]
  refine List.Perm.cons _ ?_
  rw [List.append_assoc, List.append_assoc, List.append_assoc]
  refine List.Perm.append_left _ ?_
  rw [List.append_assoc, ← List.append_assoc (pX κ (kP κ) ψ)]
  exact List.perm_append_comm
theorem mkGP {D : va_G} {cl : List vw_C} {κ : CE} {φ ψ σ : MS} {H : Heap} {q o1 o2 : Nat} {k1 k2 : ClassId} (he : kP κ = none) (h : va_P D cl (cF0 (kG κ q o1 o2 k1 k2) σ :: (((cFt κ σ ++ xX κ φ ψ) ++ va_pl (kL κ) (kf κ)) ++ PL (kG κ q o1 o2 k1 k2) q f0_)) H) : va_P D cl (xW (kG κ q o1 o2 k1 k2) (xX (kG κ q o1 o2 k1 k2) φ f0_) σ) H := by
  refine pmP h (fun z hz => ?_)
  have hz : z ∈ (((cF0 (kG κ q o1 o2 k1 k2) σ :: cFt κ σ) ++ (fX (kG κ q o1 o2 k1 k2) (kE κ) φ ++ PL (kG κ q o1 o2 k1 k2) q f0_)) ++ va_pl (kL κ) (kf κ)) := hz
  rw [fX_kG] at hz
  have e : xX κ φ ψ = fX κ (kE κ) φ := by unfold xX; rw [he]; exact List.append_nil _
  rw [e]
  simp only [List.mem_append, List.mem_cons] at hz ⊢
  rcases hz with ((h | h) | h | h) | h
  · exact Or.inl h
  · exact Or.inr (Or.inl (Or.inl (Or.inl h)))
  · exact Or.inr (Or.inl (Or.inl (Or.inr h)))
  · exact Or.inr (Or.inr h)
  · exact Or.inr (Or.inl (Or.inr h))
theorem mkGD {A : Nat → Prop} {κ : CE} {φ ψ σ : MS} {q o1 o2 : Nat} {k1 k2 : ClassId} (he : kP κ = none) (h : va_D A (cF0 (kG κ q o1 o2 k1 k2) σ :: (((cFt κ σ ++ xX κ φ ψ) ++ va_pl (kL κ) (kf κ)) ++ PL (kG κ q o1 o2 k1 k2) q f0_))) : va_D A (xW (kG κ q o1 o2 k1 k2) (xX (kG κ q o1 o2 k1 k2) φ f0_) σ) := by
  refine pmD0 h ?_
  show List.Perm _ (((cF0 (kG κ q o1 o2 k1 k2) σ :: cFt κ σ) ++ (fX (kG κ q o1 o2 k1 k2) (kE κ) φ ++ PL (kG κ q o1 o2 k1 k2) q f0_)) ++ va_pl (kL κ) (kf κ))
  rw [fX_kG]
  have e : xX κ φ ψ = fX κ (kE κ) φ := by unfold xX; rw [he]; exact List.append_nil _
  rw [e, List.cons_append, List.cons_append]
  refine List.Perm.cons _ ?_
  rw [List.append_assoc, List.append_assoc, List.append_assoc, List.append_assoc]
  refine List.Perm.append_left _ (List.Perm.append_left _ ?_)
  exact List.perm_append_comm

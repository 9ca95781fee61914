/-! own rows of p28: worlds in another order, calls over a part of a world -/
theorem pmP {D : va_G} {cl : List vw_C} {ws ws' : va_W} {H : Heap} (h : va_P D cl ws H) (hs : ∀ q, q ∈ ws' → q ∈ ws) : va_P D cl ws' H := fun k q hk => by
  obtain ⟨i, hi⟩ := List.getElem?_of_mem (hs q (List.mem_of_getElem? hk))
  exact h i q hi
theorem vD_iff {A : Nat → Prop} {ws : va_W} : va_D A ws ↔ (ws.map Prod.fst).Nodup ∧ ∀ q ∈ ws, A q.1 := by
  constructor
  · intro h
    refine ⟨List.pairwise_iff_getElem.mpr (fun i j hi hj hij e => ?_), fun q hq => ?_⟩
    · rw [List.length_map] at hi hj
      rw [List.getElem_map, List.getElem_map] at e
      have := h.1 i j _ _ (List.getElem?_eq_getElem hi) (List.getElem?_eq_getElem hj) e
      omega
    · obtain ⟨i, hi⟩ := List.getElem?_of_mem hq
      exact h.2 i q hi
  · intro h
    refine ⟨fun i j p q hp hq e => ?_, fun k q hk => h.2 q (List.mem_of_getElem? hk)⟩
    obtain ⟨hi, ei⟩ := List.getElem?_eq_some_iff.mp hp
    obtain ⟨hj, ej⟩ := List.getElem?_eq_some_iff.mp hq
    have h1 := List.pairwise_iff_getElem.mp h.1
    have hi' : i < (ws.map Prod.fst).length := by rw [List.length_map]; exact hi
    have hj' : j < (ws.map Prod.fst).length := by rw [List.length_map]; exact hj
    rcases Nat.lt_trichotomy i j with g | g | g
    · exact absurd (by rw [List.getElem_map, List.getElem_map, ei, ej]; exact e) (h1 i j hi' hj' g)
    · exact g
    · exact absurd (by rw [List.getElem_map, List.getElem_map, ei, ej]; exact e.symm) (h1 j i hj' hi' g)
theorem pmD {A : Nat → Prop} {ws ws' r : va_W} (h : va_D A ws) (hp : List.Perm ws (ws' ++ r)) : va_D A ws' := by
  obtain ⟨h1, h2⟩ := vD_iff.mp h
  have h3 : ((ws' ++ r).map Prod.fst).Nodup := (hp.map Prod.fst).nodup_iff.mp h1
  rw [List.map_append] at h3
  exact vD_iff.mpr ⟨(List.nodup_append.mp h3).1, fun q hq => h2 q (hp.mem_iff.mpr (List.mem_append_left _ hq))⟩
theorem pmD0 {A : Nat → Prop} {ws ws' : va_W} (h : va_D A ws) (hp : List.Perm ws ws') : va_D A ws' := pmD (r := []) h (by rw [List.append_nil]; exact hp)
theorem swP {D : va_G} {cl : List vw_C} {κ : CE} {X Y : va_W} {σ : MS} {H : Heap} (h : va_P D cl (xW κ (X ++ Y) σ) H) : va_P D cl (xW κ (Y ++ X) σ) H := pmP h (fun q hq => by
  simp only [xW, List.mem_append] at hq ⊢
  rcases hq with (h | h | h) | h
  · exact Or.inl (Or.inl h)
  · exact Or.inl (Or.inr (Or.inr h))
  · exact Or.inl (Or.inr (Or.inl h))
  · exact Or.inr h)
theorem swD {A : Nat → Prop} {κ : CE} {X Y : va_W} {σ : MS} (h : va_D A (xW κ (X ++ Y) σ)) : va_D A (xW κ (Y ++ X) σ) := pmD0 h (List.Perm.append_right _ (List.Perm.append_left _ List.perm_append_comm))
def fX (κ : CE) (o : Option Nat) (φ : MS) : va_W := match o with
  | none => []
  | some a => FR κ a φ
def pX (κ : CE) (o : Option Nat) (ψ : MS) : va_W := match o with
  | none => []
  | some b => PL κ b ψ
def xX (κ : CE) (φ ψ : MS) : va_W := fX κ (kE κ) φ ++ pX κ (kP κ) ψ
theorem vfP {D : va_G} {cl : List vw_C} {κ : CE} {φ ψ σ : MS} {H : Heap} {a : Nat} (he : kE κ = some a) : va_P D cl (xW κ (xX κ φ ψ) σ) H ↔ va_P D cl (xW κ (FR κ a φ ++ pX κ (kP κ) ψ) σ) H := by
  unfold xX; rw [he]; exact Iff.rfl
theorem vfD {A : Nat → Prop} {κ : CE} {φ ψ σ : MS} {a : Nat} (he : kE κ = some a) : va_D A (xW κ (xX κ φ ψ) σ) ↔ va_D A (xW κ (FR κ a φ ++ pX κ (kP κ) ψ) σ) := by
  unfold xX; rw [he]; exact Iff.rfl
theorem vpP {D : va_G} {cl : List vw_C} {κ : CE} {φ ψ σ : MS} {H : Heap} {b : Nat} (he : kP κ = some b) : va_P D cl (xW κ (xX κ φ ψ) σ) H ↔ va_P D cl (xW κ (PL κ b ψ ++ fX κ (kE κ) φ) σ) H := by
  unfold xX; rw [he]; exact ⟨swP, swP⟩
theorem vpD {A : Nat → Prop} {κ : CE} {φ ψ σ : MS} {b : Nat} (he : kP κ = some b) : va_D A (xW κ (xX κ φ ψ) σ) ↔ va_D A (xW κ (PL κ b ψ ++ fX κ (kE κ) φ) σ) := by
  unfold xX; rw [he]; exact ⟨swD, swD⟩
section ZK
variable {p : Program} {l : Launch} {e : Env} {R : Room} {s : State} {m : MethodId} {args : Array Value} {below : List Frame} {meth : Method} {c : Code} {H : Heap} {locs : List Loc} {cells slots : Nat} {Q : State → Prop} {pc : Nat} {ls : Array Slot} {rest st0 : List Value} {a : Array Value} {A0 : Nat → Prop} {H0 : Heap} {mc ms : Nat} {dC : Nat → ClassId} {dI : Nat → Nat → Nat}
/-- a call over the end of the world -/
theorem zc_v {S : Type} {post : S → Prop} {wc wr : va_W} {w1 : S → va_W} {ty1 : S → List (ClassId × FieldType)}
    (hr : va_Run p l e R s m args below meth c H locs cells slots mc ms (F0 m pc ls st0) rest (va_Qv post (fun u => wEn dC dI (va_A wc H.size) (w1 u) (ty1 u)) (va_A wc H.size) a) (va_A wc H.size))
    (hP : va_P (dC, dI) vwCl (wr ++ wc) H) (hD : va_D A0 (wr ++ wc)) (hS : va_S A0 H0 H locs) (hA : ∀ q, H0.size ≤ q → A0 q)
    (kk : ∀ (u : S) (H1 : Heap) (locs1 : List Loc), post u → va_K (dC, dI) vwCl (ty1 u) s → va_P (dC, dI) vwCl (wr ++ w1 u) H1 → va_D A0 (wr ++ w1 u) → va_S A0 H0 H1 locs1 → W p l e R s m args below meth c H1 locs1 (cells + mc) (slots + ms) Q (F0 m (pc + 3) ls rest)) : W p l e R s m args below meth c H locs cells slots Q (F0 m pc ls st0) := by
  have hF : ∀ q, va_A wc H.size q → A0 q := fun q h => by
    rcases h with ⟨k, e, h⟩ | h
    · exact hD.2 (wr.length + k) (q, e) (by rw [List.getElem?_append_right (by omega), Nat.add_sub_cancel_left]; exact h)
    · exact hA q (Nat.le_trans hS.1 h)
  have apart : ∀ (i : Nat) (q : Nat × va_E), wr[i]? = some q → (wr ++ wc)[i]? = some q ∧ q.1 < H.size ∧ ¬ va_A wc H.size q.1 := fun i q hi => by
    have hil := (List.getElem?_eq_some_iff.mp hi).1
    have h1 : (wr ++ wc)[i]? = some q := by rw [List.getElem?_append_left hil]; exact hi
    refine ⟨h1, (hP i q h1).lt, fun h => ?_⟩
    rcases h with ⟨k, e, h⟩ | h
    · have h2 : (wr ++ wc)[wr.length + k]? = some (q.1, e) := by rw [List.getElem?_append_right (by omega), Nat.add_sub_cancel_left]; exact h
      have := hD.1 i (wr.length + k) q (q.1, e) h1 h2 rfl
      omega
    · have := (hP i q h1).lt
      omega
  refine va_callv hr hS (fun q _ h => hF q h) hF (fun u t H1 locs1 ht hvm hw hB hz hk hS1 => ?_)
  obtain ⟨hP1, hK1, hD1⟩ := hB
  rw [ht] at hP1
  refine kk u H1 locs1 hw (va_K.moved hvm.symm hK1) (va_P.app (fun k q hq => ?_) hP1) (va_D.app (pmD (r := wc) hD (List.Perm.refl _)) (hD1.weaken (fun _ q _ h => hF q.1 h)) (fun i j x y hx hy hxy => ?_)) hS1
  · obtain ⟨g0, g1, g2⟩ := apart k q hq
    exact (hP k q g0).kept (hk q.1 g1 g2)
  · exact (apart i x hx).2.2 (by rw [hxy]; exact hD1.2 j y hy)
theorem zk_i {S : Type} {post : Int32 → S → Prop} {ws : va_W} {w1 : S → va_W} {ty1 : S → List (ClassId × FieldType)}
    (hr : va_Run p l e R s m args below meth c H locs cells slots mc ms (F0 m pc ls st0) rest (va_Qi post (fun u => wEn dC dI (va_A ws H.size) (w1 u) (ty1 u)) (va_A ws H.size) a) (va_A ws H.size))
    (hD : va_D A0 ws) (hS : va_S A0 H0 H locs) (hA : ∀ q, H0.size ≤ q → A0 q)
    (kk : ∀ (r : Int32) (u : S) (H1 : Heap) (locs1 : List Loc), post r u → va_K (dC, dI) vwCl (ty1 u) s → va_P (dC, dI) vwCl (w1 u) H1 → va_D A0 (w1 u) → va_S A0 H0 H1 locs1 → W p l e R s m args below meth c H1 locs1 (cells + mc) (slots + ms) Q (F0 m (pc + 3) ls (.int r :: rest))) : W p l e R s m args below meth c H locs cells slots Q (F0 m pc ls st0) := by
  have hF := free_all hD hS hA
  refine va_calli hr hS (fun q _ h => hF q h) hF (fun r u t H1 locs1 ht hvm hw hB hz hk hS1 => ?_)
  obtain ⟨hP1, hK1, hD1⟩ := hB
  rw [ht] at hP1
  exact kk r u H1 locs1 hw (va_K.moved hvm.symm hK1) hP1 (hD1.weaken (fun _ q _ h => hF q.1 h)) hS1
theorem zk_l {S : Type} {post : Int64 → S → Prop} {ws : va_W} {w1 : S → va_W} {ty1 : S → List (ClassId × FieldType)}
    (hr : va_Run p l e R s m args below meth c H locs cells slots mc ms (F0 m pc ls st0) rest (va_Ql post (fun u => wEn dC dI (va_A ws H.size) (w1 u) (ty1 u)) (va_A ws H.size) a) (va_A ws H.size))
    (hD : va_D A0 ws) (hS : va_S A0 H0 H locs) (hA : ∀ q, H0.size ≤ q → A0 q)
    (kk : ∀ (r : Int64) (u : S) (H1 : Heap) (locs1 : List Loc), post r u → va_K (dC, dI) vwCl (ty1 u) s → va_P (dC, dI) vwCl (w1 u) H1 → va_D A0 (w1 u) → va_S A0 H0 H1 locs1 → W p l e R s m args below meth c H1 locs1 (cells + mc) (slots + ms) Q (F0 m (pc + 3) ls (.long r :: rest))) : W p l e R s m args below meth c H locs cells slots Q (F0 m pc ls st0) := by
  have hF := free_all hD hS hA
  refine va_calll hr hS (fun q _ h => hF q h) hF (fun r u t H1 locs1 ht hvm hw hB hz hk hS1 => ?_)
  obtain ⟨hP1, hK1, hD1⟩ := hB
  rw [ht] at hP1
  exact kk r u H1 locs1 hw (va_K.moved hvm.symm hK1) hP1 (hD1.weaken (fun _ q _ h => hF q.1 h)) hS1
theorem zk_q {S : Type} {post : Option Nat → S → Prop} {ws : va_W} {w1 : S → va_W} {ty1 : S → List (ClassId × FieldType)}
    (hr : va_Run p l e R s m args below meth c H locs cells slots mc ms (F0 m pc ls st0) rest (va_Qq post (fun u => wEn dC dI (va_A ws H.size) (w1 u) (ty1 u)) (va_A ws H.size) a) (va_A ws H.size))
    (hD : va_D A0 ws) (hS : va_S A0 H0 H locs) (hA : ∀ q, H0.size ≤ q → A0 q)
    (kk : ∀ (r : Option Nat) (u : S) (H1 : Heap) (locs1 : List Loc), post r u → va_K (dC, dI) vwCl (ty1 u) s → va_P (dC, dI) vwCl (w1 u) H1 → va_D A0 (w1 u) → va_S A0 H0 H1 locs1 → W p l e R s m args below meth c H1 locs1 (cells + mc) (slots + ms) Q (F0 m (pc + 3) ls (va_rf r :: rest))) : W p l e R s m args below meth c H locs cells slots Q (F0 m pc ls st0) := by
  have hF := free_all hD hS hA
  refine va_callq hr hS (fun q _ h => hF q h) hF (fun r u t H1 locs1 ht hvm hw hB hz hk hS1 => ?_)
  obtain ⟨hP1, hK1, hD1⟩ := hB
  rw [ht] at hP1
  exact kk r u H1 locs1 hw (va_K.moved hvm.symm hK1) hP1 (hD1.weaken (fun _ q _ h => hF q.1 h)) hS1
end ZK

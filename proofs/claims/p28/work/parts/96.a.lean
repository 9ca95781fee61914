/-! own rows of p28: the law's two worlds -/
section ZL
variable {p : Program} {l : Launch} {e : Env} {R : Room} {s : State} {m : MethodId} {args : Array Value} {below : List Frame} {meth : Method} {c : Code} {H : Heap} {locs : List Loc} {cells slots : Nat} {Q : State → Prop} {pc : Nat} {ls : Array Slot} {rest st0 : List Value} {a : Array Value} {A0 : Nat → Prop} {H0 : Heap} {mc ms : Nat} {dC : Nat → ClassId} {dI : Nat → Nat → Nat}
theorem zc_i {S : Type} {post : Int32 → S → Prop} {wc wr : va_W} {w1 : S → va_W} {ty1 : S → List (ClassId × FieldType)}
    (hr : va_Run p l e R s m args below meth c H locs cells slots mc ms (F0 m pc ls st0) rest (va_Qi post (fun u => wEn dC dI (va_A wc H.size) (w1 u) (ty1 u)) (va_A wc H.size) a) (va_A wc H.size))
    (hP : va_P (dC, dI) vwCl (wr ++ wc) H) (hD : va_D A0 (wr ++ wc)) (hS : va_S A0 H0 H locs) (hA : ∀ q, H0.size ≤ q → A0 q)
    (kk : ∀ (r : Int32) (u : S) (H1 : Heap) (locs1 : List Loc), post r u → va_K (dC, dI) vwCl (ty1 u) s → va_P (dC, dI) vwCl (wr ++ w1 u) H1 → va_D A0 (wr ++ w1 u) → va_S A0 H0 H1 locs1 → W p l e R s m args below meth c H1 locs1 (cells + mc) (slots + ms) Q (F0 m (pc + 3) ls (.int r :: rest))) : W p l e R s m args below meth c H locs cells slots Q (F0 m pc ls st0) := by
  have hF : ∀ q, va_A wc H.size q → A0 q := fun q h => by
    rcases h with ⟨k, e, h⟩ | h
    · exact hD.2 (wr.length + k) (q, e) (by rw [List.getElem?_append_right (by omega), Nat.add_sub_cancel_left]; exact h)
    · exact hA q (Nat.le_trans hS.1 h)
  have apart : ∀ (i : Nat) (q : Nat × va_E), wr[i]? = some q → (wr ++ wc)[i]? = some q ∧ q.1 < H.size ∧ ¬ va_A wc H.size q.1 := fun i q hi => by
    have hil := (List.getElem?_eq_some_iff.mp hi).1
    have h1 : (wr ++ wc)[i]? = some q := by rw [List.getElem?_append_left hil]; exact hi
    refine ⟨h1, (hP i q h1).lt, fun h => ?_⟩
    rcases h with ⟨k, e, h⟩ | h
    · have h2 : (wr ++ wc)[wr.length + k]? = some (q.1, e) := by rw [List.getElem?_append_right (by omega), Nat.add_sub_cancel_left]; exact h
      have := hD.1 i (wr.length + k) q (q.1, e) h1 h2 rfl
      omega
    · have := (hP i q h1).lt
      omega
  refine va_calli hr hS (fun q _ h => hF q h) hF (fun r u t H1 locs1 ht hvm hw hB hz hk hS1 => ?_)
  obtain ⟨hP1, hK1, hD1⟩ := hB
  rw [ht] at hP1
  refine kk r u H1 locs1 hw (va_K.moved hvm.symm hK1) (va_P.app (fun k q hq => ?_) hP1) (va_D.app (pmD (r := wc) hD (List.Perm.refl _)) (hD1.weaken (fun _ q _ h => hF q.1 h)) (fun i j x y hx hy hxy => ?_)) hS1
  · obtain ⟨g0, g1, g2⟩ := apart k q hq
    exact (hP k q g0).kept (hk q.1 g1 g2)
  · exact (apart i x hx).2.2 (by rw [hxy]; exact hD1.2 j y hy)
/-- the same over the world's beginning -/
theorem zp_i {S : Type} {post : Int32 → S → Prop} {wc wr : va_W} {w1 : S → va_W} {ty1 : S → List (ClassId × FieldType)}
    (hr : va_Run p l e R s m args below meth c H locs cells slots mc ms (F0 m pc ls st0) rest (va_Qi post (fun u => wEn dC dI (va_A wc H.size) (w1 u) (ty1 u)) (va_A wc H.size) a) (va_A wc H.size))
    (hP : va_P (dC, dI) vwCl (wc ++ wr) H) (hD : va_D A0 (wc ++ wr)) (hS : va_S A0 H0 H locs) (hA : ∀ q, H0.size ≤ q → A0 q)
    (kk : ∀ (r : Int32) (u : S) (H1 : Heap) (locs1 : List Loc), post r u → va_P (dC, dI) vwCl (w1 u ++ wr) H1 → va_D A0 (w1 u ++ wr) → va_S A0 H0 H1 locs1 → W p l e R s m args below meth c H1 locs1 (cells + mc) (slots + ms) Q (F0 m (pc + 3) ls (.int r :: rest))) : W p l e R s m args below meth c H locs cells slots Q (F0 m pc ls st0) :=
  zc_i hr (pmP hP (fun z h => (List.mem_append.mp h).elim (List.mem_append_right _) (List.mem_append_left _))) (pmD0 hD List.perm_append_comm) hS hA (fun r u H1 locs1 hq _ hP hD hS => kk r u H1 locs1 hq (pmP hP (fun z h => (List.mem_append.mp h).elim (List.mem_append_right _) (List.mem_append_left _))) (pmD0 hD List.perm_append_comm) hS)
theorem zc_l {S : Type} {post : Int64 → S → Prop} {wc wr : va_W} {w1 : S → va_W} {ty1 : S → List (ClassId × FieldType)}
    (hr : va_Run p l e R s m args below meth c H locs cells slots mc ms (F0 m pc ls st0) rest (va_Ql post (fun u => wEn dC dI (va_A wc H.size) (w1 u) (ty1 u)) (va_A wc H.size) a) (va_A wc H.size))
    (hP : va_P (dC, dI) vwCl (wr ++ wc) H) (hD : va_D A0 (wr ++ wc)) (hS : va_S A0 H0 H locs) (hA : ∀ q, H0.size ≤ q → A0 q)
    (kk : ∀ (r : Int64) (u : S) (H1 : Heap) (locs1 : List Loc), post r u → va_K (dC, dI) vwCl (ty1 u) s → va_P (dC, dI) vwCl (wr ++ w1 u) H1 → va_D A0 (wr ++ w1 u) → va_S A0 H0 H1 locs1 → W p l e R s m args below meth c H1 locs1 (cells + mc) (slots + ms) Q (F0 m (pc + 3) ls (.long r :: rest))) : W p l e R s m args below meth c H locs cells slots Q (F0 m pc ls st0) := by
  have hF : ∀ q, va_A wc H.size q → A0 q := fun q h => by
    rcases h with ⟨k, e, h⟩ | h
    · exact hD.2 (wr.length + k) (q, e) (by rw [List.getElem?_append_right (by omega), Nat.add_sub_cancel_left]; exact h)
    · exact hA q (Nat.le_trans hS.1 h)
  have apart : ∀ (i : Nat) (q : Nat × va_E), wr[i]? = some q → (wr ++ wc)[i]? = some q ∧ q.1 < H.size ∧ ¬ va_A wc H.size q.1 := fun i q hi => by
    have hil := (List.getElem?_eq_some_iff.mp hi).1
    have h1 : (wr ++ wc)[i]? = some q := by rw [List.getElem?_append_left hil]; exact hi
    refine ⟨h1, (hP i q h1).lt, fun h => ?_⟩
    rcases h with ⟨k, e, h⟩ | h
    · have h2 : (wr ++ wc)[wr.length + k]? = some (q.1, e) := by rw [List.getElem?_append_right (by omega), Nat.add_sub_cancel_left]; exact h
      have := hD.1 i (wr.length + k) q (q.1, e) h1 h2 rfl
      omega
    · have := (hP i q h1).lt
      omega
  refine va_calll hr hS (fun q _ h => hF q h) hF (fun r u t H1 locs1 ht hvm hw hB hz hk hS1 => ?_)
  obtain ⟨hP1, hK1, hD1⟩ := hB
  rw [ht] at hP1
  refine kk r u H1 locs1 hw (va_K.moved hvm.symm hK1) (va_P.app (fun k q hq => ?_) hP1) (va_D.app (pmD (r := wc) hD (List.Perm.refl _)) (hD1.weaken (fun _ q _ h => hF q.1 h)) (fun i j x y hx hy hxy => ?_)) hS1
  · obtain ⟨g0, g1, g2⟩ := apart k q hq
    exact (hP k q g0).kept (hk q.1 g1 g2)
  · exact (apart i x hx).2.2 (by rw [hxy]; exact hD1.2 j y hy)
/-- the same over the world's beginning -/
theorem zp_l {S : Type} {post : Int64 → S → Prop} {wc wr : va_W} {w1 : S → va_W} {ty1 : S → List (ClassId × FieldType)}
    (hr : va_Run p l e R s m args below meth c H locs cells slots mc ms (F0 m pc ls st0) rest (va_Ql post (fun u => wEn dC dI (va_A wc H.size) (w1 u) (ty1 u)) (va_A wc H.size) a) (va_A wc H.size))
    (hP : va_P (dC, dI) vwCl (wc ++ wr) H) (hD : va_D A0 (wc ++ wr)) (hS : va_S A0 H0 H locs) (hA : ∀ q, H0.size ≤ q → A0 q)
    (kk : ∀ (r : Int64) (u : S) (H1 : Heap) (locs1 : List Loc), post r u → va_P (dC, dI) vwCl (w1 u ++ wr) H1 → va_D A0 (w1 u ++ wr) → va_S A0 H0 H1 locs1 → W p l e R s m args below meth c H1 locs1 (cells + mc) (slots + ms) Q (F0 m (pc + 3) ls (.long r :: rest))) : W p l e R s m args below meth c H locs cells slots Q (F0 m pc ls st0) :=
  zc_l hr (pmP hP (fun z h => (List.mem_append.mp h).elim (List.mem_append_right _) (List.mem_append_left _))) (pmD0 hD List.perm_append_comm) hS hA (fun r u H1 locs1 hq _ hP hD hS => kk r u H1 locs1 hq (pmP hP (fun z h => (List.mem_append.mp h).elim (List.mem_append_right _) (List.mem_append_left _))) (pmD0 hD List.perm_append_comm) hS)
end ZL
/-- whether PLAN is made -/
def bc (κ : CE) : Nat := match kP κ with
  | none => 0
  | some _ => 1
theorem bc_n {κ : CE} (h : kP κ = none) : bc κ = 0 := by unfold bc; rw [h]
theorem bc_s {κ : CE} {b : Nat} (h : kP κ = some b) : bc κ = 1 := by unfold bc; rw [h]
theorem bc_e {κ κ' : CE} (h : kP κ' = kP κ) : bc κ' = bc κ := by unfold bc; rw [h]
/-- what holds between two calls of the law -/
def LG (dC : Nat → ClassId) (dI : Nat → Nat → Nat) (A : Nat → Prop) (s : State) (κ : CE) (φ ψ σ : MS) (h : Nat) (ad : Nat → Nat) (cl : Nat → ClassId) (μ : MS) (H : Heap) (locs : List Loc) : Prop :=
  va_P (dC, dI) vwCl (mW h ad cl μ ++ xW κ (xX κ φ ψ) σ) H ∧ va_D A (mW h ad cl μ ++ xW κ (xX κ φ ψ) σ) ∧ va_S A s.heap H locs ∧ va_K (dC, dI) vwCl (mT cl) s ∧ va_K (dC, dI) vwCl (tT κ) s ∧ PInv κ ∧ CInv σ ∧ FInv φ ∧ Inv μ ∧ RI μ
theorem lxP {D : va_G} {cl : List vw_C} {w : va_W} {κ : CE} {X : va_W} {σ : MS} {H : Heap} (h : va_P D cl (w ++ xW κ X σ) H) : va_P D cl (w ++ cW (ky κ X) σ) H := h
theorem lxD {A : Nat → Prop} {w : va_W} {κ : CE} {X : va_W} {σ : MS} (h : va_D A (w ++ xW κ X σ)) : va_D A (w ++ cW (ky κ X) σ) := h
theorem xlP {D : va_G} {cl : List vw_C} {w : va_W} {κ : CE} {X : va_W} {σ : MS} {H : Heap} (h : va_P D cl (w ++ cW (ky κ X) σ) H) : va_P D cl (w ++ xW κ X σ) H := h
theorem xlD {A : Nat → Prop} {w : va_W} {κ : CE} {X : va_W} {σ : MS} (h : va_D A (w ++ cW (ky κ X) σ)) : va_D A (w ++ xW κ X σ) := h
theorem rP {D : va_G} {cl : List vw_C} {w v : va_W} {H : Heap} (h : va_P D cl (w ++ v) H) : va_P D cl v H := pmP h (fun _ z => List.mem_append_right _ z)
theorem rD {A : Nat → Prop} {w v : va_W} (h : va_D A (w ++ v)) : va_D A v := pmD (r := w) h List.perm_append_comm
theorem lP {D : va_G} {cl : List vw_C} {w v : va_W} {H : Heap} (h : va_P D cl (w ++ v) H) : va_P D cl w H := pmP h (fun _ z => List.mem_append_left _ z)
theorem lD {A : Nat → Prop} {w v : va_W} (h : va_D A (w ++ v)) : va_D A w := pmD (r := v) h (List.Perm.refl _)
theorem sx_in {i z : Int32} {k : Int} {L : Nat} (hz : z.toInt = i.toInt + k) (h0 : 0 ≤ i.toInt) (hk : 0 ≤ k) (hL : i.toInt + k < (L : Int)) : vp_in z L := ti_inx (by omega) (by omega)
theorem ps_eq {r r' x : Int32} (h : (r.toInt = 1 ∧ 0 ≤ x.toInt ∧ x.toInt ≤ 99999) ∨ (r.toInt = 0 ∧ (x.toInt < 0 ∨ 99999 < x.toInt))) (h' : (r' = 1 ∧ 0 ≤ x.toInt ∧ x.toInt ≤ 99999) ∨ (r' = 0 ∧ (x.toInt < 0 ∨ 99999 < x.toInt))) : r = r' := by
  apply Int32.toInt_inj.mp
  have k0 : (0 : Int32).toInt = 0 := by decide
  have k1 : (1 : Int32).toInt = 1 := by decide
  rcases h' with ⟨e, h'⟩ | ⟨e, h'⟩ <;> rw [e] <;> omega
theorem RI_scr {τ σ : MS} (hI : Inv σ) (h : RI σ) (hx : eqx [37, 41, 42, 43, 44, 45, 46, 32, 47, 48, 49, 54, 55, 56, 57] τ σ) : RI τ := RI.x hI h hx (by decide) (by decide) (by decide) (fun q h1 h2 h3 => by simp at h3; omega) (fun q h1 h3 => by simp at h3; omega) (by decide) (by decide) (by decide) (by decide)
theorem RI_day {τ σ : MS} (hI : Inv σ) (h : RI σ) (hx : eqx [37, 41, 42, 43, 44, 45, 46, 32, 47, 48, 49, 54, 55, 56, 57, 58] τ σ) : RI τ := RI.x hI h hx (by decide) (by decide) (by decide) (fun q h1 h2 h3 => by simp at h3; omega) (fun q h1 h3 => by simp at h3; omega) (by decide) (by decide) (by decide) (by decide)
theorem RI_feed {τ σ : MS} (hI : Inv σ) (h : RI σ) (hx : eqx [0, 2] τ σ) : RI τ := RI.x hI h hx (by decide) (by decide) (by decide) (fun q h1 h2 h3 => by simp at h3; omega) (fun q h1 h3 => by simp at h3; omega) (by decide) (by decide) (by decide) (by decide)
theorem RI_end {τ σ : MS} (hI : Inv σ) (h : RI σ) (hx : eqx [2] τ σ) : RI τ := RI.x hI h hx (by decide) (by decide) (by decide) (fun q h1 h2 h3 => by simp at h3; omega) (fun q h1 h3 => by simp at h3; omega) (by decide) (by decide) (by decide) (by decide)
theorem RI_guard {τ σ : MS} (hI : Inv σ) (h : RI σ) (hx : eqx [50, 51, 52, 53] τ σ) : RI τ := RI.x hI h hx (by decide) (by decide) (by decide) (fun q h1 h2 h3 => by simp at h3; omega) (fun q h1 h3 => by simp at h3; omega) (by decide) (by decide) (by decide) (by decide)
theorem RI_purse {τ σ : MS} (hI : Inv σ) (h : RI σ) (hx : eqx [58] τ σ) : RI τ := RI.x hI h hx (by decide) (by decide) (by decide) (fun q h1 h2 h3 => by simp at h3; omega) (fun q h1 h3 => by simp at h3; omega) (by decide) (by decide) (by decide) (by decide)
theorem RI_sheet {τ σ : MS} (hI : Inv σ) (h : RI σ) (hx : eqx [38, 31, 39] τ σ) (hn : NumS τ) : RI τ := RI.num hI h hx (by decide) (by decide) (fun q h1 h2 h3 => by simp at h3; omega) (fun q h1 h3 => by simp at h3; omega) (by decide) (by decide) (by decide) hn
theorem RI_put {τ σ : MS} (hI : Inv σ) (h : RI σ) (hx : eqx [31] τ σ) (hn : NumS τ) : RI τ := RI.num hI h hx (by decide) (by decide) (fun q h1 h2 h3 => by simp at h3; omega) (fun q h1 h3 => by simp at h3; omega) (by decide) (by decide) (by decide) hn
theorem RI_change {τ σ : MS} (hI : Inv σ) (h : RI σ) (hx : eqx [33, 34, 35, 36, 40] τ σ) (hn : ChR τ) : RI τ := RI.chg hI h hx (by decide) (by decide) (fun q h1 h2 h3 => by simp at h3; omega) (fun q h1 h3 => by simp at h3; omega) (by decide) hn

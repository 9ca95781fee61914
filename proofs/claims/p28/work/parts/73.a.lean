theorem nI_cl {z : Int32} (h : 0 ≤ z.toInt) : nI z.toNatClampNeg = z := by
  have q := ti_cl (x := z) rfl h
  have h2 := Int32.toInt_lt z
  exact Int32.toInt_inj.mp (by rw [nI_toInt (by omega)]; exact q)
theorem Opn.y {ps : List Nat} {τ σ : MS} {ch : Int32} {on : Nat → Int32} {L H : Nat → Int64} (h : Opn τ ch on L H) (hx : eqx ps τ σ) (h29 : 29 ∉ ps) (h40 : 40 ∉ ps) (h33 : 33 ∉ ps) (hc : ∀ p ∈ ps, ¬ ((11 ≤ p ∧ p ≤ 24) ∨ (33 ≤ p ∧ p ≤ 36))) (hj : ∀ p ∈ ps, ¬ (p = 27 ∨ p = 28)) : Opn σ ch on L H := by
  have ec := cor_x hx hc
  have e12 : τ.2.1 12 = σ.2.1 12 := congrFun ec 12
  have h2 := h.2
  rw [(hx 29 h29).1, ec, coJ_x hx hj, e12] at h2
  exact ⟨h.1.y hx h40 h33, h2⟩
theorem PlanI.cg {σ τ τ' : MS} {x : Int32} {m iv : Int} (h : PlanI σ x m iv τ) (e4 : τ'.2.1 54 = τ.2.1 54) (e5 : τ'.2.1 55 = τ.2.1 55) : PlanI σ x m iv τ' := by unfold PlanI; rw [e4, e5]; exact h
theorem FarsI.cg {σ τ τ' : MS} {x : Int32} {i n : Nat} (h : FarsI σ x i n τ) (e6 : τ'.2.1 56 = τ.2.1 56) (e7 : τ'.2.1 57 = τ.2.1 57) : FarsI σ x i n τ' := by unfold FarsI; rw [e6, e7]; exact h
theorem FarsI.snoc {σ τ τ' : MS} {x : Int32} {i n : Nat} {v s : Int32} (h : FarsI σ x i n τ) (e6 : τ'.2.1 56 = upd (τ.2.1 56) n v) (e7 : τ'.2.1 57 = upd (τ.2.1 57) n s) (hv : v.toInt = 401 ∨ ∃ r, FarC σ x (nI i) (nI n) r ∧ 0 ≤ r.toInt ∧ r.toInt ≤ 400 ∧ v.toInt = r.toInt) (h0 : n = 0 → v.toInt = 0 ∧ s = 0) : FarsI σ x i (n + 1) τ' := fun c hc => by
  rw [e6, e7]
  by_cases e : c = n
  · subst e; rw [pk_us, pk_us]; exact ⟨hv, h0⟩
  · rw [pk_un e, pk_un e]; exact h c (by omega)
theorem PlanI.pick {σ τ τ' : MS} {x : Int32} {m : Int} {i b : Nat} {c : Int32} (h : PlanI σ x m i τ) (hb : b ≤ 400) (hm : m ≤ 400) (e4 : τ'.2.1 54 = τ.2.1 54) (e5 : τ'.2.1 55 = upd (τ.2.1 55) (401 * i + b) c) : PlanI σ x m i τ' := ⟨by rw [e4]; exact h.1, fun i' b' h1 h2 h3 => by rw [e5, pk_un (by omega)]; exact h.2 i' b' h1 h2 h3⟩
theorem PlanI.most {σ τ τ' : MS} {x : Int32} {m : Int} {i b : Nat} {c : Int32} (h : PlanI σ x m i τ) (hb : b ≤ 400) (hm : m ≤ 400) (e4 : τ'.2.1 54 = upd (τ.2.1 54) (401 * i + b) c) (e5 : τ'.2.1 55 = τ.2.1 55) : PlanI σ x m i τ' := ⟨fun b' i' h1 h2 => by rw [e4, pk_un (by omega)]; exact h.1 b' i' h1 h2, fun i' b' h1 h2 h3 => by rw [e5]; exact h.2 i' b' h1 h2 h3⟩
theorem RowI.pick {σ τ τ' : MS} {x : Int32} {i b : Nat} {c : Int32} (h : RowI σ x i b τ) (e4 : τ'.2.1 54 = τ.2.1 54) (e5 : τ'.2.1 55 = upd (τ.2.1 55) (401 * i + b) c) : RowI σ x i b τ' := fun b' hb => by rw [e4, e5, pk_un (by omega)]; exact h b' hb
theorem RowI.snoc {σ τ τ' : MS} {x : Int32} {i b : Nat} {c : Int32} (h : RowI σ x i b τ) (e4 : τ'.2.1 54 = upd (τ.2.1 54) (401 * i + b) c) (e5 : τ'.2.1 55 = τ.2.1 55) (hc : 0 ≤ c.toInt) (hp : PkOk σ x i b (τ.2.1 55 (401 * i + b))) : RowI σ x i (b + 1) τ' := fun b' hb => by
  rw [e4, e5]
  by_cases e : b' = b
  · subst e; rw [pk_us]; exact ⟨hc, hp⟩
  · rw [pk_un (by omega)]; exact h b' (by omega)
theorem RowI.cg {σ τ τ' : MS} {x : Int32} {i n : Nat} (h : RowI σ x i n τ) (e4 : τ'.2.1 54 = τ.2.1 54) (e5 : τ'.2.1 55 = τ.2.1 55) : RowI σ x i n τ' := by unfold RowI; rw [e4, e5]; exact h
theorem PlanI.down {σ τ : MS} {x : Int32} {m : Int} {i n : Nat} (h : PlanI σ x m i τ) (hr : RowI σ x i n τ) (hn : m < n) : PlanI σ x m ((i : Int) - 1) τ := ⟨fun b' i' h1 h2 => by rw [show i' = i by omega]; exact (hr b' (by omega)).1, fun i' b' h1 h2 h3 => by
  by_cases e : i' = i
  · subst e; exact (hr b' (by omega)).2
  · exact h.2 i' b' (by omega) h2 h3⟩
theorem PlanI.start {σ τ : MS} {x : Int32} {m : Int} {s : Nat} (hs : (s : Int) = (σ.1 39).toInt) (h : ∀ b : Nat, (b : Int) ≤ m → (τ.2.1 54 (401 * s + b)).toInt = 0) : PlanI σ x m ((s : Int) - 1) τ := ⟨fun b i h1 h2 => by rw [show i = s by omega, h b h2]; omega, fun i b h1 h2 h3 => by omega⟩

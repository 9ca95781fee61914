/-! all STEPS, one behind the other: without CHANGES (PlR), by a CHOICE (CaR) -/
def PlR (B : Nat) (T : Nat → Nat → Int32) (nb : Bool) (fr : Nat → Int32) (base : Int32) (n : Nat) (pl : Nat → Int64) : Prop := ∀ j, j < n → pl j = wkF B T nb fr pl j base (-1)
def shF (n : Int32) : Int64 := 1 <<< (n.toInt64 &&& 63)
def caF (B : Nat) (T : Nat → Nat → Int32) (J : Nat → Nat → Int64) (nb : Bool) (fr on : Nat → Int32) (cm : Nat → Int64) (j : Nat) (base : Int32) : Int64 :=
  if OnK T (on j) 4 then FO (J 27 (12 * B + j) + J 28 (12 * B + j)) 2
  else if OnK T (on j) 1 then FO (wkF B T nb fr cm j base (on j)) (shF (T 35 (on j).toNatClampNeg)) * shF (T 35 (on j).toNatClampNeg)
  else wkF B T nb fr cm j base (on j)
def CaR (B : Nat) (T : Nat → Nat → Int32) (J : Nat → Nat → Int64) (nb : Bool) (fr on : Nat → Int32) (base : Int32) (n : Nat) (cm : Nat → Int64) : Prop := ∀ j, j < n → cm j = caF B T J nb fr on cm j base
/-- the tables of the STEPS ahead of n -/
def StT (B : Nat) (T : Nat → Nat → Int32) (n : Nat) : Prop := ∀ j, j < n → StOk (T 17 (12 * B + j)).toInt (T 18 (12 * B + j)).toInt (T 19 (12 * B + j)).toInt (T 20 (12 * B + j)).toInt (T 21 (12 * B + j)).toInt (T 11 B).toInt j
theorem cl_lt2 {x : Int32} {n : Nat} (h0 : 0 ≤ x.toInt) (h1 : x.toInt < (n : Int)) : x.toNatClampNeg < n := cl_lt h0 h1
/-- a STEP is worth what those ahead make it worth -/
theorem wkF_loc {B : Nat} {T : Nat → Nat → Int32} {nb : Bool} {fr : Nat → Int32} {f g : Nat → Int64} {j : Nat} {base c : Int32} (hs : StOk (T 17 (12 * B + j)).toInt (T 18 (12 * B + j)).toInt (T 19 (12 * B + j)).toInt (T 20 (12 * B + j)).toInt (T 21 (12 * B + j)).toInt (T 11 B).toInt j) (h : ∀ i, i < j → f i = g i) : wkF B T nb fr f j base c = wkF B T nb fr g j base c := by
  unfold StOk at hs
  have hk : (T 17 (12 * B + j)).toInt = 0 ∨ (T 17 (12 * B + j)).toInt = 1 ∨ (T 17 (12 * B + j)).toInt = 2 ∨ (T 17 (12 * B + j)).toInt = 3 ∨ (T 17 (12 * B + j)).toInt = 4 ∨ (T 17 (12 * B + j)).toInt = 5 ∨ (T 17 (12 * B + j)).toInt = 6 ∨ (T 17 (12 * B + j)).toInt = 7 := by omega
  obtain ⟨-, -, -, ha, hb, -, hcd⟩ := hs
  rcases hk with k | k | k | k | k | k | k | k
  · rw [wk_0 (Or.inl k), wk_0 (Or.inl k)]
  · rw [wk_0 (Or.inr k), wk_0 (Or.inr k)]
  · have a := ha (by omega); have b := hb (by omega)
    rw [wk_2 k, wk_2 k, h _ (cl_lt a.1 a.2), h _ (cl_lt b.1 b.2)]
  · have a := ha (by omega); have b := hb (by omega)
    rw [wk_3 k, wk_3 k, h _ (cl_lt a.1 a.2), h _ (cl_lt b.1 b.2)]
  · have a := ha (by omega); have b := hb (by omega)
    rw [wk_4 k, wk_4 k, h _ (cl_lt a.1 a.2), h _ (cl_lt b.1 b.2)]
  · have a := ha (by omega)
    rw [wk_5 k, wk_5 k, h _ (cl_lt a.1 a.2)]
  · have b := hb (by omega)
    rw [wk_6 k, wk_6 k, h _ (cl_lt b.1 b.2)]
  · have a := ha (by omega); have b := hb (by omega); have cd := hcd k
    rw [wk_7 k, wk_7 k, h _ (cl_lt a.1 a.2), h _ (cl_lt b.1 b.2), h _ (cl_lt cd.1 cd.2.1), h _ (cl_lt cd.2.2.1 cd.2.2.2)]
theorem caF_loc {B : Nat} {T : Nat → Nat → Int32} {J : Nat → Nat → Int64} {nb : Bool} {fr on : Nat → Int32} {f g : Nat → Int64} {j : Nat} {base : Int32} (hs : StOk (T 17 (12 * B + j)).toInt (T 18 (12 * B + j)).toInt (T 19 (12 * B + j)).toInt (T 20 (12 * B + j)).toInt (T 21 (12 * B + j)).toInt (T 11 B).toInt j) (h : ∀ i, i < j → f i = g i) : caF B T J nb fr on f j base = caF B T J nb fr on g j base := by
  unfold caF; rw [wkF_loc hs h]
theorem PlR.snoc {B : Nat} {T : Nat → Nat → Int32} {nb : Bool} {fr : Nat → Int32} {base : Int32} {n : Nat} {pl : Nat → Int64} {r : Int64} (hs : StT B T (n + 1)) (h : PlR B T nb fr base n pl) (hr : r = wkF B T nb fr pl n base (-1)) : PlR B T nb fr base (n + 1) (vp_updL pl n r) := fun j hj => by
  have e : ∀ i, i < j → pl i = vp_updL pl n r i := fun i hi => (pk_uLn (by omega)).symm
  rw [← wkF_loc (hs j hj) e]
  by_cases q : j = n
  · subst q; rw [pk_uLs]; exact hr
  · rw [pk_uLn q]; exact h j (by omega)
theorem CaR.snoc {B : Nat} {T : Nat → Nat → Int32} {J : Nat → Nat → Int64} {nb : Bool} {fr on : Nat → Int32} {base : Int32} {n : Nat} {cm : Nat → Int64} {r : Int64} (hs : StT B T (n + 1)) (h : CaR B T J nb fr on base n cm) (hr : r = caF B T J nb fr on cm n base) : CaR B T J nb fr on base (n + 1) (vp_updL cm n r) := fun j hj => by
  have e : ∀ i, i < j → cm i = vp_updL cm n r i := fun i hi => (pk_uLn (by omega)).symm
  rw [← caF_loc (hs j hj) e]
  by_cases q : j = n
  · subst q; rw [pk_uLs]; exact hr
  · rw [pk_uLn q]; exact h j (by omega)
/-- what comes is told by the tables alone -/
theorem PlR.uniq {B : Nat} {T : Nat → Nat → Int32} {nb : Bool} {fr : Nat → Int32} {base : Int32} {n : Nat} {f g : Nat → Int64} (hs : StT B T n) (h : PlR B T nb fr base n f) (h2 : PlR B T nb fr base n g) : ∀ j, j < n → f j = g j := by
  intro j
  induction j using Nat.strongRecOn with
  | _ j ih => intro hj; rw [h j hj, h2 j hj]; exact wkF_loc (hs j hj) (fun i hi => ih i hi (by omega))
theorem CaR.uniq {B : Nat} {T : Nat → Nat → Int32} {J : Nat → Nat → Int64} {nb : Bool} {fr on : Nat → Int32} {base : Int32} {n : Nat} {f g : Nat → Int64} (hs : StT B T n) (h : CaR B T J nb fr on base n f) (h2 : CaR B T J nb fr on base n g) : ∀ j, j < n → f j = g j := by
  intro j
  induction j using Nat.strongRecOn with
  | _ j ih => intro hj; rw [h j hj, h2 j hj]; exact caF_loc (hs j hj) (fun i hi => ih i hi (by omega))
theorem RelP.stT {σ : MS} {B : Nat} (h : RelP σ B) : StT B (cor σ) (σ.2.1 12 B).toNatClampNeg := fun j hj => by
  have q : (j : Int) < (σ.2.1 12 B).toInt := by
    have e : (σ.2.1 12 B).toNatClampNeg = (σ.2.1 12 B).toInt.toNat := rfl
    omega
  exact h.2.1 j q
theorem StT.mono {B : Nat} {T : Nat → Nat → Int32} {n m : Nat} (h : StT B T n) (hm : m ≤ n) : StT B T m := fun j hj => h j (by omega)
theorem PlR.z {B : Nat} {T : Nat → Nat → Int32} {nb : Bool} {fr : Nat → Int32} {base : Int32} {pl : Nat → Int64} : PlR B T nb fr base (0 : Int32).toNatClampNeg pl := fun j hj => absurd hj (by rw [show (0 : Int32).toNatClampNeg = 0 from by decide]; exact Nat.not_lt_zero _)
theorem CaR.z {B : Nat} {T : Nat → Nat → Int32} {J : Nat → Nat → Int64} {nb : Bool} {fr on : Nat → Int32} {base : Int32} {cm : Nat → Int64} : CaR B T J nb fr on base (0 : Int32).toNatClampNeg cm := fun j hj => absurd hj (by rw [show (0 : Int32).toNatClampNeg = 0 from by decide]; exact Nat.not_lt_zero _)
theorem sh_ne : ∀ k, k < 100 → ¬ shF (nI k) = 0 := by decide
theorem shF_ne {n : Int32} (h0 : 0 ≤ n.toInt) (h1 : n.toInt ≤ 99) : ¬ shF n = 0 := by
  obtain ⟨k, hk, e⟩ := nI_of2 (x := n) (M := 99) (n := 99) (by decide) (fun z => by have := Int32.lt_iff_toInt_lt.mp z; have e0 : (0 : Int32).toInt = 0 := (by decide); omega) (Int32.le_iff_toInt_le.mpr (by have e9 : (99 : Int32).toInt = 99 := (by decide); omega))
  rw [e]; exact sh_ne k (by omega)
/-- the same tables, said of another state -/
theorem WkOk.x {ps : List Nat} {τ σ : MS} {s : Int32} (h : WkOk σ s) (hx : eqx ps τ σ) (h29 : 29 ∉ ps) (ht : ∀ q, 11 ≤ q → q ≤ 22 → q ∉ ps) : WkOk τ s := by
  have e29 : τ.1 29 = σ.1 29 := (hx 29 h29).1
  have et : ∀ p, 11 ≤ p → p ≤ 22 → τ.2.1 p = σ.2.1 p := fun p a b => (hx p (ht p a b)).2.1
  unfold WkOk
  rw [e29, et 12 (by omega) (by omega)]
  exact ⟨h.1.eqs et, h.2⟩
theorem ChOk.x {ps : List Nat} {τ σ : MS} {c : Int32} (h : ChOk σ c) (hx : eqx ps τ σ) (h34 : 34 ∉ ps) (h35 : 35 ∉ ps) : ChOk τ c := by
  have e4 := (hx 34 h34).2.1
  have e5 := (hx 35 h35).2.1
  unfold ChOk; rw [e4, e5]; exact h
def OnOk (σ : MS) : Prop := ∀ i, i < 12 → ChOk σ (σ.2.1 37 i)
theorem ca_4 {B : Nat} {T : Nat → Nat → Int32} {J : Nat → Nat → Int64} {nb : Bool} {fr on : Nat → Int32} {cm : Nat → Int64} {j : Nat} {base : Int32} (h : OnK T (on j) 4) : caF B T J nb fr on cm j base = FO (J 27 (12 * B + j) + J 28 (12 * B + j)) 2 := if_pos h
theorem ca_1 {B : Nat} {T : Nat → Nat → Int32} {J : Nat → Nat → Int64} {nb : Bool} {fr on : Nat → Int32} {cm : Nat → Int64} {j : Nat} {base : Int32} (h4 : ¬ OnK T (on j) 4) (h : OnK T (on j) 1) : caF B T J nb fr on cm j base = FO (wkF B T nb fr cm j base (on j)) (shF (T 35 (on j).toNatClampNeg)) * shF (T 35 (on j).toNatClampNeg) := by
  unfold caF; rw [if_neg h4, if_pos h]
theorem ca_n {B : Nat} {T : Nat → Nat → Int32} {J : Nat → Nat → Int64} {nb : Bool} {fr on : Nat → Int32} {cm : Nat → Int64} {j : Nat} {base : Int32} (h4 : ¬ OnK T (on j) 4) (h : ¬ OnK T (on j) 1) : caF B T J nb fr on cm j base = wkF B T nb fr cm j base (on j) := by
  unfold caF; rw [if_neg h4, if_neg h]
theorem ChOk.m1 {σ : MS} : ChOk σ (-1) := by
  have e : (-1 : Int32).toInt = -1 := by decide
  unfold ChOk; rw [e]
  exact ⟨by omega, by omega, fun h => absurd h (by omega), fun h => absurd h (by omega), fun h => absurd h (by omega)⟩
theorem cl_succ {z x : Int32} (h0 : 0 ≤ x.toInt) (h : z.toInt = x.toInt + 1) : z.toNatClampNeg = x.toNatClampNeg + 1 := by
  have q1 := ti_cl (x := x) rfl h0
  have q2 := ti_cl (x := z) rfl (by omega)
  omega
theorem cl_eq {z x : Int32} (h : z.toInt = x.toInt) : z.toNatClampNeg = x.toNatClampNeg := congrArg Int32.toNatClampNeg (Int32.toInt_inj.mp h)

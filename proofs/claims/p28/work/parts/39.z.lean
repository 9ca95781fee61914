/-! what the STEPS are worth: the reference's own sums, step by step -/
def FO (a b : Int64) : Int64 := if a - a / b * b = 0 then a / b else if 0 ≤ a then (if 0 ≤ b then a / b else a / b - 1) else (if 0 ≤ b then a / b - 1 else a / b)
def CO (v n : Int32) : Int32 := (FO v.toInt64 n.toInt64).toInt32 * n
/-- the tables that scratch work leaves alone -/
def cor (σ : MS) : Nat → Nat → Int32 := fun p => match p with
  | 11 => σ.2.1 11
  | 12 => σ.2.1 12
  | 13 => σ.2.1 13
  | 14 => σ.2.1 14
  | 15 => σ.2.1 15
  | 16 => σ.2.1 16
  | 17 => σ.2.1 17
  | 18 => σ.2.1 18
  | 19 => σ.2.1 19
  | 20 => σ.2.1 20
  | 21 => σ.2.1 21
  | 22 => σ.2.1 22
  | 23 => σ.2.1 23
  | 24 => σ.2.1 24
  | 33 => σ.2.1 33
  | 34 => σ.2.1 34
  | 35 => σ.2.1 35
  | 36 => σ.2.1 36
  | _ => fun _ => 0
def coJ (σ : MS) : Nat → Nat → Int64 := fun p => match p with
  | 27 => σ.2.2.1 27
  | 28 => σ.2.2.1 28
  | _ => fun _ => 0
theorem cor_eq {τ σ : MS} (h : ∀ p, (11 ≤ p ∧ p ≤ 24) ∨ (33 ≤ p ∧ p ≤ 36) → τ.2.1 p = σ.2.1 p) : cor τ = cor σ := funext fun p => by
  unfold cor; split <;> first | rfl | exact h _ (by omega)
theorem coJ_eq {τ σ : MS} (h : ∀ p, p = 27 ∨ p = 28 → τ.2.2.1 p = σ.2.2.1 p) : coJ τ = coJ σ := funext fun p => by
  unfold coJ; split <;> first | rfl | exact h _ (by omega)
theorem cor_x {ps : List Nat} {τ σ : MS} (h : eqx ps τ σ) (hp : ∀ p ∈ ps, ¬ ((11 ≤ p ∧ p ≤ 24) ∨ (33 ≤ p ∧ p ≤ 36))) : cor τ = cor σ := cor_eq fun p hc => (h p (fun z => hp p z hc)).2.1
theorem coJ_x {ps : List Nat} {τ σ : MS} (h : eqx ps τ σ) (hp : ∀ p ∈ ps, ¬ (p = 27 ∨ p = 28)) : coJ τ = coJ σ := coJ_eq fun p hc => (h p (fun z => hp p z hc)).2.2.1
abbrev OnK (T : Nat → Nat → Int32) (c : Int32) (kd : Int) : Prop := 0 ≤ c.toInt ∧ (T 34 c.toNatClampNeg).toInt = kd
def gt2 (x y : Int64) : Int64 := if y < x then x else y
def ls2 (x y : Int64) : Int64 := if x < y then x else y
def hasF (T : Nat → Nat → Int32) (all c : Int32) : Int32 := if OnK T c 5 then (if all.toInt < (T 35 c.toNatClampNeg).toInt then all else T 35 c.toNatClampNeg) else all
def byF (T : Nat → Nat → Int32) (c : Int32) : Int32 := if OnK T c 3 then T 35 c.toNatClampNeg else 1
def farF (T : Nat → Nat → Int32) (c : Int32) : Int32 := if OnK T c 0 then T 35 c.toNatClampNeg else 1
def bsF (T : Nat → Nat → Int32) (nb : Bool) (base c : Int32) : Int32 := if OnK T c 6 ∧ nb = true ∧ 0 < base.toInt then base - 12 else base
theorem has_y {T : Nat → Nat → Int32} {all c r : Int32} (h : OnK T c 5) (h1 : r.toInt = all.toInt ∨ r.toInt = (T 35 c.toNatClampNeg).toInt) (h2 : r.toInt ≤ all.toInt) (h3 : r.toInt ≤ (T 35 c.toNatClampNeg).toInt) : r = hasF T all c := by
  unfold hasF; rw [if_pos h]
  by_cases e : all.toInt < (T 35 c.toNatClampNeg).toInt
  · rw [if_pos e]; exact Int32.toInt_inj.mp (by omega)
  · rw [if_neg e]; exact Int32.toInt_inj.mp (by omega)
theorem has_n {T : Nat → Nat → Int32} {all c : Int32} (h : ¬ OnK T c 5) : all = hasF T all c := by unfold hasF; rw [if_neg h]
theorem by_y {T : Nat → Nat → Int32} {c r : Int32} (h : OnK T c 3) (e : r = T 35 c.toNatClampNeg) : r = byF T c := by unfold byF; rw [if_pos h, e]
theorem by_n {T : Nat → Nat → Int32} {c : Int32} (h : ¬ OnK T c 3) : 1 = byF T c := by unfold byF; rw [if_neg h]
theorem far_y {T : Nat → Nat → Int32} {c r : Int32} (h : OnK T c 0) (e : r = T 35 c.toNatClampNeg) : r = farF T c := by unfold farF; rw [if_pos h, e]
theorem far_n {T : Nat → Nat → Int32} {c : Int32} (h : ¬ OnK T c 0) : 1 = farF T c := by unfold farF; rw [if_neg h]
theorem bs_y {T : Nat → Nat → Int32} {base c r : Int32} (h : OnK T c 6) (h1 : 0 < base.toInt) (e : r = base - 12) : r = bsF T true base c := by unfold bsF; rw [if_pos ⟨h, rfl, h1⟩, e]
theorem bs_n {T : Nat → Nat → Int32} {nb : Bool} {base c : Int32} (h : ¬ (OnK T c 6 ∧ nb = true ∧ 0 < base.toInt)) : base = bsF T nb base c := by unfold bsF; rw [if_neg h]
def itN {α : Type} (g : α → α) : Nat → α → α
  | 0, x => x
  | n + 1, x => itN g n (g x)
theorem itN_s {α : Type} (g : α → α) (n : Nat) (x : α) : itN g (n + 1) x = g (itN g n x) := by
  induction n generalizing x with
  | zero => rfl
  | succ n ih => exact ih (g x)
theorem itN_fix {α : Type} {g : α → α} {x : α} (h : g x = x) (n : Nat) : itN g n x = x := by
  induction n with
  | zero => rfl
  | succ n ih => show itN g n (g x) = x; rw [h]; exact ih
theorem itN_add {α : Type} (g : α → α) (n m : Nat) (x : α) : itN g (n + m) x = itN g n (itN g m x) := by
  induction m generalizing x with
  | zero => rfl
  | succ m ih => exact ih (g x)
theorem it_fin {α : Type} {g : α → α} {x x0 : α} {c N : Nat} (h : x = itN g c x0) (hc : c ≤ N) (hf : g x = x) : itN g N x0 = x := by
  have e : N = (N - c) + c := by omega
  rw [e, itN_add, ← h]; exact itN_fix hf _
def stp (f : Int32 → Int32) (has far : Int32) (x : Int32 × Int64 × Int64 × Int32) : Int32 × Int64 × Int64 × Int32 := if x.1.toInt < has.toInt then (x.1 + far, x.2.1 + (f x.1).toInt64, gt2 x.2.2.1 (f x.1).toInt64, x.2.2.2 + 1) else x
def rowF (fr : Nat → Int32) (bs a by_ : Int32) : Int32 → Int32 := fun k => CO (fr (bs.toNatClampNeg + 6 * a.toNatClampNeg + k.toNatClampNeg)) by_
def ofA (B : Nat) (T : Nat → Nat → Int32) (j : Nat) : Int32 := T 14 (2 * B + (T 18 (12 * B + j)).toNatClampNeg)
def ofT (B : Nat) (T : Nat → Nat → Int32) (nb : Bool) (fr : Nat → Int32) (j : Nat) (base c : Int32) : Int32 × Int64 × Int64 × Int32 := itN (stp (rowF fr (bsF T nb base c) (T 18 (12 * B + j)) (byF T c)) (hasF T (ofA B T j) c) (farF T c)) 6 (0, 0, -1000000, 0)
def ofF (B : Nat) (T : Nat → Nat → Int32) (nb : Bool) (fr : Nat → Int32) (j : Nat) (base c : Int32) : Int64 :=
  if (T 17 (12 * B + j)).toInt = 1 then (ofT B T nb fr j base c).2.2.1
  else if 1 < (farF T c).toInt then (ofT B T nb fr j base c).2.1 * (hasF T (ofA B T j) c).toInt64 / (ofT B T nb fr j base c).2.2.2.toInt64
  else (ofT B T nb fr j base c).2.1
theorem of_m {B : Nat} {T : Nat → Nat → Int32} {nb : Bool} {fr : Nat → Int32} {j : Nat} {base c k n : Int32} {s m : Int64} (h : (T 17 (12 * B + j)).toInt = 1) (e : ofT B T nb fr j base c = (k, s, m, n)) : m = ofF B T nb fr j base c := by
  unfold ofF; rw [if_pos h, e]
theorem of_f {B : Nat} {T : Nat → Nat → Int32} {nb : Bool} {fr : Nat → Int32} {j : Nat} {base c k n : Int32} {s m : Int64} (h : ¬ (T 17 (12 * B + j)).toInt = 1) (h2 : 1 < (farF T c).toInt) (e : ofT B T nb fr j base c = (k, s, m, n)) : s * (hasF T (ofA B T j) c).toInt64 / n.toInt64 = ofF B T nb fr j base c := by
  unfold ofF; rw [if_neg h, if_pos h2, e]
theorem of_s {B : Nat} {T : Nat → Nat → Int32} {nb : Bool} {fr : Nat → Int32} {j : Nat} {base c k n : Int32} {s m : Int64} (h : ¬ (T 17 (12 * B + j)).toInt = 1) (h2 : ¬ 1 < (farF T c).toInt) (e : ofT B T nb fr j base c = (k, s, m, n)) : s = ofF B T nb fr j base c := by
  unfold ofF; rw [if_neg h, if_neg h2, e]
/-- what a CHANGE at hand may be: none, or one whose n fits -/
def ChOk (σ : MS) (c : Int32) : Prop := -1 ≤ c.toInt ∧ c.toInt ≤ 11 ∧ (0 ≤ c.toInt → (σ.2.1 34 c.toNatClampNeg).toInt = 0 → 2 ≤ (σ.2.1 35 c.toNatClampNeg).toInt) ∧ (0 ≤ c.toInt → (σ.2.1 34 c.toNatClampNeg).toInt = 3 → 2 ≤ (σ.2.1 35 c.toNatClampNeg).toInt) ∧ (0 ≤ c.toInt → (σ.2.1 34 c.toNatClampNeg).toInt = 5 → 1 ≤ (σ.2.1 35 c.toNatClampNeg).toInt)
/-- a STEP whose first place is a ROW that stands -/
def RwOk (σ : MS) (s : Int32) : Prop := 0 ≤ (σ.2.1 18 (12 * (σ.1 29).toNatClampNeg + s.toNatClampNeg)).toInt ∧ (σ.2.1 18 (12 * (σ.1 29).toNatClampNeg + s.toNatClampNeg)).toInt ≤ 1 ∧ 1 ≤ (ofA (σ.1 29).toNatClampNeg (cor σ) s.toNatClampNeg).toInt
theorem at0x {b s r : Int32} (hb : 0 ≤ b.toInt) (hs : 0 ≤ s.toInt) (h : r.toInt = 12 * b.toInt + s.toInt) : r.toNatClampNeg = 12 * b.toNatClampNeg + s.toNatClampNeg := by
  have q1 := ti_cl (x := b) rfl hb
  have q2 := ti_cl (x := s) rfl hs
  have q3 := ti_cl (x := r) rfl (by omega)
  omega
theorem row_x {b a r : Int32} (hb : 0 ≤ b.toInt) (hs : 0 ≤ a.toInt) (h : r.toInt = 2 * b.toInt + a.toInt) : r.toNatClampNeg = 2 * b.toNatClampNeg + a.toNatClampNeg := by
  have q1 := ti_cl (x := b) rfl hb
  have q2 := ti_cl (x := a) rfl hs
  have q3 := ti_cl (x := r) rfl (by omega)
  omega
theorem num_x {b a k r : Int32} (hb : 0 ≤ b.toInt) (ha : 0 ≤ a.toInt) (hk : 0 ≤ k.toInt) (h : r.toInt = b.toInt + 6 * a.toInt + k.toInt) : r.toNatClampNeg = b.toNatClampNeg + 6 * a.toNatClampNeg + k.toNatClampNeg := by
  have q1 := ti_cl (x := b) rfl hb
  have q2 := ti_cl (x := a) rfl ha
  have q4 := ti_cl (x := k) rfl hk
  have q3 := ti_cl (x := r) rfl (by omega)
  omega
theorem stp_y {f : Int32 → Int32} {has far k n : Int32} {s m : Int64} (h : k.toInt < has.toInt) : stp f has far (k, s, m, n) = (k + far, s + (f k).toInt64, gt2 m (f k).toInt64, n + 1) := if_pos h
theorem stp_n {f : Int32 → Int32} {has far k n : Int32} {s m : Int64} (h : ¬ k.toInt < has.toInt) : stp f has far (k, s, m, n) = (k, s, m, n) := if_neg h

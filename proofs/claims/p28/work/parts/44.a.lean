/-! SHOWN: the spans of the ERRORS, from STEP to STEP, as the reference sums them up -/
def lo4 (a b c d : Int64) : Int64 := ls2 (ls2 a b) (ls2 c d)
def hi4 (a b c d : Int64) : Int64 := gt2 (gt2 a b) (gt2 c d)
def tmLo (B : Nat) (J : Nat → Nat → Int64) (L H : Nat → Int64) (a b : Nat) : Int64 :=
  lo4 (J 27 (12 * B + a) * L b) (J 27 (12 * B + a) * H b) (J 28 (12 * B + a) * L b) (J 28 (12 * B + a) * H b) + lo4 (J 27 (12 * B + b) * L a) (J 27 (12 * B + b) * H a) (J 28 (12 * B + b) * L a) (J 28 (12 * B + b) * H a) + lo4 (L a * L b) (L a * H b) (H a * L b) (H a * H b)
def tmHi (B : Nat) (J : Nat → Nat → Int64) (L H : Nat → Int64) (a b : Nat) : Int64 :=
  hi4 (J 27 (12 * B + a) * L b) (J 27 (12 * B + a) * H b) (J 28 (12 * B + a) * L b) (J 28 (12 * B + a) * H b) + hi4 (J 27 (12 * B + b) * L a) (J 27 (12 * B + b) * H a) (J 28 (12 * B + b) * L a) (J 28 (12 * B + b) * H a) + hi4 (L a * L b) (L a * H b) (H a * L b) (H a * H b)
def ovLo (B : Nat) (J : Nat → Nat → Int64) (L : Nat → Int64) (a b : Nat) : Int64 := J 27 (12 * B + a) + L a - J 28 (12 * B + b)
def ovHi (B : Nat) (J : Nat → Nat → Int64) (H : Nat → Int64) (a b : Nat) : Int64 := J 28 (12 * B + a) + H a - J 27 (12 * B + b)
def pkLo (B : Nat) (J : Nat → Nat → Int64) (L : Nat → Int64) (a b : Nat) (u : Prop) [Decidable u] : Int64 := if u then ls2 (ls2 (L a) (L b)) (ls2 (ovLo B J L b a) (ovLo B J L a b)) else ls2 (L a) (L b)
def pkHi (B : Nat) (J : Nat → Nat → Int64) (H : Nat → Int64) (a b : Nat) (u : Prop) [Decidable u] : Int64 := if u then gt2 (gt2 (H a) (H b)) (gt2 (ovHi B J H b a) (ovHi B J H a b)) else gt2 (H a) (H b)
abbrev Ers (L H : Nat → Int64) (a : Nat) : Prop := ¬ (L a = 0 ∧ H a = 0)
def spLo (B : Nat) (T : Nat → Nat → Int32) (J : Nat → Nat → Int64) (L H : Nat → Int64) (j : Nat) : Int64 :=
  if (T 17 (12 * B + j)).toInt = 2 then L (T 18 (12 * B + j)).toNatClampNeg + L (T 19 (12 * B + j)).toNatClampNeg
  else if (T 17 (12 * B + j)).toInt = 3 then L (T 18 (12 * B + j)).toNatClampNeg - H (T 19 (12 * B + j)).toNatClampNeg
  else if (T 17 (12 * B + j)).toInt = 4 then tmLo B J L H (T 18 (12 * B + j)).toNatClampNeg (T 19 (12 * B + j)).toNatClampNeg
  else if (T 17 (12 * B + j)).toInt = 5 then (if Ers L H (T 18 (12 * B + j)).toNatClampNeg then FO (ls2 (L (T 18 (12 * B + j)).toNatClampNeg * (T 19 (12 * B + j)).toInt64) (H (T 18 (12 * B + j)).toNatClampNeg * (T 19 (12 * B + j)).toInt64)) (T 20 (12 * B + j)).toInt64 - 1 else 0)
  else if (T 17 (12 * B + j)).toInt = 7 then pkLo B J L (T 18 (12 * B + j)).toNatClampNeg (T 19 (12 * B + j)).toNatClampNeg (Ers L H (T 20 (12 * B + j)).toNatClampNeg ∨ Ers L H (T 21 (12 * B + j)).toNatClampNeg)
  else 0
def spHi (B : Nat) (T : Nat → Nat → Int32) (J : Nat → Nat → Int64) (L H : Nat → Int64) (j : Nat) : Int64 :=
  if (T 17 (12 * B + j)).toInt = 2 then H (T 18 (12 * B + j)).toNatClampNeg + H (T 19 (12 * B + j)).toNatClampNeg
  else if (T 17 (12 * B + j)).toInt = 3 then H (T 18 (12 * B + j)).toNatClampNeg - L (T 19 (12 * B + j)).toNatClampNeg
  else if (T 17 (12 * B + j)).toInt = 4 then tmHi B J L H (T 18 (12 * B + j)).toNatClampNeg (T 19 (12 * B + j)).toNatClampNeg
  else if (T 17 (12 * B + j)).toInt = 5 then (if Ers L H (T 18 (12 * B + j)).toNatClampNeg then 1 - FO (-(gt2 (L (T 18 (12 * B + j)).toNatClampNeg * (T 19 (12 * B + j)).toInt64) (H (T 18 (12 * B + j)).toNatClampNeg * (T 19 (12 * B + j)).toInt64))) (T 20 (12 * B + j)).toInt64 else 0)
  else if (T 17 (12 * B + j)).toInt = 7 then pkHi B J H (T 18 (12 * B + j)).toNatClampNeg (T 19 (12 * B + j)).toNatClampNeg (Ers L H (T 20 (12 * B + j)).toNatClampNeg ∨ Ers L H (T 21 (12 * B + j)).toNatClampNeg)
  else 0
/-- an at whose place errs stops it -/
def spOk (B : Nat) (T : Nat → Nat → Int32) (L H : Nat → Int64) (j : Nat) : Prop := (T 17 (12 * B + j)).toInt = 6 → ¬ Ers L H (T 19 (12 * B + j)).toNatClampNeg
section SP
variable {B : Nat} {T : Nat → Nat → Int32} {J : Nat → Nat → Int64} {L H : Nat → Int64} {j : Nat}
theorem sp_0 (h : (T 17 (12 * B + j)).toInt = 0 ∨ (T 17 (12 * B + j)).toInt = 1 ∨ (T 17 (12 * B + j)).toInt = 6) : spLo B T J L H j = 0 ∧ spHi B T J L H j = 0 := by
  unfold spLo spHi; rw [if_neg (by omega), if_neg (by omega), if_neg (by omega), if_neg (by omega), if_neg (by omega), if_neg (by omega), if_neg (by omega), if_neg (by omega), if_neg (by omega), if_neg (by omega)]
  exact ⟨rfl, rfl⟩
theorem sp_2 (h : (T 17 (12 * B + j)).toInt = 2) : spLo B T J L H j = L (T 18 (12 * B + j)).toNatClampNeg + L (T 19 (12 * B + j)).toNatClampNeg ∧ spHi B T J L H j = H (T 18 (12 * B + j)).toNatClampNeg + H (T 19 (12 * B + j)).toNatClampNeg := by
  unfold spLo spHi; rw [if_pos h, if_pos h]; exact ⟨rfl, rfl⟩
theorem sp_3 (h : (T 17 (12 * B + j)).toInt = 3) : spLo B T J L H j = L (T 18 (12 * B + j)).toNatClampNeg - H (T 19 (12 * B + j)).toNatClampNeg ∧ spHi B T J L H j = H (T 18 (12 * B + j)).toNatClampNeg - L (T 19 (12 * B + j)).toNatClampNeg := by
  unfold spLo spHi; rw [if_neg (by omega), if_pos h, if_neg (by omega), if_pos h]; exact ⟨rfl, rfl⟩
theorem sp_4 (h : (T 17 (12 * B + j)).toInt = 4) : spLo B T J L H j = tmLo B J L H (T 18 (12 * B + j)).toNatClampNeg (T 19 (12 * B + j)).toNatClampNeg ∧ spHi B T J L H j = tmHi B J L H (T 18 (12 * B + j)).toNatClampNeg (T 19 (12 * B + j)).toNatClampNeg := by
  unfold spLo spHi; rw [if_neg (by omega), if_neg (by omega), if_pos h, if_neg (by omega), if_neg (by omega), if_pos h]; exact ⟨rfl, rfl⟩
theorem sp_5y (h : (T 17 (12 * B + j)).toInt = 5) (he : Ers L H (T 18 (12 * B + j)).toNatClampNeg) : spLo B T J L H j = FO (ls2 (L (T 18 (12 * B + j)).toNatClampNeg * (T 19 (12 * B + j)).toInt64) (H (T 18 (12 * B + j)).toNatClampNeg * (T 19 (12 * B + j)).toInt64)) (T 20 (12 * B + j)).toInt64 - 1 ∧ spHi B T J L H j = 1 - FO (-(gt2 (L (T 18 (12 * B + j)).toNatClampNeg * (T 19 (12 * B + j)).toInt64) (H (T 18 (12 * B + j)).toNatClampNeg * (T 19 (12 * B + j)).toInt64))) (T 20 (12 * B + j)).toInt64 := by
  unfold spLo spHi; rw [if_neg (by omega), if_neg (by omega), if_neg (by omega), if_pos h, if_pos he, if_neg (by omega), if_neg (by omega), if_neg (by omega), if_pos h, if_pos he]; exact ⟨rfl, rfl⟩
theorem sp_5n (h : (T 17 (12 * B + j)).toInt = 5) (he : ¬ Ers L H (T 18 (12 * B + j)).toNatClampNeg) : spLo B T J L H j = 0 ∧ spHi B T J L H j = 0 := by
  unfold spLo spHi; rw [if_neg (by omega), if_neg (by omega), if_neg (by omega), if_pos h, if_neg he, if_neg (by omega), if_neg (by omega), if_neg (by omega), if_pos h, if_neg he]; exact ⟨rfl, rfl⟩
theorem sp_7 (h : (T 17 (12 * B + j)).toInt = 7) : spLo B T J L H j = pkLo B J L (T 18 (12 * B + j)).toNatClampNeg (T 19 (12 * B + j)).toNatClampNeg (Ers L H (T 20 (12 * B + j)).toNatClampNeg ∨ Ers L H (T 21 (12 * B + j)).toNatClampNeg) ∧ spHi B T J L H j = pkHi B J H (T 18 (12 * B + j)).toNatClampNeg (T 19 (12 * B + j)).toNatClampNeg (Ers L H (T 20 (12 * B + j)).toNatClampNeg ∨ Ers L H (T 21 (12 * B + j)).toNatClampNeg) := by
  unfold spLo spHi; rw [if_neg (by omega), if_neg (by omega), if_neg (by omega), if_neg (by omega), if_pos h, if_neg (by omega), if_neg (by omega), if_neg (by omega), if_neg (by omega), if_pos h]; exact ⟨rfl, rfl⟩
end SP
theorem pk_y {B : Nat} {J : Nat → Nat → Int64} {L H : Nat → Int64} {a b : Nat} {u : Prop} [Decidable u] (h : u) : pkLo B J L a b u = ls2 (ls2 (L a) (L b)) (ls2 (ovLo B J L b a) (ovLo B J L a b)) ∧ pkHi B J H a b u = gt2 (gt2 (H a) (H b)) (gt2 (ovHi B J H b a) (ovHi B J H a b)) := ⟨if_pos h, if_pos h⟩
theorem pk_n {B : Nat} {J : Nat → Nat → Int64} {L H : Nat → Int64} {a b : Nat} {u : Prop} [Decidable u] (h : ¬ u) : pkLo B J L a b u = ls2 (L a) (L b) ∧ pkHi B J H a b u = gt2 (H a) (H b) := ⟨if_neg h, if_neg h⟩
/-- of a ROW: SHORT, OLD -/
def rFar (T : Nat → Nat → Int32) (r : Nat) : Int64 := (T 16 r - T 15 r).toInt64
def rwLo (T : Nat → Nat → Int32) (r : Nat) (K kd : Int) (n : Int32) (lo : Int64) : Int64 := if kd = 6 then (if K = 0 then (-(T 14 r)).toInt64 * rFar T r else -(rFar T r)) else if 0 < (T 14 r - n).toInt64 then (if K = 0 then -((T 14 r - n).toInt64) * (T 16 r).toInt64 else -(rFar T r)) else lo
def rwHi (T : Nat → Nat → Int32) (r : Nat) (K kd : Int) (n : Int32) (hi : Int64) : Int64 := if kd = 6 then -(if K = 0 then (-(T 14 r)).toInt64 * rFar T r else -(rFar T r)) else if 0 < (T 14 r - n).toInt64 then (if K = 0 then -((T 14 r - n).toInt64) * (T 15 r).toInt64 else 0) else hi
abbrev rw9 (B : Nat) (T : Nat → Nat → Int32) (j : Nat) : Nat := 2 * B + (T 18 (12 * B + j)).toNatClampNeg
/-- with the CHANGE of the STEP -/
def skL (B : Nat) (T : Nat → Nat → Int32) (j : Nat) (c : Int32) : Int32 := T 14 (rw9 B T j) - (T 14 (rw9 B T j) + T 35 c.toNatClampNeg - 1) / T 35 c.toNatClampNeg
def shLo (B : Nat) (T : Nat → Nat → Int32) (J : Nat → Nat → Int64) (L H : Nat → Int64) (c : Int32) (j : Nat) : Int64 :=
  if OnK T c 4 then FO (J 27 (12 * B + j) + J 28 (12 * B + j)) 2 - J 28 (12 * B + j)
  else if OnK T c 0 then (skL B T j c).toInt64 * (J 27 (12 * B + j) - J 28 (12 * B + j)) / (T 14 (rw9 B T j)).toInt64 - 1
  else if OnK T c 1 then spLo B T J L H j - (shF (T 35 c.toNatClampNeg) - 1)
  else if OnK T c 2 then (if (T 35 c.toNatClampNeg).toInt = 0 then ls2 (L (T 18 (12 * B + j)).toNatClampNeg) (ovLo B J L (T 18 (12 * B + j)).toNatClampNeg (T 19 (12 * B + j)).toNatClampNeg) else ls2 (L (T 19 (12 * B + j)).toNatClampNeg) (ovLo B J L (T 19 (12 * B + j)).toNatClampNeg (T 18 (12 * B + j)).toNatClampNeg))
  else if OnK T c 5 then rwLo T (rw9 B T j) (T 17 (12 * B + j)).toInt 5 (T 35 c.toNatClampNeg) (spLo B T J L H j)
  else if OnK T c 6 then rwLo T (rw9 B T j) (T 17 (12 * B + j)).toInt 6 0 (spLo B T J L H j)
  else if OnK T c 3 then spLo B T J L H j - (if (T 17 (12 * B + j)).toInt = 0 then (T 14 (rw9 B T j)).toInt64 else 1) * (T 35 c.toNatClampNeg - 1).toInt64
  else spLo B T J L H j
def shHi (B : Nat) (T : Nat → Nat → Int32) (J : Nat → Nat → Int64) (L H : Nat → Int64) (c : Int32) (j : Nat) : Int64 :=
  if OnK T c 4 then FO (J 27 (12 * B + j) + J 28 (12 * B + j)) 2 - J 27 (12 * B + j)
  else if OnK T c 0 then (skL B T j c).toInt64 * (J 28 (12 * B + j) - J 27 (12 * B + j)) / (T 14 (rw9 B T j)).toInt64 + 1
  else if OnK T c 2 then (if (T 35 c.toNatClampNeg).toInt = 0 then gt2 (H (T 18 (12 * B + j)).toNatClampNeg) (ovHi B J H (T 18 (12 * B + j)).toNatClampNeg (T 19 (12 * B + j)).toNatClampNeg) else gt2 (H (T 19 (12 * B + j)).toNatClampNeg) (ovHi B J H (T 19 (12 * B + j)).toNatClampNeg (T 18 (12 * B + j)).toNatClampNeg))
  else if OnK T c 5 then rwHi T (rw9 B T j) (T 17 (12 * B + j)).toInt 5 (T 35 c.toNatClampNeg) (spHi B T J L H j)
  else if OnK T c 6 then rwHi T (rw9 B T j) (T 17 (12 * B + j)).toInt 6 0 (spHi B T J L H j)
  else spHi B T J L H j
def shOk (B : Nat) (T : Nat → Nat → Int32) (L H : Nat → Int64) (c : Int32) (j : Nat) : Prop := OnK T c 4 ∨ spOk B T L H j
/-- the kind of a CHANGE fits the STEP, and its n -/
def FitK (K kd n : Int) : Prop := (kd = 0 → K = 0 ∧ 2 ≤ n ∧ n ≤ 6) ∧ (kd = 1 → 1 ≤ n ∧ n ≤ 10) ∧ (kd = 2 → K = 7 ∧ 0 ≤ n ∧ n ≤ 1) ∧ (kd = 3 → (K = 0 ∨ K = 1 ∨ K = 6) ∧ 2 ≤ n ∧ n ≤ 99) ∧ (kd = 4 → n = 0) ∧ (kd = 5 → (K = 0 ∨ K = 1) ∧ 1 ≤ n ∧ n ≤ 5) ∧ (kd = 6 → (K = 0 ∨ K = 1 ∨ K = 6) ∧ n = 0)
def FitC (B : Nat) (T : Nat → Nat → Int32) (j : Nat) (c : Int32) : Prop := -1 ≤ c.toInt ∧ c.toInt ≤ 11 ∧ (0 ≤ c.toInt → FitK (T 17 (12 * B + j)).toInt (T 34 c.toNatClampNeg).toInt (T 35 c.toNatClampNeg).toInt)
theorem FitC.ch {σ : MS} {B j : Nat} {c : Int32} (h : FitC B (cor σ) j c) : ChOk σ c := by
  have h2 : 0 ≤ c.toInt → FitK (σ.2.1 17 (12 * B + j)).toInt (σ.2.1 34 c.toNatClampNeg).toInt (σ.2.1 35 c.toNatClampNeg).toInt := h.2.2
  unfold FitK at h2
  unfold ChOk
  exact ⟨h.1, h.2.1, fun a b => ((h2 a).1 b).2.1, fun a b => ((h2 a).2.2.2.1 b).2.1, fun a b => ((h2 a).2.2.2.2.2.1 b).2.1⟩

/-! SKIP, in whole numbers: m of them, every n-th, t in all -/
theorem skip_int {v : Nat → Int} {X Y : Int} {m n t : Nat} (hm : 1 ≤ m ∧ m ≤ 6) (hn : 2 ≤ n ∧ n ≤ 6) (ht : t = (m + n - 1) / n) (hv : ∀ i, i < m → X ≤ v i ∧ v i ≤ Y) : ((m : Int) - t) * (X - Y) - 1 ≤ (sm (fun i => v (i * n)) t * m).tdiv t - sm v m ∧ (sm (fun i => v (i * n)) t * m).tdiv t - sm v m ≤ ((m : Int) - t) * (Y - X) + 1 := by
  have hm9 : m = 1 ∨ m = 2 ∨ m = 3 ∨ m = 4 ∨ m = 5 ∨ m = 6 := by omega
  have hn9 : n = 2 ∨ n = 3 ∨ n = 4 ∨ n = 5 ∨ n = 6 := by omega
  rcases hm9 with rfl | rfl | rfl | rfl | rfl | rfl
  · rcases hn9 with rfl | rfl | rfl | rfl | rfl
    · have e : t = 1 := by rw [ht]
      subst e
      have hS : sm (fun i => v (i * 2)) 1 = v 0 := by show 0 + v 0 = _; omega
      have hA : sm v 1 = v 0 := by show 0 + v 0 = _; omega
      have h0 := hv 0 (by omega)
      have hb := tdiv_bd (a := sm (fun i => v (i * 2)) 1 * ((1 : Nat) : Int)) (b := ((1 : Nat) : Int)) (by omega)
      rw [hS] at hb ⊢
      rw [hA]
      omega
    · have e : t = 1 := by rw [ht]
      subst e
      have hS : sm (fun i => v (i * 3)) 1 = v 0 := by show 0 + v 0 = _; omega
      have hA : sm v 1 = v 0 := by show 0 + v 0 = _; omega
      have h0 := hv 0 (by omega)
      have hb := tdiv_bd (a := sm (fun i => v (i * 3)) 1 * ((1 : Nat) : Int)) (b := ((1 : Nat) : Int)) (by omega)
      rw [hS] at hb ⊢
      rw [hA]
      omega
    · have e : t = 1 := by rw [ht]
      subst e
      have hS : sm (fun i => v (i * 4)) 1 = v 0 := by show 0 + v 0 = _; omega
      have hA : sm v 1 = v 0 := by show 0 + v 0 = _; omega
      have h0 := hv 0 (by omega)
      have hb := tdiv_bd (a := sm (fun i => v (i * 4)) 1 * ((1 : Nat) : Int)) (b := ((1 : Nat) : Int)) (by omega)
      rw [hS] at hb ⊢
      rw [hA]
      omega
    · have e : t = 1 := by rw [ht]
      subst e
      have hS : sm (fun i => v (i * 5)) 1 = v 0 := by show 0 + v 0 = _; omega
      have hA : sm v 1 = v 0 := by show 0 + v 0 = _; omega
      have h0 := hv 0 (by omega)
      have hb := tdiv_bd (a := sm (fun i => v (i * 5)) 1 * ((1 : Nat) : Int)) (b := ((1 : Nat) : Int)) (by omega)
      rw [hS] at hb ⊢
      rw [hA]
      omega
    · have e : t = 1 := by rw [ht]
      subst e
      have hS : sm (fun i => v (i * 6)) 1 = v 0 := by show 0 + v 0 = _; omega
      have hA : sm v 1 = v 0 := by show 0 + v 0 = _; omega
      have h0 := hv 0 (by omega)
      have hb := tdiv_bd (a := sm (fun i => v (i * 6)) 1 * ((1 : Nat) : Int)) (b := ((1 : Nat) : Int)) (by omega)
      rw [hS] at hb ⊢
      rw [hA]
      omega
  · rcases hn9 with rfl | rfl | rfl | rfl | rfl
    · have e : t = 1 := by rw [ht]
      subst e
      have hS : sm (fun i => v (i * 2)) 1 = v 0 := by show 0 + v 0 = _; omega
      have hA : sm v 2 = v 0 + v 1 := by show 0 + v 0 + v 1 = _; omega
      have h0 := hv 0 (by omega)
      have h1 := hv 1 (by omega)
      have hb := tdiv_bd (a := sm (fun i => v (i * 2)) 1 * ((2 : Nat) : Int)) (b := ((1 : Nat) : Int)) (by omega)
      rw [hS] at hb ⊢
      rw [hA]
      omega
    · have e : t = 1 := by rw [ht]
      subst e
      have hS : sm (fun i => v (i * 3)) 1 = v 0 := by show 0 + v 0 = _; omega
      have hA : sm v 2 = v 0 + v 1 := by show 0 + v 0 + v 1 = _; omega
      have h0 := hv 0 (by omega)
      have h1 := hv 1 (by omega)
      have hb := tdiv_bd (a := sm (fun i => v (i * 3)) 1 * ((2 : Nat) : Int)) (b := ((1 : Nat) : Int)) (by omega)
      rw [hS] at hb ⊢
      rw [hA]
      omega
    · have e : t = 1 := by rw [ht]
      subst e
      have hS : sm (fun i => v (i * 4)) 1 = v 0 := by show 0 + v 0 = _; omega
      have hA : sm v 2 = v 0 + v 1 := by show 0 + v 0 + v 1 = _; omega
      have h0 := hv 0 (by omega)
      have h1 := hv 1 (by omega)
      have hb := tdiv_bd (a := sm (fun i => v (i * 4)) 1 * ((2 : Nat) : Int)) (b := ((1 : Nat) : Int)) (by omega)
      rw [hS] at hb ⊢
      rw [hA]
      omega
    · have e : t = 1 := by rw [ht]
      subst e
      have hS : sm (fun i => v (i * 5)) 1 = v 0 := by show 0 + v 0 = _; omega
      have hA : sm v 2 = v 0 + v 1 := by show 0 + v 0 + v 1 = _; omega
      have h0 := hv 0 (by omega)
      have h1 := hv 1 (by omega)
      have hb := tdiv_bd (a := sm (fun i => v (i * 5)) 1 * ((2 : Nat) : Int)) (b := ((1 : Nat) : Int)) (by omega)
      rw [hS] at hb ⊢
      rw [hA]
      omega
    · have e : t = 1 := by rw [ht]
      subst e
      have hS : sm (fun i => v (i * 6)) 1 = v 0 := by show 0 + v 0 = _; omega
      have hA : sm v 2 = v 0 + v 1 := by show 0 + v 0 + v 1 = _; omega
      have h0 := hv 0 (by omega)
      have h1 := hv 1 (by omega)
      have hb := tdiv_bd (a := sm (fun i => v (i * 6)) 1 * ((2 : Nat) : Int)) (b := ((1 : Nat) : Int)) (by omega)
      rw [hS] at hb ⊢
      rw [hA]
      omega
  · rcases hn9 with rfl | rfl | rfl | rfl | rfl
    · have e : t = 2 := by rw [ht]
      subst e
      have hS : sm (fun i => v (i * 2)) 2 = v 0 + v 2 := by show 0 + v 0 + v 2 = _; omega
      have hA : sm v 3 = v 0 + v 1 + v 2 := by show 0 + v 0 + v 1 + v 2 = _; omega
      have h0 := hv 0 (by omega)
      have h1 := hv 1 (by omega)
      have h2 := hv 2 (by omega)
      have hb := tdiv_bd (a := sm (fun i => v (i * 2)) 2 * ((3 : Nat) : Int)) (b := ((2 : Nat) : Int)) (by omega)
      rw [hS] at hb ⊢
      rw [hA]
      omega
    · have e : t = 1 := by rw [ht]
      subst e
      have hS : sm (fun i => v (i * 3)) 1 = v 0 := by show 0 + v 0 = _; omega
      have hA : sm v 3 = v 0 + v 1 + v 2 := by show 0 + v 0 + v 1 + v 2 = _; omega
      have h0 := hv 0 (by omega)
      have h1 := hv 1 (by omega)
      have h2 := hv 2 (by omega)
      have hb := tdiv_bd (a := sm (fun i => v (i * 3)) 1 * ((3 : Nat) : Int)) (b := ((1 : Nat) : Int)) (by omega)
      rw [hS] at hb ⊢
      rw [hA]
      omega
    · have e : t = 1 := by rw [ht]
      subst e
      have hS : sm (fun i => v (i * 4)) 1 = v 0 := by show 0 + v 0 = _; omega
      have hA : sm v 3 = v 0 + v 1 + v 2 := by show 0 + v 0 + v 1 + v 2 = _; omega
      have h0 := hv 0 (by omega)
      have h1 := hv 1 (by omega)
      have h2 := hv 2 (by omega)
      have hb := tdiv_bd (a := sm (fun i => v (i * 4)) 1 * ((3 : Nat) : Int)) (b := ((1 : Nat) : Int)) (by omega)
      rw [hS] at hb ⊢
      rw [hA]
      omega
    · have e : t = 1 := by rw [ht]
      subst e
      have hS : sm (fun i => v (i * 5)) 1 = v 0 := by show 0 + v 0 = _; omega
      have hA : sm v 3 = v 0 + v 1 + v 2 := by show 0 + v 0 + v 1 + v 2 = _; omega
      have h0 := hv 0 (by omega)
      have h1 := hv 1 (by omega)
      have h2 := hv 2 (by omega)
      have hb := tdiv_bd (a := sm (fun i => v (i * 5)) 1 * ((3 : Nat) : Int)) (b := ((1 : Nat) : Int)) (by omega)
      rw [hS] at hb ⊢
      rw [hA]
      omega
    · have e : t = 1 := by rw [ht]
      subst e
      have hS : sm (fun i => v (i * 6)) 1 = v 0 := by show 0 + v 0 = _; omega
      have hA : sm v 3 = v 0 + v 1 + v 2 := by show 0 + v 0 + v 1 + v 2 = _; omega
      have h0 := hv 0 (by omega)
      have h1 := hv 1 (by omega)
      have h2 := hv 2 (by omega)
      have hb := tdiv_bd (a := sm (fun i => v (i * 6)) 1 * ((3 : Nat) : Int)) (b := ((1 : Nat) : Int)) (by omega)
      rw [hS] at hb ⊢
      rw [hA]
      omega
  · rcases hn9 with rfl | rfl | rfl | rfl | rfl
    · have e : t = 2 := by rw [ht]
      subst e
      have hS : sm (fun i => v (i * 2)) 2 = v 0 + v 2 := by show 0 + v 0 + v 2 = _; omega
      have hA : sm v 4 = v 0 + v 1 + v 2 + v 3 := by show 0 + v 0 + v 1 + v 2 + v 3 = _; omega
      have h0 := hv 0 (by omega)
      have h1 := hv 1 (by omega)
      have h2 := hv 2 (by omega)
      have h3 := hv 3 (by omega)
      have hb := tdiv_bd (a := sm (fun i => v (i * 2)) 2 * ((4 : Nat) : Int)) (b := ((2 : Nat) : Int)) (by omega)
      rw [hS] at hb ⊢
      rw [hA]
      omega
    · have e : t = 2 := by rw [ht]
      subst e
      have hS : sm (fun i => v (i * 3)) 2 = v 0 + v 3 := by show 0 + v 0 + v 3 = _; omega
      have hA : sm v 4 = v 0 + v 1 + v 2 + v 3 := by show 0 + v 0 + v 1 + v 2 + v 3 = _; omega
      have h0 := hv 0 (by omega)
      have h1 := hv 1 (by omega)
      have h2 := hv 2 (by omega)
      have h3 := hv 3 (by omega)
      have hb := tdiv_bd (a := sm (fun i => v (i * 3)) 2 * ((4 : Nat) : Int)) (b := ((2 : Nat) : Int)) (by omega)
      rw [hS] at hb ⊢
      rw [hA]
      omega
    · have e : t = 1 := by rw [ht]
      subst e
      have hS : sm (fun i => v (i * 4)) 1 = v 0 := by show 0 + v 0 = _; omega
      have hA : sm v 4 = v 0 + v 1 + v 2 + v 3 := by show 0 + v 0 + v 1 + v 2 + v 3 = _; omega
      have h0 := hv 0 (by omega)
      have h1 := hv 1 (by omega)
      have h2 := hv 2 (by omega)
      have h3 := hv 3 (by omega)
      have hb := tdiv_bd (a := sm (fun i => v (i * 4)) 1 * ((4 : Nat) : Int)) (b := ((1 : Nat) : Int)) (by omega)
      rw [hS] at hb ⊢
      rw [hA]
      omega
    · have e : t = 1 := by rw [ht]
      subst e
      have hS : sm (fun i => v (i * 5)) 1 = v 0 := by show 0 + v 0 = _; omega
      have hA : sm v 4 = v 0 + v 1 + v 2 + v 3 := by show 0 + v 0 + v 1 + v 2 + v 3 = _; omega
      have h0 := hv 0 (by omega)
      have h1 := hv 1 (by omega)
      have h2 := hv 2 (by omega)
      have h3 := hv 3 (by omega)
      have hb := tdiv_bd (a := sm (fun i => v (i * 5)) 1 * ((4 : Nat) : Int)) (b := ((1 : Nat) : Int)) (by omega)
      rw [hS] at hb ⊢
      rw [hA]
      omega
    · have e : t = 1 := by rw [ht]
      subst e
      have hS : sm (fun i => v (i * 6)) 1 = v 0 := by show 0 + v 0 = _; omega
      have hA : sm v 4 = v 0 + v 1 + v 2 + v 3 := by show 0 + v 0 + v 1 + v 2 + v 3 = _; omega
      have h0 := hv 0 (by omega)
      have h1 := hv 1 (by omega)
      have h2 := hv 2 (by omega)
      have h3 := hv 3 (by omega)
      have hb := tdiv_bd (a := sm (fun i => v (i * 6)) 1 * ((4 : Nat) : Int)) (b := ((1 : Nat) : Int)) (by omega)
      rw [hS] at hb ⊢
      rw [hA]
      omega
  · rcases hn9 with rfl | rfl | rfl | rfl | rfl
    · have e : t = 3 := by rw [ht]
      subst e
      have hS : sm (fun i => v (i * 2)) 3 = v 0 + v 2 + v 4 := by show 0 + v 0 + v 2 + v 4 = _; omega
      have hA : sm v 5 = v 0 + v 1 + v 2 + v 3 + v 4 := by show 0 + v 0 + v 1 + v 2 + v 3 + v 4 = _; omega
      have h0 := hv 0 (by omega)
      have h1 := hv 1 (by omega)
      have h2 := hv 2 (by omega)
      have h3 := hv 3 (by omega)
      have h4 := hv 4 (by omega)
      have hb := tdiv_bd (a := sm (fun i => v (i * 2)) 3 * ((5 : Nat) : Int)) (b := ((3 : Nat) : Int)) (by omega)
      rw [hS] at hb ⊢
      rw [hA]
      omega
    · have e : t = 2 := by rw [ht]
      subst e
      have hS : sm (fun i => v (i * 3)) 2 = v 0 + v 3 := by show 0 + v 0 + v 3 = _; omega
      have hA : sm v 5 = v 0 + v 1 + v 2 + v 3 + v 4 := by show 0 + v 0 + v 1 + v 2 + v 3 + v 4 = _; omega
      have h0 := hv 0 (by omega)
      have h1 := hv 1 (by omega)
      have h2 := hv 2 (by omega)
      have h3 := hv 3 (by omega)
      have h4 := hv 4 (by omega)
      have hb := tdiv_bd (a := sm (fun i => v (i * 3)) 2 * ((5 : Nat) : Int)) (b := ((2 : Nat) : Int)) (by omega)
      rw [hS] at hb ⊢
      rw [hA]
      omega
    · have e : t = 2 := by rw [ht]
      subst e
      have hS : sm (fun i => v (i * 4)) 2 = v 0 + v 4 := by show 0 + v 0 + v 4 = _; omega
      have hA : sm v 5 = v 0 + v 1 + v 2 + v 3 + v 4 := by show 0 + v 0 + v 1 + v 2 + v 3 + v 4 = _; omega
      have h0 := hv 0 (by omega)
      have h1 := hv 1 (by omega)
      have h2 := hv 2 (by omega)
      have h3 := hv 3 (by omega)
      have h4 := hv 4 (by omega)
      have hb := tdiv_bd (a := sm (fun i => v (i * 4)) 2 * ((5 : Nat) : Int)) (b := ((2 : Nat) : Int)) (by omega)
      rw [hS] at hb ⊢
      rw [hA]
      omega
    · have e : t = 1 := by rw [ht]
      subst e
      have hS : sm (fun i => v (i * 5)) 1 = v 0 := by show 0 + v 0 = _; omega
      have hA : sm v 5 = v 0 + v 1 + v 2 + v 3 + v 4 := by show 0 + v 0 + v 1 + v 2 + v 3 + v 4 = _; omega
      have h0 := hv 0 (by omega)
      have h1 := hv 1 (by omega)
      have h2 := hv 2 (by omega)
      have h3 := hv 3 (by omega)
      have h4 := hv 4 (by omega)
      have hb := tdiv_bd (a := sm (fun i => v (i * 5)) 1 * ((5 : Nat) : Int)) (b := ((1 : Nat) : Int)) (by omega)
      rw [hS] at hb ⊢
      rw [hA]
      omega
    · have e : t = 1 := by rw [ht]
      subst e
      have hS : sm (fun i => v (i * 6)) 1 = v 0 := by show 0 + v 0 = _; omega
      have hA : sm v 5 = v 0 + v 1 + v 2 + v 3 + v 4 := by show 0 + v 0 + v 1 + v 2 + v 3 + v 4 = _; omega
      have h0 := hv 0 (by omega)
      have h1 := hv 1 (by omega)
      have h2 := hv 2 (by omega)
      have h3 := hv 3 (by omega)
      have h4 := hv 4 (by omega)
      have hb := tdiv_bd (a := sm (fun i => v (i * 6)) 1 * ((5 : Nat) : Int)) (b := ((1 : Nat) : Int)) (by omega)
      rw [hS] at hb ⊢
      rw [hA]
      omega
  · rcases hn9 with rfl | rfl | rfl | rfl | rfl
    · have e : t = 3 := by rw [ht]
      subst e
      have hS : sm (fun i => v (i * 2)) 3 = v 0 + v 2 + v 4 := by show 0 + v 0 + v 2 + v 4 = _; omega
      have hA : sm v 6 = v 0 + v 1 + v 2 + v 3 + v 4 + v 5 := by show 0 + v 0 + v 1 + v 2 + v 3 + v 4 + v 5 = _; omega
      have h0 := hv 0 (by omega)
      have h1 := hv 1 (by omega)
      have h2 := hv 2 (by omega)
      have h3 := hv 3 (by omega)
      have h4 := hv 4 (by omega)
      have h5 := hv 5 (by omega)
      have hb := tdiv_bd (a := sm (fun i => v (i * 2)) 3 * ((6 : Nat) : Int)) (b := ((3 : Nat) : Int)) (by omega)
      rw [hS] at hb ⊢
      rw [hA]
      omega
    · have e : t = 2 := by rw [ht]
      subst e
      have hS : sm (fun i => v (i * 3)) 2 = v 0 + v 3 := by show 0 + v 0 + v 3 = _; omega
      have hA : sm v 6 = v 0 + v 1 + v 2 + v 3 + v 4 + v 5 := by show 0 + v 0 + v 1 + v 2 + v 3 + v 4 + v 5 = _; omega
      have h0 := hv 0 (by omega)
      have h1 := hv 1 (by omega)
      have h2 := hv 2 (by omega)
      have h3 := hv 3 (by omega)
      have h4 := hv 4 (by omega)
      have h5 := hv 5 (by omega)
      have hb := tdiv_bd (a := sm (fun i => v (i * 3)) 2 * ((6 : Nat) : Int)) (b := ((2 : Nat) : Int)) (by omega)
      rw [hS] at hb ⊢
      rw [hA]
      omega
    · have e : t = 2 := by rw [ht]
      subst e
      have hS : sm (fun i => v (i * 4)) 2 = v 0 + v 4 := by show 0 + v 0 + v 4 = _; omega
      have hA : sm v 6 = v 0 + v 1 + v 2 + v 3 + v 4 + v 5 := by show 0 + v 0 + v 1 + v 2 + v 3 + v 4 + v 5 = _; omega
      have h0 := hv 0 (by omega)
      have h1 := hv 1 (by omega)
      have h2 := hv 2 (by omega)
      have h3 := hv 3 (by omega)
      have h4 := hv 4 (by omega)
      have h5 := hv 5 (by omega)
      have hb := tdiv_bd (a := sm (fun i => v (i * 4)) 2 * ((6 : Nat) : Int)) (b := ((2 : Nat) : Int)) (by omega)
      rw [hS] at hb ⊢
      rw [hA]
      omega
    · have e : t = 2 := by rw [ht]
      subst e
      have hS : sm (fun i => v (i * 5)) 2 = v 0 + v 5 := by show 0 + v 0 + v 5 = _; omega
      have hA : sm v 6 = v 0 + v 1 + v 2 + v 3 + v 4 + v 5 := by show 0 + v 0 + v 1 + v 2 + v 3 + v 4 + v 5 = _; omega
      have h0 := hv 0 (by omega)
      have h1 := hv 1 (by omega)
      have h2 := hv 2 (by omega)
      have h3 := hv 3 (by omega)
      have h4 := hv 4 (by omega)
      have h5 := hv 5 (by omega)
      have hb := tdiv_bd (a := sm (fun i => v (i * 5)) 2 * ((6 : Nat) : Int)) (b := ((2 : Nat) : Int)) (by omega)
      rw [hS] at hb ⊢
      rw [hA]
      omega
    · have e : t = 1 := by rw [ht]
      subst e
      have hS : sm (fun i => v (i * 6)) 1 = v 0 := by show 0 + v 0 = _; omega
      have hA : sm v 6 = v 0 + v 1 + v 2 + v 3 + v 4 + v 5 := by show 0 + v 0 + v 1 + v 2 + v 3 + v 4 + v 5 = _; omega
      have h0 := hv 0 (by omega)
      have h1 := hv 1 (by omega)
      have h2 := hv 2 (by omega)
      have h3 := hv 3 (by omega)
      have h4 := hv 4 (by omega)
      have h5 := hv 5 (by omega)
      have hb := tdiv_bd (a := sm (fun i => v (i * 6)) 1 * ((6 : Nat) : Int)) (b := ((1 : Nat) : Int)) (by omega)
      rw [hS] at hb ⊢
      rw [hA]
      omega
/-- a ROW's numbers, and what it may be -/
def RwT (B : Nat) (T : Nat → Nat → Int32) : Prop := ∀ r : Nat, (r : Int) < (T 11 B).toInt → 1 ≤ (T 14 (2 * B + r)).toInt ∧ (T 14 (2 * B + r)).toInt ≤ 6 ∧ -999 ≤ (T 15 (2 * B + r)).toInt ∧ (T 15 (2 * B + r)).toInt ≤ (T 16 (2 * B + r)).toInt ∧ (T 16 (2 * B + r)).toInt ≤ 999
def NumR (B : Nat) (T : Nat → Nat → Int32) (nb : Bool) (fr : Nat → Int32) (base : Int32) : Prop := ∀ r : Nat, (r : Int) < (T 11 B).toInt → ∀ k : Nat, (k : Int) < (T 14 (2 * B + r)).toInt → ((T 15 (2 * B + r)).toInt ≤ (fr (base.toNatClampNeg + 6 * r + k)).toInt ∧ (fr (base.toNatClampNeg + 6 * r + k)).toInt ≤ (T 16 (2 * B + r)).toInt) ∧ (nb = true → 0 < base.toInt → (T 15 (2 * B + r)).toInt ≤ (fr ((base - 12).toNatClampNeg + 6 * r + k)).toInt ∧ (fr ((base - 12).toNatClampNeg + 6 * r + k)).toInt ≤ (T 16 (2 * B + r)).toInt)
theorem NumR.bs {B : Nat} {T : Nat → Nat → Int32} {nb : Bool} {fr : Nat → Int32} {base : Int32} (h : NumR B T nb fr base) (c : Int32) {r k : Nat} (hr : (r : Int) < (T 11 B).toInt) (hk : (k : Int) < (T 14 (2 * B + r)).toInt) : (T 15 (2 * B + r)).toInt ≤ (fr ((bsF T nb base c).toNatClampNeg + 6 * r + k)).toInt ∧ (fr ((bsF T nb base c).toNatClampNeg + 6 * r + k)).toInt ≤ (T 16 (2 * B + r)).toInt := by
  have h1 := h r hr k hk
  unfold bsF
  by_cases q : OnK T c 6 ∧ nb = true ∧ 0 < base.toInt
  · rw [if_pos q]; exact h1.2 q.2.1 q.2.2
  · rw [if_neg q]; exact h1.1

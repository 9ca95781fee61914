theorem shl_tw : ∀ k, k < 13 → 1 ≤ ((1 : Int32) <<< (nI k &&& 31)).toInt ∧ ((1 : Int32) <<< (nI k &&& 31)).toInt ≤ 4096 := by decide
theorem shl_bd {n z : Int32} (hz : z = 1 <<< (n &&& 31)) (h0 : 0 ≤ n.toInt) (h1 : n.toInt ≤ 12) : 1 ≤ z.toInt ∧ z.toInt ≤ 4096 := by
  obtain ⟨k, hk, e⟩ := nI_of2 (x := n) (M := 12) (n := 12) (by decide) (fun z => by have := Int32.lt_iff_toInt_lt.mp z; have e0 : (0 : Int32).toInt = 0 := (by decide); omega) (Int32.le_iff_toInt_le.mpr (by have e9 : (12 : Int32).toInt = 12 := (by decide); omega))
  rw [hz, e]; exact shl_tw k (by omega)

/-! the reference at first -/
def sig0 : MS := (fun p => if p = 5 then -1 else 0, fun _ _ => 0, fun _ _ => 0, fun _ => 0)
theorem lo_z (p : Nat) : loI p ≤ 0 ∧ 0 ≤ hiI p ∧ loA p ≤ 0 ∧ 0 ≤ hiA p := ⟨by unfold loI; split <;> omega, by unfold hiI; split <;> omega, by unfold loA; split <;> omega, by unfold hiA; split <;> omega⟩
theorem Inv0 : Inv sig0 := by
  have z0 : (0 : Int32).toInt = 0 := by decide
  refine ⟨fun p => ?_, fun p j _ => ?_⟩
  · by_cases e : p = 5
    · subst e; decide
    · show loI p ≤ (if p = 5 then (-1 : Int32) else 0).toInt ∧ (if p = 5 then (-1 : Int32) else 0).toInt ≤ hiI p
      rw [if_neg e, z0]; exact ⟨(lo_z p).1, (lo_z p).2.1⟩
  · show loA p ≤ (0 : Int32).toInt ∧ (0 : Int32).toInt ≤ hiA p
    rw [z0]; exact ⟨(lo_z p).2.2.1, (lo_z p).2.2.2⟩
theorem RI0 : RI sig0 := by
  have z0 : (0 : Int32).toInt = 0 := by decide
  have nn : ∀ j : Nat, ¬ (j : Int) < (0 : Int32).toInt := fun j h => by rw [z0] at h; omega
  exact ⟨⟨fun j hj => absurd hj (nn j), fun j hj => absurd hj (nn j), fun j hj => absurd hj (nn j)⟩, fun j hj => absurd hj (nn j), fun i hi => absurd hi (nn i), fun i hi => absurd hi (nn i)⟩

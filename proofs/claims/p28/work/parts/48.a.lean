/-- a CHOICE that can't be, or is BARRED -/
def NoOpen (σ : MS) (ch : Int32) : Prop := (¬ ∃ on, OnR σ ch on) ∨ ∃ (on : Nat → Int32) (j : Nat) (L H : Nat → Int64), OnR σ ch on ∧ j < (σ.2.1 12 (σ.1 29).toNatClampNeg).toNatClampNeg ∧ ShBad (σ.1 29).toNatClampNeg (cor σ) (coJ σ) on j L H
/-- one that can be, and isn't BARRED: what is SHOWN -/
def Opn (σ : MS) (ch : Int32) (on : Nat → Int32) (L H : Nat → Int64) : Prop := OnR σ ch on ∧ ShR (σ.1 29).toNatClampNeg (cor σ) (coJ σ) on (σ.2.1 12 (σ.1 29).toNatClampNeg).toNatClampNeg L H

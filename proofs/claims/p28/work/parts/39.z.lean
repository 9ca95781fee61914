/-! what floorOver, coarse .. answer -/
def FO (a b : Int64) : Int64 := if a - a / b * b = 0 then a / b else if 0 ≤ a then (if 0 ≤ b then a / b else a / b - 1) else (if 0 ≤ b then a / b - 1 else a / b)
def CO (v n : Int32) : Int32 := (FO v.toInt64 n.toInt64).toInt32 * n
def OnK (σ : MS) (c kd : Int32) : Prop := 0 ≤ c.toInt ∧ σ.2.1 34 c.toNatClampNeg = kd

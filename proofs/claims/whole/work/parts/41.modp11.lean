/-! ===== LastWordModel: forget, count, as functions ===== -/
def mfgF (μ : wRec) : wRec := va_up μ 14 (fun _ => 0)
def mcoK (μ : wRec) (k : Nat) : Int32 := if k = 2 then μ 14 0 else if k = 3 then μ 1 0 else μ 7 k
def mcoV (μ : wRec) (x : Int32) : Int32 := if 0 ≤ x.toInt ∧ x.toInt < 4 then mcoK μ x.toNatClampNeg else -1

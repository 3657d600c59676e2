/-! ===== LastWordModel: back, found, as functions ===== -/
def mbaV (μ : wRec) (x : Int32) : Int32 := if inB x 0 1 then (if μ 17 (47 * x.toNatClampNeg) = 0 then -2 else μ 17 (47 * x.toNatClampNeg + 1)) else -1
def mbaF (μ : wRec) (x : Int32) : wRec := if inB x 0 1 ∧ ¬ μ 17 (47 * x.toNatClampNeg) = 0 then va_up (va_up μ 8 (fun k => if k < 46 then μ 17 (47 * x.toNatClampNeg + 1 + k) else μ 8 k)) 10 (fun _ => 0) else μ

/-! ===== LastWordModel: found, as functions ===== -/
abbrev mfoOK (μ : wRec) (w s x : Int32) : Prop := isWM μ w ∧ isSM s ∧ (x = -1 ∨ isWM μ x)
def mfoV (μ : wRec) (w s x : Int32) : Int32 := if mfoOK μ w s x then (if fM μ = 5 then -3 else nI (fM μ + 1)) else -1
def mfoF (μ : wRec) (w s x : Int32) : wRec := if mfoOK μ w s x ∧ ¬ fM μ = 5 then va_up (va_up μ 15 (upd (upd (upd (μ 15) (3 * fM μ) w) (3 * fM μ + 1) s) (3 * fM μ + 2) (if x = -1 then -9 else x))) 14 (fun _ => nI (fM μ + 1)) else μ

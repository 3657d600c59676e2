/-! ===== LastWordModel: round, bindsNobody, as functions ===== -/
abbrev mroOK (μ : wRec) (w s x : Int32) : Prop := isWM μ w ∧ isSM s ∧ inB x 0 1
def mroV (μ : wRec) (w s x : Int32) : Int32 := if mroOK μ w s x then (if laidM μ w then -2 else if mlV μ w s (μ 8 2) = -9 then -9 else if x = 0 then mlV μ w s (μ 8 2) else mlF μ w s (μ 8 2) 13 0) else -1
def mroF (μ : wRec) (w s x : Int32) : wRec := if mroOK μ w s x ∧ ¬ laidM μ w then mlF μ w s (μ 8 2) else μ
def mbnL (μ : wRec) (w : Int32) : Nat → Int32
  | 0 => 0
  | s + 1 => mbnL μ w s ||| (if mnF μ w s (μ 8 2) = -9 then (1 : Int32) <<< (nI s &&& 31) else 0)
def mbnV (μ : wRec) (w : Int32) : Int32 := if isWM μ w then mbnL μ w 5 else -1

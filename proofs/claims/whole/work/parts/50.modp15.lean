/-! ===== LastWordModel: titles, most, rate, as functions ===== -/
def mtiL (μ : wRec) (a b : Nat) : Nat → Int32
  | 0 => 0
  | s + 1 => mtiL μ a b s + (if nrM μ a s = nrM μ b s then 1 else 0)
abbrev mtiOK (μ : wRec) (a b : Int32) : Prop := isWM μ a ∧ isWM μ b ∧ a ≠ b
def mtiV (μ : wRec) (a b : Int32) : Int32 := if mtiOK μ a b then mtiL μ a.toNatClampNeg b.toNatClampNeg 5 else -1
def mmoL (μ : wRec) : Nat → Int32
  | 0 => -9
  | w + 1 => if 0 < wdM μ (nI w) (qM μ) ∧ (mmoL μ w = -9 ∨ wdM μ (mmoL μ w) (qM μ) < wdM μ (nI w) (qM μ)) then nI w else mmoL μ w
def mmoV (μ : wRec) : Int32 := mmoL μ (nM μ)
def mraJ (μ : wRec) (w : Int32) (j : Nat) : Int32 :=
  if j = 0 then μ 7 (3 + 7 * w.toNatClampNeg) else if j = 1 then μ 7 (3 + 7 * w.toNatClampNeg) + owM μ w (qM μ) else if j = 2 then μ 7 (3 + 7 * w.toNatClampNeg) - μ 8 (4 + w.toNatClampNeg) else if j = 3 then 2 * (μ 7 (3 + 7 * w.toNatClampNeg) + owM μ w (qM μ)) else if j = 4 then (μ 7 (3 + 7 * w.toNatClampNeg) - μ 8 (4 + w.toNatClampNeg)) + w else μ 7 (3 + 7 * w.toNatClampNeg) + wdM μ w (qM μ)
def mraA (r : Int64) (j : Nat) : Int64 := if j = 0 then r + 1 else if j = 1 then r + 11 else if j = 2 then r + 101 else if j = 3 then r + 1011 else if j = 4 then r + 10101 else r + 100001
abbrev mraOK (μ : wRec) (d w : Int32) : Prop := inB d 0 5 ∧ isWM μ w
def mraV (μ : wRec) (d w : Int32) : Int32 := if mraOK μ d w then mraJ μ w d.toNatClampNeg else -1000000
def mraR (μ : wRec) (r : Int64) (d w : Int32) : Int64 := if mraOK μ d w then mraA r d.toNatClampNeg else r

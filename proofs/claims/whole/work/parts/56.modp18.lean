/-! ===== LastWordModel: odds, as functions ===== -/
abbrev mooK (μ : wRec) (w : Int32) (s : Nat) : Prop := nI s &&& (μ 8 2 ||| ((1 : Int32) <<< (w &&& 31))) = 0
abbrev mooX (μ : wRec) (w : Int32) (x : Nat) : Prop := nI x ≠ w ∧ ¬ laidM μ (nI x)
def mpN (μ : wRec) (w : Int32) (p s : Nat) : Nat → Nat
  | 0 => 1
  | x + 1 => mpN μ w p s x * (if mooX μ w x then (if bitB (nI s) x then p else 10 - p) else 1)
def moS (μ : wRec) (w x2 : Int32) : Nat → wRec
  | 0 => μ
  | s + 1 => if mooK μ w s then mlF (moS μ w x2 s) w x2 (μ 8 2 ||| nI s) else moS μ w x2 s
theorem moS_of (μ : wRec) (w x2 : Int32) {k : Nat} (h : k ≠ 13) : ∀ s, moS μ w x2 s k = μ k
  | 0 => rfl
  | s + 1 => by
    rw [moS]
    split
    · rw [mlF_of _ _ _ _ h, moS_of μ w x2 h s]
    · exact moS_of μ w x2 h s
theorem moS_G {μ : wRec} (h : wfG μ) (w x2 : Int32) (s : Nat) : wfG (moS μ w x2 s) := wfG_78 h (moS_of μ w x2 (by decide) s) (moS_of μ w x2 (by decide) s)
def mbN (μ : wRec) (w : Int32) (p : Nat) : Nat → Nat
  | 0 => 0
  | s + 1 => if mooK μ w s then mbN μ w p s + mpN μ w p s (nM μ) else mbN μ w p s
abbrev mhlB (μ : wRec) (w x2 : Int32) (s : Nat) : Prop := ¬ mlV (moS μ w x2 s) w x2 (μ 8 2 ||| nI s) = -9 ∧ moS μ w x2 (s + 1) 13 0 = w
def maN (μ : wRec) (w x2 : Int32) (p : Nat) : Nat → Nat
  | 0 => 0
  | s + 1 => if mooK μ w s then (if mhlB μ w x2 s then maN μ w x2 p s + mpN μ w p s (nM μ) else maN μ w x2 p s) else maN μ w x2 p s
def moA (μ : wRec) (w x2 p2 : Int32) : Nat := maN μ w x2 p2.toNatClampNeg (2 ^ nM μ)
def moB (μ : wRec) (w p2 : Int32) : Nat := mbN μ w p2.toNatClampNeg (2 ^ nM μ)
def mooH (μ : wRec) (w x2 p2 : Int32) : Prop := 0 < moB μ w p2 ∧ moB μ w p2 < 2147483648 ∧ moA μ w x2 p2 < 2147483648
abbrev mooOK (μ : wRec) (w x2 p2 x3 : Int32) : Prop := isWM μ w ∧ isSM x2 ∧ inB p2 0 10 ∧ inB x3 0 1
def mooV (μ : wRec) (w x2 p2 x3 : Int32) : Int32 := if mooOK μ w x2 p2 x3 then (if laidM μ w then -2 else if x3 = 0 then nI (moA μ w x2 p2 / Nat.gcd (moA μ w x2 p2) (moB μ w p2)) else nI (moB μ w p2 / Nat.gcd (moA μ w x2 p2) (moB μ w p2))) else -1
def mooF (μ : wRec) (w x2 p2 x3 : Int32) : wRec := if mooOK μ w x2 p2 x3 ∧ ¬ laidM μ w then moS μ w x2 (2 ^ nM μ) else μ

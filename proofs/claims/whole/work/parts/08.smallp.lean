/-! ===== Course and Findings, as functions ===== -/
def crS (π : wRec) (laid : Int32) (u : Int32 × Nat) : Int32 × Nat := (answererF π u.1 u.2 laid, (onF π (answererF π u.1 u.2 laid).toNatClampNeg u.2).toNatClampNeg)
def crA (π : wRec) (laid w : Int32) (s : Nat) : Nat → Int32 × Nat
  | 0 => (w, s)
  | n + 1 => crS π laid (crA π laid w s n)
def crX (π : wRec) (laid w : Int32) (s n : Nat) : Int32 := answererF π (crA π laid w s n).1 (crA π laid w s n).2 laid
def crF (π : wRec) (laid w : Int32) (s : Nat) : Nat → Nat → Int32 × Int32
  | 0, _ => (-9, -9)
  | f + 1, n => if crX π laid w s n = -9 then (nI (n + 1), (crA π laid w s n).1) else crF π laid w s f (n + 1)
def followF (π κ : wRec) (laid w : Int32) (s : Nat) : wRec := va_up (va_up κ 0 (fun _ => (crF π laid w s 30 0).1)) 1 (fun _ => (crF π laid w s 30 0).2)
theorem crS_ok {π : wRec} (hp : wfP π) {laid w : Int32} {s : Nat} (hs : s < 5) (h : answererF π w s laid ≠ -9) : onF π (answererF π w s laid).toNatClampNeg s = nI (crS π laid (w, s)).2 ∧ (crS π laid (w, s)).2 < 5 := by
  rcases answer_ok hp w s laid with e | e
  · exact absurd e h
  · exact on_ok hp e.2 hs
def nF (φ : wRec) : Nat := (φ 0 0).toNatClampNeg
def wfF (φ : wRec) : Prop := φ 0 0 = nI (nF φ) ∧ nF φ ≤ 5 ∧ ∀ i, i < nF φ → ixOK (φ 2 i) 5
def addF (φ : wRec) (w : Int32) (s : Nat) (x : Int32) : wRec := if nF φ < 5 then va_up (va_up (va_up (va_up φ 1 (upd (φ 1) (nF φ) w)) 2 (upd (φ 2) (nF φ) (nI s))) 3 (upd (φ 3) (nF φ) (if x = -1 then -9 else x))) 0 (fun _ => nI (nF φ + 1)) else φ
def dropF (φ : wRec) : wRec := va_up φ 0 (fun _ => 0)
abbrev soOK (π φ : wRec) (i : Nat) : Prop := answererF π (φ 1 i) (φ 2 i).toNatClampNeg 0 = φ 3 i

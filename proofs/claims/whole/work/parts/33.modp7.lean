/-! ===== LastWordModel: the letters of a quarrel, as functions ===== -/
theorem mnL_of {μ ν : wRec} (e : ν 7 = μ 7) (w : Int32) (s : Nat) (laid : Int32) : ∀ x, mnL ν w s laid x = mnL μ w s laid x
  | 0 => rfl
  | x + 1 => by rw [mnL, mnL, mnL_of e w s laid x, nrM, nrM, nrM, nrM, e]
theorem mnF_of {μ ν : wRec} (e : ν 7 = μ 7) (w : Int32) (s : Nat) (laid : Int32) : mnF ν w s laid = mnF μ w s laid := by
  rw [mnF, mnF, mnL_of e, nM, nM, e]
theorem anM_of {μ ν : wRec} (e : ν 7 = μ 7) (w : Nat) (s : Int32) : anM ν w s = anM μ w s := by
  rw [anM, anM, e]
def mlS (μ : wRec) (w s laid : Int32) : Nat → Int32 × Int32
  | 0 => (w, s)
  | k + 1 => (mnF μ (mlS μ w s laid k).1 (mlS μ w s laid k).2.toNatClampNeg laid, anM μ (mnF μ (mlS μ w s laid k).1 (mlS μ w s laid k).2.toNatClampNeg laid).toNatClampNeg (mlS μ w s laid k).2)
abbrev mlM (μ : wRec) (w s laid : Int32) (k : Nat) : Int32 := mnF μ (mlS μ w s laid k).1 (mlS μ w s laid k).2.toNatClampNeg laid
def mlR (μ : wRec) (w s laid : Int32) : Nat → wRec
  | 0 => μ
  | k + 1 => va_up μ 13 (fun _ => (mlS μ w s laid k).1)
theorem mlR_of (μ : wRec) (w s laid : Int32) {k : Nat} (h : k ≠ 13) : ∀ i, mlR μ w s laid i k = μ k
  | 0 => rfl
  | i + 1 => va_up_ne _ _ h
theorem mlR_s (μ : wRec) (w s laid : Int32) : ∀ i, va_up (mlR μ w s laid i) 13 (fun _ => (mlS μ w s laid i).1) = mlR μ w s laid (i + 1)
  | 0 => rfl
  | i + 1 => up_up _ _ _ _
def mlN (μ : wRec) (w s laid : Int32) : Nat → Nat → Nat
  | 0, i => i
  | f + 1, i => if mlM μ w s laid i = -9 then i else mlN μ w s laid f (i + 1)
def mlV (μ : wRec) (w s laid : Int32) : Int32 := if mlN μ w s laid 31 0 = 31 then -9 else nI (mlN μ w s laid 31 0 + 1)
def mlF (μ : wRec) (w s laid : Int32) : wRec := if mlN μ w s laid 31 0 = 31 then mlR μ w s laid 31 else mlR μ w s laid (mlN μ w s laid 31 0 + 1)

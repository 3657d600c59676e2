/-! ===== LastWordModel: found, the images, as functions ===== -/
def fM (μ : wRec) : Nat := (μ 14 0).toNatClampNeg
def wfFM (μ : wRec) : Prop := μ 14 0 = nI (fM μ) ∧ fM μ ≤ 5
theorem x1_ix {x : Int32} (q : inB x 0 1) : ixOK x 2 := in_ix (y := 2) (n := 2) rfl (by omega) q
def kpR (μ : wRec) (x i : Nat) : Nat → Int32 := fun k => if 47 * x + 1 ≤ k ∧ k < 47 * x + 1 + i then μ 8 (k - (47 * x + 1)) else upd (μ 17) (47 * x) 1 k
theorem kpR_0 (μ : wRec) (x : Nat) : kpR μ x 0 = upd (μ 17) (47 * x) 1 := by
  funext k
  rw [kpR, if_neg (by omega)]
theorem kpR_s (μ : wRec) (x i : Nat) : upd (kpR μ x i) (47 * x + 1 + i) (μ 8 i) = kpR μ x (i + 1) := by
  funext k
  by_cases h : k = 47 * x + 1 + i
  · rw [h, pk_us, kpR, if_pos (by omega), show 47 * x + 1 + i - (47 * x + 1) = i by omega]
  · rw [pk_un h, kpR, kpR]
    by_cases h2 : 47 * x + 1 ≤ k ∧ k < 47 * x + 1 + i
    · rw [if_pos h2, if_pos (by omega)]
    · rw [if_neg h2, if_neg (by omega)]
def mkeV (μ : wRec) (x : Int32) : Int32 := if inB x 0 1 then μ 8 0 else -1
def mkeF (μ : wRec) (x : Int32) : wRec := if inB x 0 1 then va_up μ 17 (kpR μ x.toNatClampNeg 46) else μ

/-! ===== LastWordModel: lateFirst, as functions ===== -/
theorem prF_of (μ : wRec) (q : Nat) (w : Int32) (s : Nat) {k : Nat} (h : k ≠ 8) : prF μ q w s k = μ k := by
  rw [prF, mnsF_of _ _ h, prS, va_up_ne _ _ h]
theorem gyS_11 (μ : wRec) : ∀ q, q ≤ 6 → gyS μ q 11 0 = -9 ∨ ixOK (gyS μ q 11 0) q
  | 0, _ => Or.inl rfl
  | q + 1, hq => by
    have ih := gyS_11 μ q (by omega)
    have up : gyS μ q 11 0 = -9 ∨ ixOK (gyS μ q 11 0) (q + 1) := ih.imp id (fun h => ⟨h.1, Nat.lt_succ_of_lt h.2⟩)
    rw [gyS, gyT]
    split
    · exact up
    · split
      · rw [prF_of _ _ _ _ (by decide)]; exact up
      · split
        · rw [ltM, va_up_self]
          split
          · have e : (nI q).toNatClampNeg = q := nI_cl (by omega)
            exact Or.inr ⟨by rw [e], by rw [e]; omega⟩
          · exact up
        · exact up
def lf0 (μ : wRec) : wRec := va_up (asF μ) 11 (fun _ => -9)
theorem lf0_G {μ : wRec} (h : wfG μ) : wfG (lf0 μ) := wfG_78 (asF_G h) (va_up_ne _ _ (by decide)) (va_up_ne _ _ (by decide))
def lfN (μ : wRec) : Nat → Nat → Nat
  | 0, i => i
  | f + 1, i => if gyN (lf0 μ) i 11 0 = -9 then lfN μ f (i + 1) else i
theorem lf_ix {μ : wRec} (h : wfG μ) : ∀ i, gyN (lf0 μ) i 11 0 = -9 ∨ ixOK (gyN (lf0 μ) i 11 0) 6
  | 0 => Or.inl rfl
  | i + 1 => by
    have h6 := (gyN_G (lf0_G h) i).1.2.1.2
    exact (gyS_11 (gyN (lf0 μ) i) (qM (gyN (lf0 μ) i)) h6).imp id (fun q => ⟨q.1, Nat.lt_of_lt_of_le q.2 h6⟩)
abbrev lfE (μ : wRec) : wRec := gyN (lf0 μ) (lfN μ 200 0)
def mlfV (μ : wRec) (x : Int32) : Int32 := if inB x 0 1 then (if lfE μ 11 0 = -9 then -9 else if x = 0 then nI (lfN μ 200 0) else atV (lfE μ) (lfE μ 11 0).toNatClampNeg 3) else -1
def mlfF (μ : wRec) (x : Int32) : wRec := if inB x 0 1 then bkF (lfE μ) else μ

/-! ===== LastWordModel: what is done, as functions ===== -/
def uM (μ : wRec) : Nat := (μ 10 0).toNatClampNeg
def wfU (μ : wRec) : Prop := μ 10 0 = nI (uM μ) ∧ uM μ ≤ 10
theorem sh_0 (f : Nat → Int32) : (fun k => if k + 46 < 46 then f (k + 46) else f k) = f := by
  funext k
  rw [if_neg (by omega)]
theorem sh_s (f : Nat → Int32) {i : Nat} (hi : 46 ≤ i) : upd (fun k => if k + 46 < i then f (k + 46) else f k) (i - 46) (f i) = fun k => if k + 46 < i + 1 then f (k + 46) else f k := by
  funext k
  by_cases h : k = i - 46
  · rw [h, pk_us, if_pos (by omega), show i - 46 + 46 = i by omega]
  · rw [pk_un h]
    by_cases h2 : k + 46 < i
    · rw [if_pos h2, if_pos (by omega)]
    · rw [if_neg h2, if_neg (by omega)]
def nsA (μ : wRec) : wRec := if uM μ = 10 then va_up (va_up μ 9 (fun k => if k + 46 < 460 then μ 9 (k + 46) else μ 9 k)) 10 (fun _ => 9) else μ
def nsU (μ : wRec) : Nat := if uM μ = 10 then 9 else uM μ
theorem nsU_le {μ : wRec} (h : wfU μ) : nsU μ ≤ 9 := by
  have := h.2
  unfold nsU
  split <;> omega
theorem nsA_u {μ : wRec} (h : wfU μ) : nsA μ 10 0 = nI (nsU μ) := by
  unfold nsA nsU
  by_cases e : uM μ = 10
  · rw [if_pos e, if_pos e, va_up_self]
    rfl
  · rw [if_neg e, if_neg e]
    exact h.1
theorem nsA_of (μ : wRec) {k : Nat} (h : k ≠ 9) (h2 : k ≠ 10) : nsA μ k = μ k := by
  unfold nsA
  split
  · rw [va_up_ne _ _ h2, va_up_ne _ _ h]
  · rfl
def nsR (μ : wRec) (i : Nat) : Nat → Int32 := fun k => if 46 * nsU μ ≤ k ∧ k < 46 * nsU μ + i then nsA μ 8 (k - 46 * nsU μ) else nsA μ 9 k
theorem nsR_0 (μ : wRec) : nsR μ 0 = nsA μ 9 := by
  funext k
  rw [nsR, if_neg (by omega)]
theorem nsR_s (μ : wRec) (i : Nat) : upd (nsR μ i) (46 * nsU μ + i) (nsA μ 8 i) = nsR μ (i + 1) := by
  funext k
  by_cases h : k = 46 * nsU μ + i
  · rw [h, pk_us, nsR, if_pos (by omega), show 46 * nsU μ + i - 46 * nsU μ = i by omega]
  · rw [pk_un h, nsR, nsR]
    by_cases h2 : 46 * nsU μ ≤ k ∧ k < 46 * nsU μ + i
    · rw [if_pos h2, if_pos (by omega)]
    · rw [if_neg h2, if_neg (by omega)]
def nsF (μ : wRec) : wRec := va_up (va_up (nsA μ) 9 (nsR μ 46)) 10 (fun _ => nI (nsU μ + 1))
theorem nsF_of (μ : wRec) {k : Nat} (h : k ≠ 9) (h2 : k ≠ 10) : nsF μ k = μ k := by
  rw [nsF, va_up_ne _ _ h2, va_up_ne _ _ h, nsA_of μ h h2]
def unV (μ : wRec) : Int32 := if uM μ = 0 then -2 else nI (uM μ - 1)
def unF (μ : wRec) : wRec := if uM μ = 0 then μ else va_up (va_up μ 10 (fun _ => nI (uM μ - 1))) 8 (fun k => if k < 46 then μ 9 (46 * (uM μ - 1) + k) else μ 8 k)
def wfSM (μ : wRec) : Prop := ∀ q, q < qM μ → ixOK (μ 8 (10 + 6 * q + 1)) 5
theorem mnsF_8 (μ : wRec) {q k : Nat} (h3 : k ≠ 10 + 6 * q + 3) (h4 : k ≠ 10 + 6 * q + 4) : mnsF μ q 8 k = μ 8 k := by
  rw [mnsF, va_up_self, pk_un h4, pk_un h3]
theorem mnsF_of (μ : wRec) (q : Nat) {k : Nat} (h : k ≠ 8) : mnsF μ q k = μ k := va_up_ne _ _ h
/-- laying down -/
def ldS (μ : wRec) (w : Int32) : Nat → wRec
  | 0 => va_up μ 8 (upd (μ 8) 2 (μ 8 2 ||| ((1 : Int32) <<< (w &&& 31))))
  | q + 1 => if atV (ldS μ w q) q 3 = w then mnsF (ldS μ w q) q else ldS μ w q
def ldC (μ : wRec) (w : Int32) : Nat → Int32
  | 0 => 0
  | q + 1 => if atV (ldS μ w q) q 3 = w then ldC μ w q + 1 else ldC μ w q
theorem ldS_of (μ : wRec) (w : Int32) {k : Nat} (h : k ≠ 8) : ∀ i, ldS μ w i k = μ k
  | 0 => va_up_ne _ _ h
  | i + 1 => by
    rw [ldS]
    split
    · rw [mnsF_of _ _ h, ldS_of μ w h i]
    · exact ldS_of μ w h i
theorem ldS_8 (μ : wRec) (w : Int32) {k : Nat} (h2 : k ≠ 2) (h : ∀ q, k ≠ 10 + 6 * q + 3 ∧ k ≠ 10 + 6 * q + 4) : ∀ i, ldS μ w i 8 k = μ 8 k
  | 0 => by rw [ldS, va_up_self, pk_un h2]
  | i + 1 => by
    rw [ldS]
    split
    · rw [mnsF_8 _ (h i).1 (h i).2, ldS_8 μ w h2 h i]
    · exact ldS_8 μ w h2 h i
theorem ldS_W {μ : wRec} (h : wfW μ) (w : Int32) (i : Nat) : wfW (ldS μ w i) := by
  unfold wfW nM at *
  rw [ldS_of μ w (by decide)]
  exact h
theorem ldS_q (μ : wRec) (w : Int32) (i : Nat) : ldS μ w i 8 1 = μ 8 1 := ldS_8 μ w (by decide) (fun q => by omega) i
theorem ldS_s (μ : wRec) (w : Int32) (i q : Nat) : ldS μ w i 8 (10 + 6 * q + 1) = μ 8 (10 + 6 * q + 1) := ldS_8 μ w (by omega) (fun q => by omega) i
def mldV (μ : wRec) (w : Int32) : Int32 := if isWM μ w then (if laidM μ w then -2 else ldC (nsF μ) w (qM μ)) else -1
def mldF (μ : wRec) (w : Int32) : wRec := if isWM μ w ∧ ¬ laidM μ w then ldS (nsF μ) w (qM μ) else μ
theorem nsF_W {μ : wRec} (h : wfW μ) : wfW (nsF μ) := by
  unfold wfW nM at *
  rw [nsF_of μ (by decide) (by decide)]
  exact h
theorem nsF_q (μ : wRec) : qM (nsF μ) = qM μ := by
  unfold qM
  rw [nsF_of μ (by decide) (by decide)]
theorem nsF_Q {μ : wRec} (h : wfQM μ) : wfQM (nsF μ) := by
  unfold wfQM
  rw [nsF_q, nsF_of μ (by decide) (by decide)]
  exact h
theorem nsF_S {μ : wRec} (h : wfSM μ) : wfSM (nsF μ) := by
  unfold wfSM
  rw [nsF_q, nsF_of μ (by decide) (by decide)]
  exact h
/-- a new quarrel -/
abbrev mwtOK (μ : wRec) (w s : Int32) : Prop := (isWM μ w ∧ isSM s) ∧ ¬ laidM μ w ∧ ¬ qM μ = 6
def mwtV (μ : wRec) (w s : Int32) : Int32 := if isWM μ w ∧ isSM s then (if laidM μ w then -2 else if qM μ = 6 then -3 else nI (qM μ)) else -1
def mwtA (μ : wRec) : wRec := va_up (nsF μ) 8 (upd (nsF μ 8) 1 (nI (qM μ + 1)))
def mwtF (μ : wRec) (w s : Int32) : wRec := if mwtOK μ w s then prF (mwtA μ) (qM μ) w s.toNatClampNeg else μ
theorem prF_1 (μ : wRec) (q : Nat) (w : Int32) (s : Nat) : prF μ q w s 8 1 = μ 8 1 := by
  rw [prF, mnsF_8 _ (by omega) (by omega), prS, va_up_self, pk_un (by omega), pk_un (by omega), pk_un (by omega), pk_un (by omega), pk_un (by omega)]
theorem mwtA_1 (μ : wRec) : mwtA μ 8 1 = nI (qM μ + 1) := by
  rw [mwtA, va_up_self, pk_us]
theorem mwtA_W {μ : wRec} (h : wfW μ) : wfW (mwtA μ) := by
  have h2 := nsF_W h
  unfold wfW nM at *
  rw [mwtA, va_up_ne _ _ (by decide)]
  exact h2

/-! ===== LastWordModel: days to come, as functions ===== -/
theorem nsF_G {μ : wRec} (h : wfG μ) : wfG (nsF μ) := by
  have e8 := nsF_of μ (k := 8) (by decide) (by decide)
  refine wfG_of (ν := nsF μ) h (nsF_of μ (by decide) (by decide)) (by rw [e8]) (fun p hp => ?_) (fun p hp => ?_)
  · rw [e8]; exact h.2.2.1 p hp
  · rw [atV, e8]; exact h.2.2.2 p hp
def mdV (μ : wRec) : Int32 := if μ 8 0 = 999 then -2 else gyC (nsF μ) (qM (nsF μ))
def mdF (μ : wRec) : wRec := if μ 8 0 = 999 then μ else gyS (nsF μ) (qM (nsF μ))
def gyN (μ : wRec) : Nat → wRec
  | 0 => μ
  | k + 1 => gyS (gyN μ k) (qM (gyN μ k))
theorem gyN_G {μ : wRec} (h : wfG μ) : ∀ k, wfG (gyN μ k) ∧ qM (gyN μ k) = qM μ
  | 0 => ⟨h, rfl⟩
  | k + 1 => by
    have h1 := gyN_G h k
    have h2 := gyS_G h1.1 (qM (gyN μ k)) (Nat.le_refl _)
    exact ⟨h2.1, by rw [gyN, ← h1.2]; show (gyS _ _ 8 1).toNatClampNeg = _; rw [h2.2]; rfl⟩
theorem asF_G {μ : wRec} (h : wfG μ) : wfG (asF μ) := wfG_of (ν := asF μ) h (va_up_ne _ _ (by decide)) (by rw [asF, va_up_ne _ _ (by decide)]) (fun p hp => by rw [asF, va_up_ne _ _ (by decide)]; exact h.2.2.1 p hp) (fun p hp => by rw [asF, atV, va_up_ne _ _ (by decide)]; exact h.2.2.2 p hp)
theorem asF_q (μ : wRec) : qM (asF μ) = qM μ := by
  unfold qM
  rw [asF, va_up_ne _ _ (by decide)]
abbrev midOK (μ : wRec) (q d x : Int32) : Prop := isQM μ q ∧ inB d 0 60 ∧ inB x 0 2
def midV (μ : wRec) (q d x : Int32) : Int32 := if midOK μ q d x then atV (gyN (asF μ) d.toNatClampNeg) q.toNatClampNeg (if x = 2 then 3 else x.toNatClampNeg) else -1
def midF (μ : wRec) (q d x : Int32) : wRec := if midOK μ q d x then bkF (gyN (asF μ) d.toNatClampNeg) else μ
def clN (μ : wRec) (q : Nat) : Nat → Nat → Nat
  | 0, k => k
  | f + 1, k => if atV (gyN μ k) q 3 = -9 then k else clN μ q f (k + 1)
def clV (μ : wRec) (q : Nat) : Int32 := if atV (gyN μ (clN μ q 400 0)) q 3 = -9 then nI (clN μ q 400 0) else -9
def clF (μ : wRec) (q : Nat) : wRec := gyN μ (clN μ q 400 0)
def menV (μ : wRec) (q : Int32) : Int32 := if isQM μ q then clV (asF μ) q.toNatClampNeg else -1
def menF (μ : wRec) (q : Int32) : wRec := if isQM μ q then bkF (clF (asF μ) q.toNatClampNeg) else μ

/-! ===== LastWordModel: last, many, as functions ===== -/
theorem mlF_of (μ : wRec) (w s laid : Int32) {k : Nat} (h : k ≠ 13) : mlF μ w s laid k = μ k := by
  unfold mlF
  split
  · exact mlR_of μ w s laid h _
  · exact mlR_of μ w s laid h _
theorem wfG_78 {μ ν : wRec} (h : wfG μ) (e7 : ν 7 = μ 7) (e8 : ν 8 = μ 8) : wfG ν := by
  refine wfG_of h e7 (by rw [e8]) (fun p hp => ?_) (fun p hp => ?_)
  · rw [e8]; exact h.2.2.1 p hp
  · rw [atV, e8]; exact h.2.2.2 p hp
def mlsS (μ : wRec) (w : Int32) : Nat → wRec
  | 0 => μ
  | s + 1 => mlF (mlsS μ w s) w (nI s) (mlsS μ w s 8 2)
theorem mlsS_of (μ : wRec) (w : Int32) {k : Nat} (h : k ≠ 13) : ∀ i, mlsS μ w i k = μ k
  | 0 => rfl
  | i + 1 => by rw [mlsS, mlF_of _ _ _ _ h, mlsS_of μ w h i]
theorem mlsS_G {μ : wRec} (h : wfG μ) (w : Int32) (i : Nat) : wfG (mlsS μ w i) := wfG_78 h (mlsS_of μ w (by decide) i) (mlsS_of μ w (by decide) i)
abbrev mlaB (μ : wRec) (w : Int32) (s : Nat) : Prop := ¬ mlV (mlsS μ w s) w (nI s) (mlsS μ w s 8 2) = -9 ∧ mlsS μ w (s + 1) 13 0 = w
def mlaN (μ : wRec) (w : Int32) : Nat → Nat → Nat
  | 0, s => s
  | f + 1, s => if mlaB μ w s then s else mlaN μ w f (s + 1)
def mlaV (μ : wRec) (w : Int32) : Int32 := if isWM μ w then (if laidM μ w then -2 else if mlaN μ w 5 0 = 5 then -9 else nI (mlaN μ w 5 0)) else -1
def mlaF (μ : wRec) (w : Int32) : wRec := if isWM μ w ∧ ¬ laidM μ w then (if mlaN μ w 5 0 = 5 then mlsS μ w 5 else mlsS μ w (mlaN μ w 5 0 + 1)) else μ
theorem nI_ix {s : Nat} (h : s < 5) : ixOK (nI s) 5 := by
  have e : (nI s).toNatClampNeg = s := nI_cl (by omega)
  exact ⟨by rw [e], by rw [e]; exact h⟩
def pcT (j : Nat) : Nat := j % 2 + j / 2 % 2 + j / 4 % 2 + j / 8 % 2 + j / 16 % 2 + j / 32 % 2
theorem pcT_s : ∀ j, j < 64 → j ≠ 0 → nI j &&& (nI j - 1) = nI (j &&& (j - 1)) ∧ (j &&& (j - 1)) < j ∧ pcT (j &&& (j - 1)) + 1 = pcT j := by decide
theorem pcT_le : ∀ j, j < 64 → pcT j ≤ 6 := by decide

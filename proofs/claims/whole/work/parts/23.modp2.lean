/-! ===== LastWordModel: what stands, as functions ===== -/
def nM (μ : wRec) : Nat := (μ 7 0).toNatClampNeg
def qM (μ : wRec) : Nat := (μ 8 1).toNatClampNeg
def wfW (μ : wRec) : Prop := μ 7 0 = nI (nM μ) ∧ nM μ ≤ 6
def wfQM (μ : wRec) : Prop := μ 8 1 = nI (qM μ) ∧ qM μ ≤ 6
abbrev nrM (μ : wRec) (w s : Nat) : Int32 := μ 7 (3 + 7 * w + 2 + s)
abbrev atV (μ : wRec) (q k : Nat) : Int32 := μ 8 (10 + 6 * q + k)
def mnL (μ : wRec) (w : Int32) (s : Nat) (laid : Int32) : Nat → Int32
  | 0 => -9
  | x + 1 => if ((nI x ≠ w ∧ (laid >>> (nI x &&& 31)) &&& 1 = 0) ∧ 0 < nrM μ x s) ∧ (mnL μ w s laid x = -9 ∨ nrM μ (mnL μ w s laid x).toNatClampNeg s < nrM μ x s) then nI x else mnL μ w s laid x
theorem mnL_ix (μ : wRec) (w : Int32) (s : Nat) (laid : Int32) : ∀ x, x ≤ 6 → mnL μ w s laid x = -9 ∨ ixOK (mnL μ w s laid x) x
  | 0, _ => Or.inl rfl
  | x + 1, h => by
    rw [mnL]
    split
    · have e : (nI x).toNatClampNeg = x := nI_cl (by omega)
      exact Or.inr ⟨by rw [e], by rw [e]; omega⟩
    · rcases mnL_ix μ w s laid x (by omega) with h1 | h1
      · exact Or.inl h1
      · exact Or.inr ⟨h1.1, Nat.lt_succ_of_lt h1.2⟩
def mnF (μ : wRec) (w : Int32) (s : Nat) (laid : Int32) : Int32 := mnL μ w s laid (nM μ)
def owM (μ : wRec) (w : Int32) : Nat → Int32
  | 0 => 0
  | q + 1 => owM μ w q + (if atV μ q 3 = w then 1 else 0)
def wdM (μ : wRec) (w : Int32) : Nat → Int32
  | 0 => 0
  | q + 1 => wdM μ w q + (if atV μ q 3 = -9 ∧ atV μ q 0 = w then 1 else 0)
def woM (μ : wRec) (w : Int32) : Nat → Int32
  | 0 => -9
  | q + 1 => if atV μ q 3 = w ∧ (woM μ w q = -9 ∨ atV μ q 2 < atV μ (woM μ w q).toNatClampNeg 2) then nI q else woM μ w q
theorem woM_ix (μ : wRec) (w : Int32) : ∀ x, x ≤ 6 → woM μ w x = -9 ∨ ixOK (woM μ w x) x
  | 0, _ => Or.inl rfl
  | x + 1, h => by
    rw [woM]
    split
    · have e : (nI x).toNatClampNeg = x := nI_cl (by omega)
      exact Or.inr ⟨by rw [e], by rw [e]; omega⟩
    · rcases woM_ix μ w x (by omega) with h1 | h1
      · exact Or.inl h1
      · exact Or.inr ⟨h1.1, Nat.lt_succ_of_lt h1.2⟩
abbrev laidM (μ : wRec) (w : Int32) : Prop := (μ 8 2 >>> (w &&& 31)) &&& 1 = 1
def anM (μ : wRec) (w : Nat) (s : Int32) : Int32 := if μ 7 (3 + 7 * w + 1) = 5 then s else μ 7 (3 + 7 * w + 1)
abbrev isWM (μ : wRec) (w : Int32) : Prop := inB w 0 (μ 7 0 - 1)
abbrev isQM (μ : wRec) (q : Int32) : Prop := inB q 0 (μ 8 1 - 1)
abbrev isSM (s : Int32) : Prop := inB s 0 4
theorem in_ix {x y : Int32} {n : Nat} (hy : y = nI n) (hn : n ≤ 6) (h : inB x 0 (y - 1)) : ixOK x n := by
  refine ix_of hy (by omega) ⟨h.1, ?_⟩
  have h2 := h.2
  subst hy
  rcases (show n = 0 ∨ n = 1 ∨ n = 2 ∨ n = 3 ∨ n = 4 ∨ n = 5 ∨ n = 6 by omega) with rfl | rfl | rfl | rfl | rfl | rfl | rfl
  · exact absurd (Int32.le_trans h.1 h2) (by decide)
  · exact Int32.lt_of_le_of_lt h2 (by decide)
  · exact Int32.lt_of_le_of_lt h2 (by decide)
  · exact Int32.lt_of_le_of_lt h2 (by decide)
  · exact Int32.lt_of_le_of_lt h2 (by decide)
  · exact Int32.lt_of_le_of_lt h2 (by decide)
  · exact Int32.lt_of_le_of_lt h2 (by decide)
theorem wM_ix {μ : wRec} (h : wfW μ) {w : Int32} (q : isWM μ w) : ixOK w (nM μ) := in_ix h.1 h.2 q
theorem qM_ix {μ : wRec} (h : wfQM μ) {w : Int32} (q : isQM μ w) : ixOK w (qM μ) := in_ix h.1 h.2 q
theorem sM_ix {s : Int32} (q : isSM s) : ixOK s 5 := in_ix (y := 5) (n := 5) rfl (by omega) q

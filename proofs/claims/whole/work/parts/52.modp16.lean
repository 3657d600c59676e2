/-! ===== LastWordModel: isInTime, keeps, as functions ===== -/
abbrev bitB (set : Int32) (q : Nat) : Prop := (set >>> (nI q &&& 31)) &&& 1 = 1
def clr (j q : Nat) : Nat := if j / 2 ^ q % 2 = 1 then j - 2 ^ q else j
theorem bit_nI : ∀ j, j < 64 → ∀ q, q < 6 → (bitB (nI j) q ↔ j / 2 ^ q % 2 = 1) := by decide +kernel
theorem clr_eq : ∀ j, j < 64 → ∀ q, q < 6 → nI j &&& (((1 : Int32) <<< (nI q &&& 31)) ^^^ (-1)) = nI (clr j q) := by decide +kernel
theorem clr_lt : ∀ j, j < 64 → ∀ q, q < 6 → j / 2 ^ q % 2 = 1 → clr j q < j := by decide +kernel
theorem bit_ex : ∀ n, n < 7 → ∀ j, j < 2 ^ n → j ≠ 0 → ∃ q, q < n ∧ bitB (nI j) q := by decide +kernel
def itF (μ : wRec) (left : Int32) : Nat → Int32
  | 0 => -9
  | q + 1 => if bitB left q ∧ (itF μ left q = -9 ∨ atV μ q 2 < atV μ (itF μ left q).toNatClampNeg 2) then nI q else itF μ left q
theorem itF_ix (μ : wRec) (left : Int32) : ∀ x, x ≤ 6 → (itF μ left x = -9 ∧ ∀ q, q < x → ¬ bitB left q) ∨ (ixOK (itF μ left x) x ∧ bitB left (itF μ left x).toNatClampNeg)
  | 0, _ => Or.inl ⟨rfl, fun q hq => absurd hq (Nat.not_lt_zero q)⟩
  | x + 1, h => by
    have e : (nI x).toNatClampNeg = x := nI_cl (by omega)
    have ih := itF_ix μ left x (by omega)
    rw [itF]
    split
    · rename_i hc
      exact Or.inr ⟨⟨by rw [e], by rw [e]; omega⟩, by rw [e]; exact hc.1⟩
    · rename_i hc
      rcases ih with ⟨h1, h2⟩ | ⟨h1, h2⟩
      · refine Or.inl ⟨h1, fun q hq hb => ?_⟩
        by_cases hqx : q = x
        · subst hqx
          exact hc ⟨hb, Or.inl h1⟩
        · exact h2 q (by omega) hb
      · exact Or.inr ⟨⟨h1.1, Nat.lt_succ_of_lt h1.2⟩, h2⟩
abbrev itQ (μ : wRec) (j : Nat) : Int32 := itF μ (nI j) (qM μ)
theorem itQ_ok {μ : wRec} (h : wfQM μ) {j : Nat} (hj : j < 2 ^ qM μ) (hz : j ≠ 0) : ixOK (itQ μ j) (qM μ) ∧ bitB (nI j) (itQ μ j).toNatClampNeg := by
  rcases itF_ix μ (nI j) (qM μ) h.2 with ⟨-, h2⟩ | h1
  · obtain ⟨q, hq, hb⟩ := bit_ex (qM μ) (by have := h.2; omega) j hj hz
    exact absurd hb (h2 q hq)
  · exact h1
theorem itQ_64 {μ : wRec} (h : wfQM μ) {j : Nat} (hj : j < 2 ^ qM μ) : j < 64 := Nat.lt_of_lt_of_le hj (Nat.pow_le_pow_right (by omega) h.2)
theorem itQ_lt {μ : wRec} (h : wfQM μ) {j : Nat} (hj : j < 2 ^ qM μ) (hz : j ≠ 0) : clr j (itQ μ j).toNatClampNeg < j := by
  have h1 := itQ_ok h hj hz
  have h6 : (itQ μ j).toNatClampNeg < 6 := Nat.lt_of_lt_of_le h1.1.2 h.2
  exact clr_lt j (itQ_64 h hj) _ h6 ((bit_nI j (itQ_64 h hj) _ h6).mp h1.2)
theorem itQ_clr {μ : wRec} (h : wfQM μ) {j : Nat} (hj : j < 2 ^ qM μ) (hz : j ≠ 0) : nI j &&& (((1 : Int32) <<< (itQ μ j &&& 31)) ^^^ (-1)) = nI (clr j (itQ μ j).toNatClampNeg) := by
  have h1 := itQ_ok h hj hz
  have h6 : (itQ μ j).toNatClampNeg < 6 := Nat.lt_of_lt_of_le h1.1.2 h.2
  rw [← clr_eq j (itQ_64 h hj) _ h6, ← h1.1.1]
def itL (μ : wRec) : Nat → Nat → Int32 → Bool
  | 0, _, _ => true
  | f + 1, j, v => if j = 0 then true else if atV μ (itQ μ j).toNatClampNeg 2 + μ 7 1 < v + atV μ (itQ μ j).toNatClampNeg 4 then false else itL μ f (clr j (itQ μ j).toNatClampNeg) (v + atV μ (itQ μ j).toNatClampNeg 4)
abbrev itB (μ : wRec) (k : Nat) : Prop := itL μ 64 k (μ 8 0) = true
theorem it_end1 {μ : wRec} {k : Nat} {b : Int32} (hb : b = 0 → itL μ 64 k (μ 8 0) = false) (e : b = 0) : b = if itB μ k then 1 else 0 := by
  rw [if_neg (fun q => by rw [itB, hb e] at q; cases q), e]
theorem it_end0 {μ : wRec} {k : Nat} {b v : Int32} {j f : Nat} (hb : b = 0 → itL μ 64 k (μ 8 0) = false) (hb1 : b ≠ 0 → b = 1 ∧ itL μ f j v = itL μ 64 k (μ 8 0)) (hz : j = 0) (hf : j < f) : b = if itB μ k then 1 else 0 := by
  by_cases e : b = 0
  · exact it_end1 hb e
  · obtain ⟨h1, h2⟩ := hb1 e
    rw [if_pos (by rw [itB, ← h2, show f = (f - 1) + 1 by omega, itL, if_pos hz]), h1]
def mkoL (μ : wRec) (w : Int32) : Nat → Int32
  | 0 => 0
  | q + 1 => mkoL μ w q ||| (if atV μ q 3 = w then (1 : Int32) <<< (nI q &&& 31) else 0)
theorem or_bit : ∀ q, q < 6 → ∀ j, j < 2 ^ q → nI j ||| ((1 : Int32) <<< (nI q &&& 31)) = nI (j + 2 ^ q) := by decide +kernel
theorem mko_ok (μ : wRec) (w : Int32) : ∀ q, q ≤ 6 → ∃ o, o < 2 ^ q ∧ mkoL μ w q = nI o
  | 0, _ => ⟨0, by decide, rfl⟩
  | q + 1, h => by
    obtain ⟨o, ho, e⟩ := mko_ok μ w q (by omega)
    rw [mkoL, e]
    have hp : 2 ^ (q + 1) = 2 ^ q + 2 ^ q := by rw [Nat.pow_succ]; omega
    split
    · exact ⟨o + 2 ^ q, by omega, or_bit q (by omega) o ho⟩
    · exact ⟨o, by omega, by simp⟩
def oM (μ : wRec) (w : Int32) : Nat := (mkoL μ w (qM μ)).toNatClampNeg
theorem oM_ok {μ : wRec} (h : wfQM μ) (w : Int32) : mkoL μ w (qM μ) = nI (oM μ w) ∧ oM μ w < 2 ^ qM μ := by
  obtain ⟨o, ho, e⟩ := mko_ok μ w (qM μ) h.2
  have h64 : o < 64 := itQ_64 h ho
  have : oM μ w = o := by rw [oM, e]; exact nI_cl (by omega)
  rw [this]
  exact ⟨e, ho⟩
def mkpL (μ : wRec) (o : Nat) : Nat → Int32
  | 0 => 0
  | s + 1 => if (nI s &&& (nI o ^^^ (-1)) = 0 ∧ ¬ nI (pcT s) ≤ mkpL μ o s) ∧ itB μ s then nI (pcT s) else mkpL μ o s
def mkpV (μ : wRec) (w : Int32) : Int32 := if isWM μ w then mkpL μ (oM μ w) (oM μ w + 1) else -1

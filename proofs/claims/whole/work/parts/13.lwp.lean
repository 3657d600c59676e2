/-! ===== LastWord: what its methods answer ===== -/
abbrev isWr (π : wRec) (w : Int32) : Prop := 0 ≤ w ∧ w < π 0 0
abbrev isSb (s : Int32) : Prop := 0 ≤ s ∧ s < 5
abbrev isQu (σ : wRec) (q : Int32) : Prop := 0 ≤ q ∧ q < σ 2 0
abbrev laidB (σ : wRec) (w : Int32) : Prop := (σ 3 0 >>> (w &&& 31)) &&& 1 = 1
theorem ix_of {x y : Int32} {n : Nat} (hy : y = nI n) (hn : n < 2147483648) (h : 0 ≤ x ∧ x < y) : ixOK x n := by
  obtain ⟨j, hj, e⟩ := nI_of (Int32.not_lt.mpr h.1)
  have hc : (nI j).toNatClampNeg = j := nI_clamp hj
  subst e
  refine ⟨by rw [hc], ?_⟩
  rw [hc]
  have h2 := h.2
  rw [hy] at h2
  exact (nI_ltI hj (by omega)).mp h2
theorem wr_ix {π : wRec} (hp : wfN π) {w : Int32} (h : isWr π w) : ixOK w (nW π) := ix_of hp.1 (by have := hp.2; omega) h
theorem wfP.n {π : wRec} (h : wfP π) : wfN π := ⟨h.1, h.2.1⟩
theorem sb_ix {s : Int32} (h : isSb s) : ixOK s 5 := ix_of (y := 5) (n := 5) rfl (by omega) h
theorem qu_ix {σ : wRec} (hq : wfQ σ) {q : Int32} (h : isQu σ q) : ixOK q (nQ σ) := ix_of hq.1 (by have := hq.2; omega) h
theorem wk_sw (x : Int32) (n : Nat) (hn : n < 2147483648) : (x.toInt < 0 ∨ (n : Int) ≤ x.toInt) ∨ ∃ k : Nat, k < n ∧ x = nI k := by
  by_cases h : x < 0
  · exact Or.inl (Or.inl (by have := Int32.lt_iff_toInt_lt.mp h; simpa using this))
  · obtain ⟨j, hj, e⟩ := nI_of h
    by_cases h2 : j < n
    · exact Or.inr ⟨j, h2, e⟩
    · refine Or.inl (Or.inr ?_)
      rw [e, nI_toInt (by omega)]
      omega
abbrev tn (x : Int32) : Nat := x.toNatClampNeg
def typeV (τ : wRec) (x : Int32) : Int32 := if 0 ≤ x ∧ x ≤ 255 then (if lnT τ < 200 then nI (lnT τ + 1) else -3) else -1
def typeT (τ : wRec) (x : Int32) : wRec := if 0 ≤ x ∧ x ≤ 255 then addT τ x else τ
abbrev papV (τ ζ : wRec) : Int32 := riV (ri0 τ) (blankF ζ) 8 0
abbrev papE (τ ζ : wRec) : wRec × wRec := riE (ri0 τ) (blankF ζ) 8 0
def wrK (π σ : wRec) (w : Int32) (k : Nat) : Int32 := if k = 0 then π 2 (tn w) else if k = 1 then π 3 (tn w) else if k = 7 then (if laidB σ w then 1 else 0) else if k = 8 then bcF (obL (σ 8) w (nQ σ)) else if k = 9 then σ 4 (tn w) else π (5 + tn w) (k - 2)
def writerV (π σ : wRec) (w x : Int32) : Int32 := if isWr π w ∧ 0 ≤ x ∧ x ≤ 9 then wrK π σ w (tn x) else -1
def quK (σ : wRec) (q : Nat) (k : Nat) : Int32 := if k = 0 then σ 5 q else if k = 1 then σ 6 q else if k = 2 then σ 7 q else if k = 3 then σ 8 q else if k = 4 then σ 9 q else σ 10 q
def quarrelV (σ : wRec) (q x : Int32) : Int32 := if isQu σ q ∧ 0 ≤ x.toInt ∧ x.toInt < 6 then quK σ (tn q) (tn x) else -1
def meantV (π σ : wRec) (w s : Int32) : Int32 := if isWr π w ∧ isSb s then answererF π w (tn s) (σ 3 0) else -1
def nowK (σ η : wRec) (k : Nat) : Int32 := if k = 0 then σ 0 0 else if k = 1 then σ 2 0 else if k = 2 then obL (σ 8) (-9) (nQ σ) else if k = 3 then σ 1 0 else η 1 0
def nowV (σ η : wRec) (x : Int32) : Int32 := if 0 ≤ x.toInt ∧ x.toInt < 5 then nowK σ η (tn x) else -1
abbrev wrtOK (π σ : wRec) (w s : Int32) : Prop := (isWr π w ∧ isSb s) ∧ ¬ laidB σ w ∧ nQ σ < 6
def writesV (π σ : wRec) (w s : Int32) : Int32 := if isWr π w ∧ isSb s then (if laidB σ w then -2 else if nQ σ < 6 then nI (nQ σ) else -3) else -1
def writesA (π σ : wRec) (w s : Int32) : wRec := if wrtOK π σ w s then beginF π σ w (tn s) else σ
def writesH (π σ η : wRec) (w s : Int32) : wRec := if wrtOK π σ w s then remF η else η
def writesR (π σ ρ : wRec) (w s : Int32) : wRec := if wrtOK π σ w s then σ else ρ
def dayV (π σ : wRec) : Int32 := if σ 0 0 < 999 then passN π σ else -2
def dayAA (π σ : wRec) : wRec := if σ 0 0 < 999 then passF π σ else σ
def dayH (σ η : wRec) : wRec := if σ 0 0 < 999 then remF η else η
def dayR (σ ρ : wRec) : wRec := if σ 0 0 < 999 then σ else ρ
abbrev layOK (π σ : wRec) (w : Int32) : Prop := isWr π w ∧ ¬ laidB σ w
def laysV (π σ : wRec) (w : Int32) : Int32 := if isWr π w then (if laidB σ w then -2 else bcF (layB σ (tn w))) else -1
def laysA (π σ : wRec) (w : Int32) : wRec := if layOK π σ w then layF π σ (tn w) else σ
def laysH (π σ η : wRec) (w : Int32) : wRec := if layOK π σ w then remF η else η
def laysR (π σ ρ : wRec) (w : Int32) : wRec := if layOK π σ w then σ else ρ
def undoV (η : wRec) : Int32 := if η 1 0 = 0 then -2 else nI (nK η) - 1
def undoA (η σ ρ : wRec) : wRec := if η 1 0 = 0 then σ else ρ
def undoH (η : wRec) : wRec := if η 1 0 = 0 then η else recF η

/-! ===== LastWordModel: the text and its reading, as functions ===== -/
theorem wide_lt (a b : Int32) : a.toInt64 < b.toInt64 ↔ a < b := by rw [Int64.lt_iff_toInt_lt, Int32.lt_iff_toInt_lt, Int32.toInt_toInt64, Int32.toInt_toInt64]
theorem in_lo {v lo : Int32} : lg_cmp v.toInt64 lo.toInt64 < 0 ↔ v < lo := (lg_cmp_lt _ _).trans (wide_lt v lo)
theorem in_hi {v hi : Int32} : 0 < lg_cmp v.toInt64 hi.toInt64 ↔ hi < v := (lg_cmp_gt _ _).trans (wide_lt hi v)
abbrev inB (v lo hi : Int32) : Prop := lo ≤ v ∧ v ≤ hi
def lnM (μ : wRec) : Nat := (μ 1 0).toNatClampNeg
def atM (μ : wRec) : Nat := (μ 2 0).toNatClampNeg
def wfM (μ : wRec) : Prop := μ 1 0 = nI (lnM μ) ∧ lnM μ ≤ 200
def wfMA (μ : wRec) : Prop := μ 2 0 = nI (atM μ) ∧ atM μ ≤ lnM μ
def mtypeV (μ : wRec) (x : Int32) : Int32 := if inB x 0 255 then (if lnM μ = 200 then -3 else nI (lnM μ + 1)) else -1
def mtypeF (μ : wRec) (x : Int32) : wRec := if inB x 0 255 then (if lnM μ = 200 then μ else va_up (va_up μ 0 (upd (μ 0) (lnM μ) x)) 1 (fun _ => nI (lnM μ + 1))) else μ
def mclearF (μ : wRec) : wRec := va_up μ 1 (fun _ => 0)
def rdS (μ : wRec) : Nat := skL (μ 0) (lnM μ - atM μ) (atM μ)
def rdD (μ : wRec) : Nat × Int32 := dgL (μ 0) (lnM μ - rdS μ) (rdS μ) 0
def rdP (μ : wRec) : Nat := if lnM μ ≤ rdS μ then rdS μ else if isDg (μ 0 (rdS μ)) then (rdD μ).1 else rdS μ + 1
def rdK (μ : wRec) : Int32 := if lnM μ ≤ rdS μ then 0 else if isDg (μ 0 (rdS μ)) then (if ¬ (rdD μ).2 ≤ 20 ∨ (¬ nI (rdD μ).1 - nI (rdS μ) ≤ 1 ∧ μ 0 (rdS μ) = 48) then 4 else 2) else if μ 0 (rdS μ) = 119 ∨ μ 0 (rdS μ) = 116 then 1 else if μ 0 (rdS μ) = 59 then 3 else 4
def rdV (μ : wRec) : Int32 := if lnM μ ≤ rdS μ then μ 5 0 else if isDg (μ 0 (rdS μ)) then (rdD μ).2 else μ 0 (rdS μ)
def rdF (μ : wRec) : wRec := va_up (va_up (va_up (va_up μ 2 (fun _ => nI (rdP μ))) 3 (fun _ => nI (rdS μ))) 4 (fun _ => rdK μ)) 5 (fun _ => rdV μ)
theorem rdF_K (μ : wRec) : rdF μ 4 0 = rdK μ := rfl
theorem rdF_V (μ : wRec) : rdF μ 5 0 = rdV μ := rfl
theorem rdS_le {μ : wRec} (h : wfMA μ) : atM μ ≤ rdS μ ∧ rdS μ ≤ lnM μ := by
  have := skL_le (μ 0) (lnM μ - atM μ) (atM μ)
  have h2 := h.2
  unfold rdS
  omega
theorem rdP_le {μ : wRec} (h : wfMA μ) : rdS μ ≤ rdP μ ∧ rdP μ ≤ lnM μ := by
  have h1 := rdS_le h
  unfold rdP
  split
  · omega
  · split
    · have := dgL_le (μ 0) (lnM μ - rdS μ) (rdS μ) 0
      unfold rdD
      omega
    · omega
theorem rdF_M {μ : wRec} (h : wfM μ) : wfM (rdF μ) := h
theorem rdF_A {μ : wRec} (h : wfM μ) (h2 : wfMA μ) : wfMA (rdF μ) := by
  have h3 := rdP_le h2
  have h4 := h.2
  have e : (nI (rdP μ)).toNatClampNeg = rdP μ := nI_cl (by omega)
  show nI (rdP μ) = nI (nI (rdP μ)).toNatClampNeg ∧ (nI (rdP μ)).toNatClampNeg ≤ lnM μ
  rw [e]
  exact ⟨rfl, h3.2⟩
abbrev mnumOK (μ : wRec) (lo hi : Int32) : Prop := rdK μ = 2 ∧ inB (rdV μ) lo hi
def plL (μ : wRec) (i : Nat) : wRec := va_up μ 6 (fun k => if k < i then 0 else μ 6 k)
def plF (μ : wRec) : wRec := va_up μ 6 (upd (fun k => if k < 45 then 0 else μ 6 k) 1 9)
theorem fill_0 {α : Type} (f g : Nat → α) : (fun k => if k < 0 then f k else g k) = g := by
  funext k
  rw [if_neg (Nat.not_lt_zero k)]
theorem fill_s (f g : Nat → Int32) (i : Nat) : upd (fun k => if k < i then f k else g k) i (f i) = fun k => if k < i + 1 then f k else g k := by
  funext k
  by_cases h : k = i
  · subst h
    rw [pk_us, if_pos (by omega)]
  · rw [pk_un h]
    by_cases h2 : k < i
    · rw [if_pos h2, if_pos (by omega)]
    · rw [if_neg h2, if_neg (by omega)]
theorem up_self {μ : wRec} {k : Nat} {r : Nat → Int32} (h : r = μ k) : va_up μ k r = μ := by
  funext j
  by_cases e : j = k
  · subst e
    rw [va_up_self, h]
  · rw [va_up_ne _ _ e]
theorem up_up (μ : wRec) (k : Nat) (r q : Nat → Int32) : va_up (va_up μ k r) k q = va_up μ k q := by
  funext j
  by_cases e : j = k
  · subst e
    rw [va_up_self, va_up_self]
  · rw [va_up_ne _ _ e, va_up_ne _ _ e, va_up_ne _ _ e]
/-- item by item -/
def rN (μ : wRec) : Nat := (μ 6 0).toNatClampNeg
def mwS (ν : wRec) (n k : Nat) : wRec := va_up (rdF ν) 6 (upd (ν 6) (3 + 7 * n + k) (rdV ν))
def mwK (μ : wRec) (n : Nat) : Nat → wRec
  | 0 => μ
  | k + 1 => mwS (mwK μ n k) n k
abbrev mokK (μ : wRec) (n k : Nat) : Prop := mnumOK (mwK μ n k) (loK k) (hiK k)
def mwC (μ : wRec) (n : Nat) : Nat → Nat → Nat
  | 0, k => k
  | f + 1, k => if mokK μ n k then mwC μ n f (k + 1) else k
def mwN (μ : wRec) : Nat := mwC μ (rN μ) 7 0
theorem wfM_of {μ ν : wRec} (h : wfM μ) (e : ν 1 = μ 1) : wfM ν := by
  unfold wfM lnM at *
  rw [e]
  exact h
theorem wfMA_of {μ ν : wRec} (h : wfMA μ) (e : ν 1 = μ 1) (e2 : ν 2 = μ 2) : wfMA ν := by
  unfold wfMA lnM atM at *
  rw [e, e2]
  exact h
theorem up6 (ν : wRec) (r : Nat → Int32) {k : Nat} (h : k ≠ 6) : va_up ν 6 r k = ν k := va_up_ne _ _ h
theorem mwK_M {μ : wRec} (h : wfM μ) (n : Nat) : ∀ k, wfM (mwK μ n k)
  | 0 => h
  | k + 1 => by
    rw [mwK, mwS]
    exact wfM_of (rdF_M (mwK_M h n k)) (up6 _ _ (by decide))
theorem mwK_A {μ : wRec} (h : wfM μ) (h2 : wfMA μ) (n : Nat) : ∀ k, wfMA (mwK μ n k)
  | 0 => h2
  | k + 1 => by
    rw [mwK, mwS]
    exact wfMA_of (rdF_A (mwK_M h n k) (mwK_A h h2 n k)) (up6 _ _ (by decide)) (up6 _ _ (by decide))
theorem mwK_0 {μ : wRec} (n : Nat) : ∀ k, k ≤ 7 → mwK μ n k 6 0 = μ 6 0
  | 0, _ => rfl
  | k + 1, h => by
    show upd (mwK μ n k 6) (3 + 7 * n + k) (rdV (mwK μ n k)) 0 = μ 6 0
    rw [pk_un (by omega)]
    exact mwK_0 n k (by omega)
/-- the t item -/
def mtS (μ : wRec) : wRec := va_up (rdF μ) 6 (upd (upd (μ 6) 1 (rdV μ)) 2 1)
/-- the w item -/
def mwD (μ : wRec) : wRec := va_up (mwK μ (rN μ) 7) 6 (upd (mwK μ (rN μ) 7 6) 0 (nI (rN μ + 1)))
abbrev mtOK (μ : wRec) : Prop := ¬ μ 6 2 = 1 ∧ mnumOK μ 1 20
abbrev mwOK (μ : wRec) : Prop := rN μ ≠ 6 ∧ mwN μ = 7
def miF (μ : wRec) : wRec := if μ 4 0 = 1 then (if μ 5 0 = 116 then (if μ 6 2 = 1 then μ else if mnumOK μ 1 20 then rdF (mtS μ) else rdF μ) else (if rN μ = 6 then μ else if mwN μ = 7 then rdF (mwD μ) else rdF (mwK μ (rN μ) (mwN μ)))) else μ
abbrev miOK (μ : wRec) : Prop := μ 4 0 = 1 ∧ ((μ 5 0 = 116 ∧ mtOK μ ∧ rdK (mtS μ) = 3) ∨ (¬ μ 5 0 = 116 ∧ mwOK μ ∧ rdK (mwD μ) = 3))

/-! ===== LastWordModel: the text and its reading, as functions ===== -/
theorem wide_lt (a b : Int32) : a.toInt64 < b.toInt64 ↔ a < b := by rw [Int64.lt_iff_toInt_lt, Int32.lt_iff_toInt_lt, Int32.toInt_toInt64, Int32.toInt_toInt64]
theorem in_lo {v lo : Int32} : lg_cmp v.toInt64 lo.toInt64 < 0 ↔ v < lo := (lg_cmp_lt _ _).trans (wide_lt v lo)
theorem in_hi {v hi : Int32} : 0 < lg_cmp v.toInt64 hi.toInt64 ↔ hi < v := (lg_cmp_gt _ _).trans (wide_lt hi v)
abbrev inB (v lo hi : Int32) : Prop := lo ≤ v ∧ v ≤ hi
def lnM (μ : wRec) : Nat := (μ 1 0).toNatClampNeg
def atM (μ : wRec) : Nat := (μ 2 0).toNatClampNeg
def wfM (μ : wRec) : Prop := μ 1 0 = nI (lnM μ) ∧ lnM μ ≤ 200
def wfMA (μ : wRec) : Prop := μ 2 0 = nI (atM μ) ∧ atM μ ≤ lnM μ
def mtypeV (μ : wRec) (x : Int32) : Int32 := if inB x 0 255 then (if lnM μ = 200 then -3 else nI (lnM μ + 1)) else -1
def mtypeF (μ : wRec) (x : Int32) : wRec := if inB x 0 255 then (if lnM μ = 200 then μ else va_up (va_up μ 0 (upd (μ 0) (lnM μ) x)) 1 (fun _ => nI (lnM μ + 1))) else μ
def mclearF (μ : wRec) : wRec := va_up μ 1 (fun _ => 0)
def rdS (μ : wRec) : Nat := skL (μ 0) (lnM μ - atM μ) (atM μ)
def rdD (μ : wRec) : Nat × Int32 := dgL (μ 0) (lnM μ - rdS μ) (rdS μ) 0
def rdP (μ : wRec) : Nat := if lnM μ ≤ rdS μ then rdS μ else if isDg (μ 0 (rdS μ)) then (rdD μ).1 else rdS μ + 1
def rdK (μ : wRec) : Int32 := if lnM μ ≤ rdS μ then 0 else if isDg (μ 0 (rdS μ)) then (if ¬ (rdD μ).2 ≤ 20 ∨ (¬ nI (rdD μ).1 - nI (rdS μ) ≤ 1 ∧ μ 0 (rdS μ) = 48) then 4 else 2) else if μ 0 (rdS μ) = 119 ∨ μ 0 (rdS μ) = 116 then 1 else if μ 0 (rdS μ) = 59 then 3 else 4
def rdV (μ : wRec) : Int32 := if lnM μ ≤ rdS μ then μ 5 0 else if isDg (μ 0 (rdS μ)) then (rdD μ).2 else μ 0 (rdS μ)
def rdF (μ : wRec) : wRec := va_up (va_up (va_up (va_up μ 2 (fun _ => nI (rdP μ))) 3 (fun _ => nI (rdS μ))) 4 (fun _ => rdK μ)) 5 (fun _ => rdV μ)
theorem rdF_K (μ : wRec) : rdF μ 4 0 = rdK μ := rfl
theorem rdF_V (μ : wRec) : rdF μ 5 0 = rdV μ := rfl
theorem rdS_le {μ : wRec} (h : wfMA μ) : atM μ ≤ rdS μ ∧ rdS μ ≤ lnM μ := by
  have := skL_le (μ 0) (lnM μ - atM μ) (atM μ)
  have h2 := h.2
  unfold rdS
  omega
theorem rdP_le {μ : wRec} (h : wfMA μ) : rdS μ ≤ rdP μ ∧ rdP μ ≤ lnM μ := by
  have h1 := rdS_le h
  unfold rdP
  split
  · omega
  · split
    · have := dgL_le (μ 0) (lnM μ - rdS μ) (rdS μ) 0
      unfold rdD
      omega
    · omega
theorem rdF_M {μ : wRec} (h : wfM μ) : wfM (rdF μ) := h
theorem rdF_A {μ : wRec} (h : wfM μ) (h2 : wfMA μ) : wfMA (rdF μ) := by
  have h3 := rdP_le h2
  have h4 := h.2
  have e : (nI (rdP μ)).toNatClampNeg = rdP μ := nI_cl (by omega)
  show nI (rdP μ) = nI (nI (rdP μ)).toNatClampNeg ∧ (nI (rdP μ)).toNatClampNeg ≤ lnM μ
  rw [e]
  exact ⟨rfl, h3.2⟩
abbrev mnumOK (μ : wRec) (lo hi : Int32) : Prop := rdK μ = 2 ∧ inB (rdV μ) lo hi
def plL (μ : wRec) (i : Nat) : wRec := va_up μ 6 (fun k => if k < i then 0 else μ 6 k)
def plF (μ : wRec) : wRec := va_up μ 6 (upd (fun k => if k < 45 then 0 else μ 6 k) 1 9)
theorem fill_0 {α : Type} (f g : Nat → α) : (fun k => if k < 0 then f k else g k) = g := by
  funext k
  rw [if_neg (Nat.not_lt_zero k)]
theorem fill_s (f g : Nat → Int32) (i : Nat) : upd (fun k => if k < i then f k else g k) i (f i) = fun k => if k < i + 1 then f k else g k := by
  funext k
  by_cases h : k = i
  · subst h
    rw [pk_us, if_pos (by omega)]
  · rw [pk_un h]
    by_cases h2 : k < i
    · rw [if_pos h2, if_pos (by omega)]
    · rw [if_neg h2, if_neg (by omega)]
theorem up_self {μ : wRec} {k : Nat} {r : Nat → Int32} (h : r = μ k) : va_up μ k r = μ := by
  funext j
  by_cases e : j = k
  · subst e
    rw [va_up_self, h]
  · rw [va_up_ne _ _ e]
theorem up_up (μ : wRec) (k : Nat) (r q : Nat → Int32) : va_up (va_up μ k r) k q = va_up μ k q := by
  funext j
  by_cases e : j = k
  · subst e
    rw [va_up_self, va_up_self]
  · rw [va_up_ne _ _ e, va_up_ne _ _ e, va_up_ne _ _ e]
/-- item by item -/
def rN (μ : wRec) : Nat := (μ 6 0).toNatClampNeg
def mwS (ν : wRec) (n k : Nat) : wRec := va_up (rdF ν) 6 (upd (ν 6) (3 + 7 * n + k) (rdV ν))
def mwK (μ : wRec) (n : Nat) : Nat → wRec
  | 0 => μ
  | k + 1 => mwS (mwK μ n k) n k
abbrev mokK (μ : wRec) (n k : Nat) : Prop := mnumOK (mwK μ n k) (loK k) (hiK k)
def mwC (μ : wRec) (n : Nat) : Nat → Nat → Nat
  | 0, k => k
  | f + 1, k => if mokK μ n k then mwC μ n f (k + 1) else k
def mwN (μ : wRec) : Nat := mwC μ (rN μ) 7 0
theorem wfM_of {μ ν : wRec} (h : wfM μ) (e : ν 1 = μ 1) : wfM ν := by
  unfold wfM lnM at *
  rw [e]
  exact h
theorem wfMA_of {μ ν : wRec} (h : wfMA μ) (e : ν 1 = μ 1) (e2 : ν 2 = μ 2) : wfMA ν := by
  unfold wfMA lnM atM at *
  rw [e, e2]
  exact h
theorem up6 (ν : wRec) (r : Nat → Int32) {k : Nat} (h : k ≠ 6) : va_up ν 6 r k = ν k := va_up_ne _ _ h
theorem mwK_M {μ : wRec} (h : wfM μ) (n : Nat) : ∀ k, wfM (mwK μ n k)
  | 0 => h
  | k + 1 => by
    rw [mwK, mwS]
    exact wfM_of (rdF_M (mwK_M h n k)) (up6 _ _ (by decide))
theorem mwK_A {μ : wRec} (h : wfM μ) (h2 : wfMA μ) (n : Nat) : ∀ k, wfMA (mwK μ n k)
  | 0 => h2
  | k + 1 => by
    rw [mwK, mwS]
    exact wfMA_of (rdF_A (mwK_M h n k) (mwK_A h h2 n k)) (up6 _ _ (by decide)) (up6 _ _ (by decide))
theorem mwK_0 {μ : wRec} (n : Nat) : ∀ k, k ≤ 7 → mwK μ n k 6 0 = μ 6 0
  | 0, _ => rfl
  | k + 1, h => by
    show upd (mwK μ n k 6) (3 + 7 * n + k) (rdV (mwK μ n k)) 0 = μ 6 0
    rw [pk_un (by omega)]
    exact mwK_0 n k (by omega)
/-- the t item -/
def mtS (μ : wRec) : wRec := va_up (rdF μ) 6 (upd (upd (μ 6) 1 (rdV μ)) 2 1)
/-- the w item -/
def mwD (μ : wRec) : wRec := va_up (mwK μ (rN μ) 7) 6 (upd (mwK μ (rN μ) 7 6) 0 (nI (rN μ + 1)))
abbrev mtOK (μ : wRec) : Prop := ¬ μ 6 2 = 1 ∧ mnumOK μ 1 20
abbrev mwOK (μ : wRec) : Prop := rN μ ≠ 6 ∧ mwN μ = 7
def miF (μ : wRec) : wRec := if μ 4 0 = 1 then (if μ 5 0 = 116 then (if μ 6 2 = 1 then μ else if mnumOK μ 1 20 then rdF (mtS μ) else rdF μ) else (if rN μ = 6 then μ else if mwN μ = 7 then rdF (mwD μ) else rdF (mwK μ (rN μ) (mwN μ)))) else μ
abbrev miOK (μ : wRec) : Prop := μ 4 0 = 1 ∧ ((μ 5 0 = 116 ∧ mtOK μ ∧ rdK (mtS μ) = 3) ∨ (¬ μ 5 0 = 116 ∧ mwOK μ ∧ rdK (mwD μ) = 3))
theorem wk_iff {c d : Prop} [Decidable c] [Decidable d] (h : c ↔ d) : (if c then (1 : Int32) else 0) = if d then 1 else 0 := by
  by_cases hc : c
  · rw [if_pos hc, if_pos (h.mp hc)]
  · rw [if_neg hc, if_neg (fun q => hc (h.mpr q))]
theorem loK_1 {i : Nat} (hi : i < 100) (h : nI i = 0) : (1 : Int32) = loK i := by
  have : i = 0 := (nI_eq (a := i) (b := 0) (by omega) (by omega)).mp h
  rw [this]
  rfl
theorem loK_0 {i : Nat} (h : ¬ nI i = 0) : (0 : Int32) = loK i := by
  unfold loK
  rw [if_neg (fun e => h (by rw [e]; rfl))]
theorem hiK_1 {i : Nat} (h : i = 1) : (5 : Int32) = hiK i := by
  rw [h]
  rfl
theorem hiK_0 {i : Nat} (h : i ≠ 1) : (9 : Int32) = hiK i := by
  unfold hiK
  rw [if_neg h]
theorem mtS_M {μ : wRec} (h : wfM μ) : wfM (mtS μ) := wfM_of (rdF_M h) (up6 _ _ (by decide))
theorem mtS_A {μ : wRec} (h : wfM μ) (h2 : wfMA μ) : wfMA (mtS μ) := wfMA_of (rdF_A h h2) (up6 _ _ (by decide)) (up6 _ _ (by decide))
theorem mwD_M {μ : wRec} (h : wfM μ) : wfM (mwD μ) := wfM_of (mwK_M h _ _) (up6 _ _ (by decide))
theorem mwD_A {μ : wRec} (h : wfM μ) (h2 : wfMA μ) : wfMA (mwD μ) := wfMA_of (mwK_A h h2 _ _) (up6 _ _ (by decide)) (up6 _ _ (by decide))
theorem rdF_6 (μ : wRec) : rdF μ 6 = μ 6 := rfl
def wfR (μ : wRec) : Prop := μ 6 0 = nI (rN μ) ∧ rN μ ≤ 6
theorem wfR_of {μ ν : wRec} (h : wfR μ) (e : ν 6 0 = μ 6 0) : wfR ν := by
  unfold wfR rN at *
  rw [e]
  exact h
theorem mi_M {μ : wRec} (h : wfM μ) : wfM (miF μ) := by
  unfold miF
  split
  · split
    · split
      · exact h
      · split
        · exact rdF_M (mtS_M h)
        · exact rdF_M h
    · split
      · exact h
      · split
        · exact rdF_M (mwD_M h)
        · exact rdF_M (mwK_M h _ _)
  · exact h
theorem mi_A {μ : wRec} (h : wfM μ) (h2 : wfMA μ) : wfMA (miF μ) := by
  unfold miF
  split
  · split
    · split
      · exact h2
      · split
        · exact rdF_A (mtS_M h) (mtS_A h h2)
        · exact rdF_A h h2
    · split
      · exact h2
      · split
        · exact rdF_A (mwD_M h) (mwD_A h h2)
        · exact rdF_A (mwK_M h _ _) (mwK_A h h2 _ _)
  · exact h2
/-- how many items an open text has told: writers, and the term -/
def miN (μ : wRec) : Nat := rN μ + (if μ 6 2 = 1 then 1 else 0)
theorem mwK_2 {μ : wRec} (n : Nat) : ∀ k, k ≤ 7 → mwK μ n k 6 2 = μ 6 2
  | 0, _ => rfl
  | k + 1, h => by
    show upd (mwK μ n k 6) (3 + 7 * n + k) (rdV (mwK μ n k)) 2 = μ 6 2
    rw [pk_un (by omega)]
    exact mwK_2 n k (by omega)
theorem mtS_6 (μ : wRec) : mtS μ 6 = upd (upd (μ 6) 1 (rdV μ)) 2 1 := va_up_self _ _ _
theorem mwD_6 (μ : wRec) : mwD μ 6 = upd (mwK μ (rN μ) 7 6) 0 (nI (rN μ + 1)) := va_up_self _ _ _
theorem mi_R {μ : wRec} (h : wfR μ) (hk : miOK μ) : wfR (miF μ) ∧ miN (miF μ) = miN μ + 1 := by
  obtain ⟨h4, h5⟩ := hk
  unfold miF
  rw [if_pos h4]
  rcases h5 with ⟨ha, hb, hc⟩ | ⟨ha, hb, hc⟩
  · rw [if_pos ha, if_neg hb.1, if_pos hb.2]
    have e0 : rdF (mtS μ) 6 0 = μ 6 0 := by
      rw [rdF_6, mtS_6, pk_un (by decide), pk_un (by decide)]
    have e2 : rdF (mtS μ) 6 2 = 1 := by
      rw [rdF_6, mtS_6, pk_us]
    refine ⟨wfR_of h e0, ?_⟩
    unfold miN rN
    rw [e0, e2, if_pos rfl, if_neg hb.1]
  · rw [if_neg ha, if_neg hb.1, if_pos hb.2]
    have h6 := h.2
    have hne := hb.1
    have e0 : rdF (mwD μ) 6 0 = nI (rN μ + 1) := by
      rw [rdF_6, mwD_6, pk_us]
    have e2 : rdF (mwD μ) 6 2 = μ 6 2 := by
      rw [rdF_6, mwD_6, pk_un (by decide)]
      exact mwK_2 _ 7 (by omega)
    have ec : (nI (rN μ + 1)).toNatClampNeg = rN μ + 1 := nI_cl (by omega)
    refine ⟨?_, ?_⟩
    · unfold wfR rN
      rw [e0, ec]
      exact ⟨rfl, by omega⟩
    · unfold miN
      rw [e2]
      have : rN (rdF (mwD μ)) = rN μ + 1 := by
        rw [rN, e0, ec]
      rw [this]
      omega
theorem miN_le {μ : wRec} (h : wfR μ) : miN μ ≤ 7 := by
  have := h.2
  unfold miN
  split <;> omega
theorem mi_full {μ : wRec} (h : wfR μ) (h7 : miN μ = 7) : ¬ miOK μ := by
  intro hk
  have := (mi_R h hk)
  have h2 := miN_le this.1
  omega
/-- the paper, item by item -/
def mp0 (μ : wRec) : wRec := va_up (plF μ) 2 (fun _ => 0)
def mpA (μ : wRec) : Nat → wRec
  | 0 => rdF (mp0 μ)
  | i + 1 => rdF (miF (mpA μ i))
def mpV (μ : wRec) : Nat → Nat → Int32
  | 0, i => nI i
  | f + 1, i => if mpA μ i 4 0 = 0 then nI i else if miOK (mpA μ i) then mpV μ f (i + 1) else -10 - (miF (mpA μ i)) 3 0
def mtkF (μ : wRec) : wRec := va_up (va_up (va_up (va_up (va_up μ 7 (fun k => if k < 45 then μ 6 k else μ 7 k)) 8 (fun k => if k < 46 then 0 else μ 8 k)) 14 (fun _ => 0)) 10 (fun _ => 0)) 17 (upd (upd (μ 17) 0 0) 47 0)
def mpE (μ : wRec) : Nat → Nat → wRec
  | 0, i => mtkF (mclearF (mpA μ i))
  | f + 1, i => if mpA μ i 4 0 = 0 then mtkF (mclearF (mpA μ i)) else if miOK (mpA μ i) then mpE μ f (i + 1) else miF (mpA μ i)

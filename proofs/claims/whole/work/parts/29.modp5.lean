/-! ===== LastWordModel: a day, as functions ===== -/
def asF (μ : wRec) : wRec := va_up μ 12 (fun k => if k < 46 then μ 8 k else μ 12 k)
def bkF (μ : wRec) : wRec := va_up μ 8 (fun k => if k < 46 then μ 12 k else μ 8 k)
def gwS (μ : wRec) : Nat → wRec
  | 0 => μ
  | w + 1 => if woM (gwS μ w) (nI w) (qM (gwS μ w)) = -9 then gwS μ w else va_up (gwS μ w) 8 (upd (gwS μ w 8) (10 + 6 * (woM (gwS μ w) (nI w) (qM (gwS μ w))).toNatClampNeg + 4) (gwS μ w 8 (10 + 6 * (woM (gwS μ w) (nI w) (qM (gwS μ w))).toNatClampNeg + 4) - 1))
theorem gwS_of (μ : wRec) {k : Nat} (h : k ≠ 8) : ∀ i, gwS μ i k = μ k
  | 0 => rfl
  | i + 1 => by
    rw [gwS]
    split
    · exact gwS_of μ h i
    · rw [va_up_ne _ _ h, gwS_of μ h i]
theorem gwS_8 (μ : wRec) {k : Nat} (h : ∀ q, k ≠ 10 + 6 * q + 4) : ∀ i, gwS μ i 8 k = μ 8 k
  | 0 => rfl
  | i + 1 => by
    rw [gwS]
    split
    · exact gwS_8 μ h i
    · rw [va_up_self, pk_un (h _), gwS_8 μ h i]
/-- what holds of a state that stands: writers, quarrels, subjects, who owes, hobbies -/
def wfOM (μ : wRec) : Prop := ∀ q, q < qM μ → atV μ q 3 = -9 ∨ ixOK (atV μ q 3) (nM μ)
def wfHM (μ : wRec) : Prop := ∀ w, w < nM μ → ixOK (μ 7 (3 + 7 * w + 1)) 6
def wfG (μ : wRec) : Prop := (wfW μ ∧ wfHM μ) ∧ wfQM μ ∧ wfSM μ ∧ wfOM μ
theorem wfG_of {μ ν : wRec} (h : wfG μ) (e7 : ν 7 = μ 7) (e1 : ν 8 1 = μ 8 1) (es : ∀ q, q < qM μ → ixOK (ν 8 (10 + 6 * q + 1)) 5) (eo : ∀ q, q < qM μ → atV ν q 3 = -9 ∨ ixOK (atV ν q 3) (nM μ)) : wfG ν := by
  have en : nM ν = nM μ := by unfold nM; rw [e7]
  have eq : qM ν = qM μ := by unfold qM; rw [e1]
  refine ⟨⟨?_, ?_⟩, ?_, ?_, ?_⟩
  · unfold wfW; rw [en, e7]; exact h.1.1
  · unfold wfHM; rw [en, e7]; exact h.1.2
  · unfold wfQM; rw [eq, e1]; exact h.2.1
  · unfold wfSM; rw [eq]; exact es
  · unfold wfOM; rw [eq, en]; exact eo
theorem gwS_G {μ : wRec} (h : wfG μ) (i : Nat) : wfG (gwS μ i) := by
  refine wfG_of h (gwS_of μ (by decide) i) (gwS_8 μ (fun q => by omega) i) (fun q hq => ?_) (fun q hq => ?_)
  · rw [gwS_8 μ (fun q => by omega) i]; exact h.2.2.1 q hq
  · rw [atV, gwS_8 μ (fun q => by omega) i]; exact h.2.2.2 q hq
theorem mnsF_G {μ : wRec} (h : wfG μ) {q : Nat} : wfG (mnsF μ q) := by
  refine wfG_of h (mnsF_of μ q (by decide)) (mnsF_8 μ (by omega) (by omega)) (fun p hp => ?_) (fun p hp => ?_)
  · rw [mnsF_8 μ (by omega) (by omega)]; exact h.2.2.1 p hp
  · by_cases e : p = q
    · subst e
      rw [atV, mnsF, va_up_self, pk_un (by omega), pk_us]
      exact mnF_ix h.1.1 _ _ _
    · rw [atV, mnsF_8 μ (by omega) (by omega)]; exact h.2.2.2 p hp
theorem prF_G {μ : wRec} (h : wfG μ) {q : Nat} (w : Int32) {s : Nat} (hs : s < 5) : wfG (prF μ q w s) := by
  refine mnsF_G (wfG_of (ν := prS μ q w s) h (va_up_ne _ _ (by decide)) ?_ (fun p hp => ?_) (fun p hp => ?_))
  · rw [prS, va_up_self, pk_un (by omega), pk_un (by omega), pk_un (by omega), pk_un (by omega), pk_un (by omega)]
  · by_cases e : p = q
    · subst e
      exact prS_ix μ p w hs
    · rw [prS, va_up_self, pk_un (by omega), pk_un (by omega), pk_un (by omega), pk_un (by omega), pk_un (by omega)]
      exact h.2.2.1 p hp
  · rw [atV, prS, va_up_self, pk_un (by omega), pk_un (by omega), pk_un (by omega), pk_un (by omega), pk_un (by omega)]
    exact h.2.2.2 p hp
theorem anM_ix {μ : wRec} (h : wfG μ) {w : Nat} (hw : w < nM μ) {s : Int32} (hs : ixOK s 5) : ixOK (anM μ w s) 5 := by
  have h1 := h.1.2 w hw
  unfold anM
  split
  · exact hs
  · refine ⟨h1.1, ?_⟩
    have h2 := h1.2
    refine Nat.lt_of_le_of_ne (by omega) (fun e => ?_)
    rename_i hne
    exact hne (by rw [h1.1, e]; rfl)
def gy0 (μ : wRec) : wRec := va_up (va_up (gwS μ (nM μ)) 8 (upd (gwS μ (nM μ) 8) 0 (gwS μ (nM μ) 8 0 + 1))) 11 (fun _ => -9)
def ltM (ν : wRec) (q : Nat) : wRec := va_up (va_up ν 8 (upd (upd (ν 8) (10 + 6 * q + 5) 1) (4 + (atV ν q 3).toNatClampNeg) (ν 8 (4 + (atV ν q 3).toNatClampNeg) + 1))) 11 (fun _ => if ν 11 0 = -9 then nI q else ν 11 0)
def gyT (ν : wRec) (q : Nat) : wRec := if atV ν q 3 = -9 then ν else if atV ν q 4 = 0 then prF ν q (atV ν q 3) (anM ν (atV ν q 3).toNatClampNeg (atV ν q 1)).toNatClampNeg else if atV ν q 2 + ν 7 1 = ν 8 0 then ltM ν q else ν
def gyS (μ : wRec) : Nat → wRec
  | 0 => gy0 μ
  | q + 1 => gyT (gyS μ q) q
def gyC (μ : wRec) : Nat → Int32
  | 0 => 0
  | q + 1 => if ¬ atV (gyS μ q) q 3 = -9 ∧ atV (gyS μ q) q 4 = 0 then gyC μ q + 1 else gyC μ q
theorem gy0_8 (μ : wRec) {k : Nat} (h : k ≠ 0) : gy0 μ 8 k = gwS μ (nM μ) 8 k := by
  rw [gy0, va_up_ne _ _ (by decide), va_up_self, pk_un h]
theorem gy0_G {μ : wRec} (h : wfG μ) : wfG (gy0 μ) := by
  have h2 := gwS_G h (nM μ)
  refine wfG_of (ν := gy0 μ) h2 ?_ (gy0_8 μ (by decide)) (fun p hp => ?_) (fun p hp => ?_)
  · rw [gy0, va_up_ne _ _ (by decide), va_up_ne _ _ (by decide)]
  · rw [gy0_8 μ (by omega)]; exact h2.2.2.1 p hp
  · rw [atV, gy0_8 μ (by omega)]; exact h2.2.2.2 p hp
theorem ltM_8 (ν : wRec) (q : Nat) {k : Nat} (h : k ≠ 10 + 6 * q + 5) (h2 : k ≠ 4 + (atV ν q 3).toNatClampNeg) : ltM ν q 8 k = ν 8 k := by
  rw [ltM, va_up_ne _ _ (by decide), va_up_self, pk_un h2, pk_un h]
theorem ltM_G {ν : wRec} (h : wfG ν) {q : Nat} (ho : ixOK (atV ν q 3) (nM ν)) : wfG (ltM ν q) := by
  have h6 := h.1.1.2
  have h7 := ho.2
  refine wfG_of (ν := ltM ν q) h ?_ (ltM_8 ν q (by omega) (by omega)) (fun p hp => ?_) (fun p hp => ?_)
  · rw [ltM, va_up_ne _ _ (by decide), va_up_ne _ _ (by decide)]
  · rw [ltM_8 ν q (by omega) (by omega)]; exact h.2.2.1 p hp
  · rw [atV, ltM_8 ν q (by omega) (by omega)]; exact h.2.2.2 p hp
theorem gyT_G {ν : wRec} (h : wfG ν) {q : Nat} (hq : q < qM ν) : wfG (gyT ν q) ∧ gyT ν q 8 1 = ν 8 1 := by
  unfold gyT
  split
  · exact ⟨h, rfl⟩
  · rename_i hne
    have ho := (h.2.2.2 q hq).resolve_left hne
    split
    · exact ⟨prF_G h _ (anM_ix h ho.2 (h.2.2.1 q hq)).2, prF_1 _ _ _ _⟩
    · split
      · exact ⟨ltM_G h ho, ltM_8 ν q (by omega) (by omega)⟩
      · exact ⟨h, rfl⟩
theorem gyS_G {μ : wRec} (h : wfG μ) : ∀ q, q ≤ qM μ → wfG (gyS μ q) ∧ gyS μ q 8 1 = μ 8 1
  | 0, _ => ⟨gy0_G h, (gy0_8 μ (by decide)).trans (gwS_8 μ (fun q => by omega) _)⟩
  | q + 1, hq => by
    have h1 := gyS_G h q (by omega)
    have e : qM (gyS μ q) = qM μ := by unfold qM; rw [h1.2]
    have h2 := gyT_G h1.1 (q := q) (by rw [e]; omega)
    exact ⟨h2.1, h2.2.trans h1.2⟩

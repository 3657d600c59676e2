/-! ===== Text, as functions ===== -/
def skL (tx : Nat → Int32) : Nat → Nat → Nat
  | 0, p => p
  | n + 1, p => if tx p = 32 then skL tx n (p + 1) else p
abbrev isDg (x : Int32) : Prop := 48 ≤ x ∧ x ≤ 57
def dgL (tx : Nat → Int32) : Nat → Nat → Int32 → Nat × Int32
  | 0, p, v => (p, v)
  | n + 1, p, v => if isDg (tx p) then dgL tx n (p + 1) (if v ≤ 20 then v * 10 + tx p - 48 else v) else (p, v)
theorem skL_le (tx : Nat → Int32) : ∀ n p, p ≤ skL tx n p ∧ skL tx n p ≤ p + n
  | 0, p => ⟨Nat.le_refl _, Nat.le_refl _⟩
  | n + 1, p => by
    rw [skL]
    split
    · have := skL_le tx n (p + 1)
      omega
    · omega
theorem dgL_le (tx : Nat → Int32) : ∀ n p v, p ≤ (dgL tx n p v).1 ∧ (dgL tx n p v).1 ≤ p + n
  | 0, p, v => ⟨Nat.le_refl _, Nat.le_refl _⟩
  | n + 1, p, v => by
    rw [dgL]
    split
    · have := dgL_le tx n (p + 1) (if v ≤ 20 then v * 10 + tx p - 48 else v)
      omega
    · exact ⟨Nat.le_refl _, Nat.le_add_right p (n + 1)⟩
def lnT (τ : wRec) : Nat := (τ 1 0).toNatClampNeg
def plT (τ : wRec) : Nat := (τ 2 0).toNatClampNeg
def stT (τ : wRec) : Nat := (τ 4 0).toNatClampNeg
def wfT (τ : wRec) : Prop := τ 1 0 = nI (lnT τ) ∧ lnT τ ≤ 200
def wfL (τ : wRec) : Prop := τ 2 0 = nI (plT τ) ∧ plT τ ≤ lnT τ
def wfS (τ : wRec) : Prop := τ 4 0 = nI (stT τ) ∧ stT τ < lnT τ
def mkT (tx : Nat → Int32) (ln pl told st tok val : Int32) : wRec := fun k => match k with
  | 0 => tx
  | 1 => fun _ => ln
  | 2 => fun _ => pl
  | 3 => fun _ => told
  | 4 => fun _ => st
  | 5 => fun _ => tok
  | _ => fun _ => val
def tdD (τ : wRec) : Nat × Int32 := dgL (τ 0) (lnT τ - plT τ) (plT τ) 0
def tdF (τ : wRec) : wRec := mkT (τ 0) (τ 1 0) (nI (tdD τ).1) (τ 3 0) (τ 4 0) (if (τ 0 (stT τ) = 48 ∧ ¬ nI (tdD τ).1 - nI (stT τ) ≤ 1) ∨ ¬ (tdD τ).2 ≤ 20 then -3 else -2) (tdD τ).2
def ntS (τ : wRec) : Nat := skL (τ 0) (lnT τ - plT τ) (plT τ)
def ntD (τ : wRec) : Nat × Int32 := dgL (τ 0) (lnT τ - ntS τ) (ntS τ) 0
def ntP (τ : wRec) : Nat := if lnT τ ≤ ntS τ then ntS τ else if isDg (τ 0 (ntS τ)) then (ntD τ).1 else ntS τ + 1
def ntT (τ : wRec) : Int32 := if lnT τ ≤ ntS τ then -1 else if isDg (τ 0 (ntS τ)) then (if (τ 0 (ntS τ) = 48 ∧ ¬ nI (ntD τ).1 - nI (ntS τ) ≤ 1) ∨ ¬ (ntD τ).2 ≤ 20 then -3 else -2) else if τ 0 (ntS τ) = 119 ∨ τ 0 (ntS τ) = 116 ∨ τ 0 (ntS τ) = 59 then τ 0 (ntS τ) else -3
def ntV (τ : wRec) : Int32 := if lnT τ ≤ ntS τ then τ 6 0 else if isDg (τ 0 (ntS τ)) then (ntD τ).2 else τ 6 0
def ntF (τ : wRec) : wRec := mkT (τ 0) (τ 1 0) (nI (ntP τ)) (τ 3 0) (nI (ntS τ)) (ntT τ) (ntV τ)
theorem ntF_V (τ : wRec) : ntF τ 6 0 = ntV τ := rfl
theorem ntF_5 (τ : wRec) : ntF τ 5 0 = ntT τ := rfl
theorem ntS_le {τ : wRec} (h : wfL τ) : plT τ ≤ ntS τ ∧ ntS τ ≤ lnT τ := by
  have := skL_le (τ 0) (lnT τ - plT τ) (plT τ)
  have h2 := h.2
  unfold ntS
  omega
theorem ntP_le {τ : wRec} (h : wfL τ) : ntS τ ≤ ntP τ ∧ ntP τ ≤ lnT τ := by
  have h1 := ntS_le h
  unfold ntP
  split
  · omega
  · split
    · have := dgL_le (τ 0) (lnT τ - ntS τ) (ntS τ) 0
      unfold ntD
      omega
    · omega
theorem ntF_T {τ : wRec} (h : wfT τ) : wfT (ntF τ) := h
theorem ntF_L {τ : wRec} (h : wfT τ) (h2 : wfL τ) : wfL (ntF τ) := by
  have h3 := ntP_le h2
  have h4 := h.2
  have e : (nI (ntP τ)).toNatClampNeg = ntP τ := nI_cl (by omega)
  show nI (ntP τ) = nI (nI (ntP τ)).toNatClampNeg ∧ (nI (ntP τ)).toNatClampNeg ≤ lnT τ
  rw [e]
  exact ⟨rfl, h3.2⟩
/-- where the digits begin, the scan goes on as the digits tell -/
theorem td_nt {τ : wRec} {p : Nat} (hp : p < lnT τ) (h200 : lnT τ ≤ 200) (hs : ntS τ = p) (hd : isDg (τ 0 p)) : tdF (va_up (va_up τ 2 (fun _ => nI p)) 4 (fun _ => nI p)) = ntF τ := by
  have e : (nI p).toNatClampNeg = p := nI_cl (by omega)
  have hD : tdD (va_up (va_up τ 2 (fun _ => nI p)) 4 (fun _ => nI p)) = ntD τ := by
    show dgL (τ 0) (lnT τ - (nI p).toNatClampNeg) (nI p).toNatClampNeg 0 = dgL (τ 0) (lnT τ - ntS τ) (ntS τ) 0
    rw [e, hs]
  have e4 : stT (va_up (va_up τ 2 (fun _ => nI p)) 4 (fun _ => nI p)) = p := e
  have hnl : ¬ lnT τ ≤ p := by omega
  have h1 : ntP τ = (ntD τ).1 := by rw [ntP, hs, if_neg hnl, if_pos hd]
  have h2 : ntT τ = if (τ 0 p = 48 ∧ ¬ nI (ntD τ).1 - nI p ≤ 1) ∨ ¬ (ntD τ).2 ≤ 20 then -3 else -2 := by rw [ntT, hs, if_neg hnl, if_pos hd]
  have h3 : ntV τ = (ntD τ).2 := by rw [ntV, hs, if_neg hnl, if_pos hd]
  rw [tdF, ntF, h1, h2, h3, hD, e4, hs]
  rfl
abbrev numOK (τ : wRec) (lo hi : Int32) : Prop := ntT τ = -2 ∧ lo ≤ ntV τ ∧ ntV τ ≤ hi
def rtT (τ : wRec) : wRec := if τ 3 0 = 0 then (if numOK τ 1 20 then va_up (ntF τ) 3 (fun _ => 1) else ntF τ) else τ
def rtP (π τ : wRec) : wRec := if τ 3 0 = 0 ∧ numOK τ 1 20 then va_up π 1 (fun _ => ntV τ) else π
def tsK (τ : wRec) : Nat → wRec
  | 0 => τ
  | k + 1 => ntF (tsK τ k)
theorem tsK_T {τ : wRec} (h : wfT τ) : ∀ k, wfT (tsK τ k)
  | 0 => h
  | k + 1 => ntF_T (tsK_T h k)
theorem tsK_L {τ : wRec} (h : wfT τ) (h2 : wfL τ) : ∀ k, wfL (tsK τ k)
  | 0 => h2
  | k + 1 => ntF_L (tsK_T h k) (tsK_L h h2 k)
def wrSet (π : wRec) (n k : Nat) (v : Int32) : wRec := if k = 0 then va_up π 2 (upd (π 2) n v) else if k = 1 then va_up π 3 (upd (π 3) n v) else setN π n (k - 2) v
def wrP (π : wRec) (n : Nat) (τ : wRec) : Nat → wRec
  | 0 => π
  | k + 1 => wrSet (wrP π n τ k) n k (ntV (tsK τ k))
def loK (k : Nat) : Int32 := if k = 0 then 1 else 0
def hiK (k : Nat) : Int32 := if k = 1 then 5 else 9
abbrev okK (τ : wRec) (k : Nat) : Prop := numOK (tsK τ k) (loK k) (hiK k)
def rwK (τ : wRec) : Nat → Nat → Nat
  | 0, k => k
  | f + 1, k => if okK τ k then rwK τ f (k + 1) else k
def rwN (τ : wRec) : Nat := rwK τ 7 0
theorem rwN_2 {τ : wRec} (h0 : okK τ 0) (h1 : okK τ 1) : rwK τ (5 - 0) (0 + 2) = rwN τ := by
  rw [rwN]
  show rwK τ 5 2 = (if okK τ 0 then rwK τ 6 1 else 0)
  rw [if_pos h0]
  show rwK τ 5 2 = (if okK τ 1 then rwK τ 5 2 else 1)
  rw [if_pos h1]
def rwT (π τ : wRec) : wRec := if nW π < 6 then (if rwN τ = 7 then tsK τ 7 else tsK τ (rwN τ + 1)) else τ
def rwP (π τ : wRec) : wRec := if nW π < 6 then (if rwN τ = 7 then va_up (wrP π (nW π) τ 7) 0 (fun _ => nI (nW π + 1)) else wrP π (nW π) τ (rwN τ)) else π
abbrev rwOK (π τ : wRec) : Prop := nW π < 6 ∧ rwN τ = 7
abbrev rtOK (τ : wRec) : Prop := τ 3 0 = 0 ∧ numOK τ 1 20
theorem wrP_near (π : wRec) (n : Nat) (τ : wRec) (i : Nat) : setN (wrP π n τ (i + 2)) n i (ntV (tsK τ (i + 2))) = wrP π n τ (i + 1 + 2) := by
  show _ = wrSet (wrP π n τ (i + 2)) n (i + 2) (ntV (tsK τ (i + 2)))
  unfold wrSet
  rw [if_neg (by omega), if_neg (by omega)]
  rfl
theorem wrSet_pen (π : wRec) (n : Nat) (v : Int32) : wrSet π n 0 v = va_up π 2 (upd (π 2) n v) := if_pos rfl
theorem wrSet_hob (π : wRec) (n : Nat) (v : Int32) : wrSet π n 1 v = va_up π 3 (upd (π 3) n v) := (if_neg (by omega)).trans (if_pos rfl)
theorem wrP_1 (π : wRec) (n : Nat) (τ : wRec) : va_up π 2 (upd (π 2) n (ntV τ)) = wrP π n τ 1 := (wrSet_pen π n (ntV τ)).symm
theorem wrP_2 (π : wRec) (n : Nat) (τ : wRec) : va_up (va_up π 2 (upd (π 2) n (ntV τ))) 3 (upd (π 3) n (ntV (ntF τ))) = wrP π n τ (0 + 2) := by
  have e : wrP π n τ (0 + 2) = wrSet (wrP π n τ 1) n 1 (ntV (tsK τ 1)) := rfl
  rw [e, wrSet_hob, ← wrP_1]
  rfl
theorem tsK_2 (τ : wRec) : ntF (ntF τ) = tsK τ (0 + 2) := rfl
theorem wrSet_0 (π : wRec) (n k : Nat) (v : Int32) : wrSet π n k v 0 = π 0 := by
  unfold wrSet
  split
  · rfl
  · split
    · rfl
    · unfold setN
      rw [if_neg (by omega)]
theorem wrP_0 (π : wRec) (n : Nat) (τ : wRec) : ∀ k, wrP π n τ k 0 = π 0
  | 0 => rfl
  | k + 1 => by rw [wrP, wrSet_0, wrP_0 π n τ k]
/-- an item: what is told of the text, and of the page, behind it (whether it stood there or not) -/
def itT (τ π : wRec) : wRec := if ntT τ = 119 then (if rwOK π (ntF τ) then ntF (rwT π (ntF τ)) else rwT π (ntF τ)) else if ntT τ = 116 then (if rtOK (ntF τ) then ntF (rtT (ntF τ)) else rtT (ntF τ)) else ntF τ
def itP (τ π : wRec) : wRec := if ntT τ = 119 then rwP π (ntF τ) else if ntT τ = 116 then rtP π (ntF τ) else π
abbrev itOK (τ π : wRec) : Prop := (ntT τ = 119 ∧ rwOK π (ntF τ) ∧ ntT (rwT π (ntF τ)) = 59) ∨ (ntT τ = 116 ∧ rtOK (ntF τ) ∧ ntT (rtT (ntF τ)) = 59)
def riA (τ π : wRec) : Nat → wRec × wRec
  | 0 => (τ, π)
  | i + 1 => (itT (riA τ π i).1 (riA τ π i).2, itP (riA τ π i).1 (riA τ π i).2)
def riV (τ π : wRec) : Nat → Nat → Int32
  | 0, i => -10 - (riA τ π i).1 4 0
  | f + 1, i => if ntT (riA τ π i).1 = -1 then nI i else if itOK (riA τ π i).1 (riA τ π i).2 then riV τ π f (i + 1) else -10 - (itT (riA τ π i).1 (riA τ π i).2) 4 0
def riE (τ π : wRec) : Nat → Nat → wRec × wRec
  | 0, i => riA τ π i
  | f + 1, i => if ntT (riA τ π i).1 = -1 then (ntF (riA τ π i).1, (riA τ π i).2) else if itOK (riA τ π i).1 (riA τ π i).2 then riE τ π f (i + 1) else (itT (riA τ π i).1 (riA τ π i).2, itP (riA τ π i).1 (riA τ π i).2)
def ri0 (τ : wRec) : wRec := va_up (va_up τ 2 (fun _ => 0)) 3 (fun _ => 0)
def wfN (π : wRec) : Prop := π 0 0 = nI (nW π) ∧ nW π ≤ 6
theorem rt_T {τ : wRec} (h : wfT τ) : wfT (rtT τ) := by
  unfold rtT
  split
  · split
    · exact h
    · exact h
  · exact h
theorem rt_L {τ : wRec} (h : wfT τ) (h2 : wfL τ) : wfL (rtT τ) := by
  unfold rtT
  split
  · split
    · exact ntF_L h h2
    · exact ntF_L h h2
  · exact h2
theorem rw_T {π τ : wRec} (h : wfT τ) : wfT (rwT π τ) := by
  unfold rwT
  split
  · split
    · exact tsK_T h _
    · exact tsK_T h _
  · exact h
theorem rw_L {π τ : wRec} (h : wfT τ) (h2 : wfL τ) : wfL (rwT π τ) := by
  unfold rwT
  split
  · split
    · exact tsK_L h h2 _
    · exact tsK_L h h2 _
  · exact h2
theorem it_T {τ π : wRec} (h : wfT τ) : wfT (itT τ π) := by
  unfold itT
  split
  · split
    · exact ntF_T (rw_T (ntF_T h))
    · exact rw_T (ntF_T h)
  · split
    · split
      · exact ntF_T (rt_T (ntF_T h))
      · exact rt_T (ntF_T h)
    · exact ntF_T h
theorem it_L {τ π : wRec} (h : wfT τ) (h2 : wfL τ) : wfL (itT τ π) := by
  have h3 := ntF_L h h2
  have h4 := ntF_T h
  unfold itT
  split
  · split
    · exact ntF_L (rw_T h4) (rw_L h4 h3)
    · exact rw_L h4 h3
  · split
    · split
      · exact ntF_L (rt_T h4) (rt_L h4 h3)
      · exact rt_L h4 h3
    · exact h3
theorem wfN_of {π ρ : wRec} (h : wfN π) (e : ρ 0 = π 0) : wfN ρ := by
  unfold wfN nW at *
  rw [e]
  exact h
theorem rw_N {π τ : wRec} (h : wfN π) : wfN (rwP π τ) := by
  unfold rwP
  split
  · rename_i h6
    split
    · have e : (nI (nW π + 1)).toNatClampNeg = nW π + 1 := nI_cl (by omega)
      show nI (nW π + 1) = nI (nI (nW π + 1)).toNatClampNeg ∧ (nI (nW π + 1)).toNatClampNeg ≤ 6
      rw [e]
      exact ⟨rfl, h6⟩
    · exact wfN_of h (wrP_0 π _ τ _)
  · exact h
theorem rt_N {π τ : wRec} (h : wfN π) : wfN (rtP π τ) := by
  unfold rtP
  split
  · exact h
  · exact h
theorem it_N {τ π : wRec} (h : wfN π) : wfN (itP τ π) := by
  unfold itP
  split
  · exact rw_N h
  · split
    · exact rt_N h
    · exact h
theorem riA_wf {τ π : wRec} (h : wfT τ) (h2 : wfL τ) (h3 : wfN π) : ∀ i, wfT (riA τ π i).1 ∧ wfL (riA τ π i).1 ∧ wfN (riA τ π i).2
  | 0 => ⟨h, h2, h3⟩
  | i + 1 => by
    obtain ⟨h4, h5, h6⟩ := riA_wf h h2 h3 i
    exact ⟨it_T h4, it_L h4 h5, it_N h6⟩
def addT (τ : wRec) (x : Int32) : wRec := if lnT τ < 200 then va_up (va_up τ 0 (upd (τ 0) (lnT τ) x)) 1 (fun _ => nI (lnT τ + 1)) else τ
def emptyT (τ : wRec) : wRec := va_up τ 1 (fun _ => 0)

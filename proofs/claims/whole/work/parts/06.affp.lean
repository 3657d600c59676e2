/-! ===== Affairs: what its methods do, as functions of records ===== -/
theorem ix_nI {k n : Nat} (h : k < n) (hn : n ≤ 2147483648) : ixOK (nI k) n := by
  have e : (nI k).toNatClampNeg = k := nI_clamp (by omega)
  exact ⟨by rw [e], by rw [e]; exact h⟩
theorem ix_mono {x : Int32} {n m : Nat} (h : ixOK x n) (hm : n ≤ m) : ixOK x m := ⟨h.1, Nat.lt_of_lt_of_le h.2 hm⟩
theorem nI_cl {k : Nat} (h : k < 1000) : (nI k).toNatClampNeg = k := nI_clamp (by omega)
theorem nI_ne9 {k : Nat} (h : k < 2147483648) : nI k ≠ -9 := by
  intro e
  have h1 := congrArg Int32.toInt e
  rw [nI_toInt (by omega)] at h1
  have h2 : (-9 : Int32).toInt = -9 := by decide
  omega
theorem ix_ne9 {x : Int32} {n : Nat} (h : ixOK x n) (hn : n ≤ 2147483648) : x ≠ -9 := by
  rw [h.1]
  exact nI_ne9 (by have := h.2; omega)
theorem ans_ok (π : wRec) (w : Int32) (s : Nat) (laid : Int32) : ∀ n, n ≤ 6 → (ansL π w s laid n).1 = -9 ∨ ixOK (ansL π w s laid n).1 n
  | 0, _ => Or.inl rfl
  | n + 1, h => by
    rw [ansL]
    split
    · exact Or.inr (ix_nI (by omega) (by omega))
    · rcases ans_ok π w s laid n (by omega) with e | e
      · exact Or.inl e
      · exact Or.inr (ix_mono e (by omega))
theorem answer_ok {π : wRec} (hp : wfP π) (w : Int32) (s : Nat) (laid : Int32) : answererF π w s laid = -9 ∨ ixOK (answererF π w s laid) (nW π) := ans_ok π w s laid (nW π) hp.2.1
theorem on_ok {π : wRec} (hp : wfP π) {w s : Nat} (hw : w < nW π) (hs : s < 5) : ixOK (onF π w s) 5 := by
  unfold onF
  split
  · exact ix_nI hs (by omega)
  · rename_i h
    obtain ⟨h1, h2⟩ := hp.2.2 w hw
    refine ⟨h1, ?_⟩
    have : (π 3 w).toNatClampNeg ≠ 5 := fun e => h (by rw [h1, e]; rfl)
    omega
def nQ (σ : wRec) : Nat := (σ 2 0).toNatClampNeg
def wfQ (σ : wRec) : Prop := σ 2 0 = nI (nQ σ) ∧ nQ σ ≤ 6
def wfA (π σ : wRec) : Prop := wfQ σ ∧ ∀ q, q < nQ σ → ixOK (σ 6 q) 5 ∧ (σ 8 q = -9 ∨ ixOK (σ 8 q) (nW π))
def anewL (σ : wRec) (i : Nat) : wRec := va_up (va_up (va_up (va_up (va_up σ 0 (fun _ => 0)) 1 (fun _ => 0)) 2 (fun _ => 0)) 3 (fun _ => 0)) 4 (fun k => if k < i then 0 else σ 4 k)
theorem anewL_0 (σ : wRec) : va_up (va_up (va_up (va_up σ 0 (fun _ => 0)) 1 (fun _ => 0)) 2 (fun _ => 0)) 3 (fun _ => 0) = anewL σ 0 := by
  funext k j
  by_cases h : k = 4
  · subst h
    show σ 4 j = (if j < 0 then 0 else σ 4 j)
    simp
  · rw [anewL, va_up_ne _ _ h]
theorem anewL_s (σ : wRec) (i : Nat) : va_up (anewL σ i) 4 (upd (anewL σ i 4) i 0) = anewL σ (i + 1) := by
  funext k j
  by_cases h : k = 4
  · subst h
    show upd (fun k => if k < i then 0 else σ 4 k) i 0 j = (if j < i + 1 then 0 else σ 4 j)
    by_cases hj : j = i
    · subst hj
      rw [pk_us, if_pos (by omega)]
    · rw [pk_un hj]
      by_cases h2 : j < i
      · rw [if_pos h2, if_pos (by omega)]
      · rw [if_neg h2, if_neg (by omega)]
  · rw [va_up_ne _ _ h, anewL, anewL, va_up_ne _ _ h, va_up_ne _ _ h]
def obL (r : Nat → Int32) (w : Int32) : Nat → Int32
  | 0 => 0
  | q + 1 => if r q = w then obL r w q ||| ((1 : Int32) <<< (nI q &&& 31)) else obL r w q
def ushF (x k : Int32) : Int32 := (x.toUInt32 >>> (k.toUInt32 &&& Int32.toUInt32 31)).toInt32
def bc1 (x : Int32) : Int32 := x - (ushF x 1 &&& 1431655765)
def bc2 (x : Int32) : Int32 := (x &&& 858993459) + (ushF x 2 &&& 858993459)
def bc3 (x : Int32) : Int32 := (x + ushF x 4) &&& 252645135
def bc4 (x : Int32) : Int32 := x + ushF x 8
def bc5 (x : Int32) : Int32 := x + ushF x 16
def bcF (x : Int32) : Int32 := bc5 (bc4 (bc3 (bc2 (bc1 x)))) &&& 63
def lwL (ow au : Nat → Int32) (w : Int32) : Nat → Int32
  | 0 => 0
  | q + 1 => if ow q = -9 ∧ au q = w then lwL ow au w q + 1 else lwL ow au w q
def chargeW (π σ : wRec) (q : Nat) : Int32 := answererF π (σ 5 q) (σ 6 q).toNatClampNeg (σ 3 0)
def chargeF (π σ : wRec) (q : Nat) : wRec := va_up (va_up σ 8 (upd (σ 8) q (chargeW π σ q))) 9 (upd (σ 9) q (if chargeW π σ q = -9 then 0 else π 2 (chargeW π σ q).toNatClampNeg))
def print0 (σ : wRec) (q : Nat) (w : Int32) (s : Nat) : wRec := va_up (va_up (va_up (va_up (va_up σ 5 (upd (σ 5) q w)) 6 (upd (σ 6) q (nI s))) 7 (upd (σ 7) q (σ 0 0))) 10 (upd (σ 10) q 0)) 1 (fun _ => σ 1 0 + 1)
def printF (π σ : wRec) (q : Nat) (w : Int32) (s : Nat) : wRec := chargeF π (print0 σ q w s) q
def beginF (π σ : wRec) (w : Int32) (s : Nat) : wRec := printF π (va_up σ 2 (fun _ => nI (nQ σ + 1))) (nQ σ) w s
def odL (ow pd : Nat → Int32) (w : Int32) : Nat → Int32
  | 0 => -9
  | q + 1 => if ow q = w ∧ (odL ow pd w q = -9 ∨ pd q < pd (odL ow pd w q).toNatClampNeg) then nI q else odL ow pd w q
theorem od_ok (ow pd : Nat → Int32) (w : Int32) : ∀ n, n ≤ 6 → odL ow pd w n = -9 ∨ ixOK (odL ow pd w n) n
  | 0, _ => Or.inl rfl
  | n + 1, h => by
    rw [odL]
    split
    · exact Or.inr (ix_nI (by omega) (by omega))
    · rcases od_ok ow pd w n (by omega) with e | e
      · exact Or.inl e
      · exact Or.inr (ix_mono e (by omega))
def workQ (τ : wRec) (i : Nat) : Int32 := odL (τ 8) (τ 7) (nI i) (nQ τ)
def workS (τ : wRec) (i : Nat) : wRec := if workQ τ i = -9 then τ else va_up τ 9 (upd (τ 9) (workQ τ i).toNatClampNeg (τ 9 (workQ τ i).toNatClampNeg - 1))
def workA (σ : wRec) : Nat → wRec
  | 0 => σ
  | i + 1 => workS (workA σ i) i
theorem workS_row (τ : wRec) (i k : Nat) (h : k ≠ 9) : workS τ i k = τ k := by
  unfold workS
  split
  · rfl
  · exact va_up_ne _ _ h
theorem workA_row (σ : wRec) : ∀ (i k : Nat), k ≠ 9 → workA σ i k = σ k
  | 0, _, _ => rfl
  | i + 1, k, h => by rw [workA, workS_row _ _ _ h, workA_row σ i k h]
theorem nQ_of {σ τ : wRec} (h : σ 2 = τ 2) : nQ σ = nQ τ := by unfold nQ; rw [h]
theorem wfA_of {π σ τ : wRec} (h : wfA π τ) (h2 : σ 2 = τ 2) (h6 : σ 6 = τ 6) (h8 : σ 8 = τ 8) : wfA π σ := by
  unfold wfA wfQ at *
  rw [nQ_of h2, h2, h6, h8]
  exact h
theorem workA_wf {π σ : wRec} (h : wfA π σ) (i : Nat) : wfA π (workA σ i) := wfA_of h (workA_row σ i 2 (by decide)) (workA_row σ i 6 (by decide)) (workA_row σ i 8 (by decide))
def tickF (τ : wRec) : wRec := va_up τ 0 (fun _ => τ 0 0 + 1)
def onS (π τ : wRec) (q : Nat) : Int32 := onF π (τ 8 q).toNatClampNeg (τ 6 q).toNatClampNeg
def lateF (τ : wRec) (q : Nat) : wRec := va_up (va_up τ 10 (upd (τ 10) q 1)) 4 (upd (τ 4) (τ 8 q).toNatClampNeg (τ 4 (τ 8 q).toNatClampNeg + 1))
def dayT (π τ : wRec) (q : Nat) : wRec := if τ 8 q = -9 then τ else if τ 9 q = 0 then printF π τ q (τ 8 q) (onS π τ q).toNatClampNeg else if τ 0 0 - τ 7 q = π 1 0 then lateF τ q else τ
def dayA (π τ : wRec) : Nat → wRec
  | 0 => τ
  | q + 1 => dayT π (dayA π τ q) q
def dayN (π τ : wRec) : Nat → Int32
  | 0 => 0
  | q + 1 => if dayA π τ q 8 q ≠ -9 ∧ dayA π τ q 9 q = 0 then dayN π τ q + 1 else dayN π τ q
def passF (π σ : wRec) : wRec := dayA π (tickF (workA σ (nW π))) (nQ σ)
def passN (π σ : wRec) : Int32 := dayN π (tickF (workA σ (nW π))) (nQ σ)
theorem dayT_2 (π τ : wRec) (q : Nat) : dayT π τ q 2 = τ 2 := by
  unfold dayT
  split
  · rfl
  · split
    · rfl
    · split <;> rfl
theorem dayA_2 (π τ : wRec) : ∀ q, dayA π τ q 2 = τ 2
  | 0 => rfl
  | q + 1 => by rw [dayA, dayT_2, dayA_2 π τ q]
theorem charge_wf {π σ : wRec} (hp : wfP π) (q : Nat) (h : wfQ σ) (h6 : ∀ j, j < nQ σ → ixOK (σ 6 j) 5) (h8 : ∀ j, j < nQ σ → j ≠ q → (σ 8 j = -9 ∨ ixOK (σ 8 j) (nW π))) : wfA π (chargeF π σ q) := by
  refine ⟨h, fun j hj => ⟨h6 j hj, ?_⟩⟩
  show upd (σ 8) q (chargeW π σ q) j = -9 ∨ ixOK (upd (σ 8) q (chargeW π σ q) j) (nW π)
  by_cases e : j = q
  · subst e
    rw [pk_us]
    exact answer_ok hp _ _ _
  · rw [pk_un e]
    exact h8 j hj e
theorem print_wf {π σ : wRec} (hp : wfP π) (q : Nat) (w : Int32) {s : Nat} (hs : s < 5) (h : wfQ σ) (h6 : ∀ j, j < nQ σ → j ≠ q → ixOK (σ 6 j) 5) (h8 : ∀ j, j < nQ σ → j ≠ q → (σ 8 j = -9 ∨ ixOK (σ 8 j) (nW π))) : wfA π (printF π σ q w s) := by
  refine charge_wf hp q h (fun j hj => ?_) h8
  show ixOK (upd (σ 6) q (nI s) j) 5
  by_cases e : j = q
  · subst e
    rw [pk_us]
    exact ix_nI hs (by omega)
  · rw [pk_un e]
    exact h6 j hj e
theorem begin_wf {π σ : wRec} (hp : wfP π) (h : wfA π σ) (hq : nQ σ < 6) (w : Int32) {s : Nat} (hs : s < 5) : wfA π (beginF π σ w s) := by
  have e : nQ (va_up σ 2 (fun _ => nI (nQ σ + 1))) = nQ σ + 1 := by
    show (nI (nQ σ + 1)).toNatClampNeg = nQ σ + 1
    exact nI_clamp (by omega)
  refine print_wf hp _ w hs ⟨by rw [e]; rfl, by rw [e]; omega⟩ (fun j hj hne => ?_) (fun j hj hne => ?_)
  · exact (h.2 j (by rw [e] at hj; omega)).1
  · exact (h.2 j (by rw [e] at hj; omega)).2
theorem onS_ok {π τ : wRec} (hp : wfP π) (h : wfA π τ) {q : Nat} (hq : q < nQ τ) (hne : τ 8 q ≠ -9) : ixOK (onS π τ q) 5 := by
  obtain ⟨h6, h8⟩ := h.2 q hq
  rcases h8 with e | e
  · exact absurd e hne
  · exact on_ok hp e.2 h6.2
theorem dayT_wf {π τ : wRec} (hp : wfP π) (h : wfA π τ) {q : Nat} (hq : q < nQ τ) : wfA π (dayT π τ q) := by
  unfold dayT
  split
  · exact h
  · rename_i hne
    split
    · exact print_wf hp q _ (onS_ok hp h hq hne).2 h.1 (fun j hj _ => (h.2 j hj).1) (fun j hj _ => (h.2 j hj).2)
    · split
      · exact h
      · exact h
theorem dayA_wf {π τ : wRec} (hp : wfP π) (h : wfA π τ) : ∀ q, q ≤ nQ τ → wfA π (dayA π τ q)
  | 0, _ => h
  | q + 1, hq => dayT_wf hp (dayA_wf hp h q (by omega)) (by rw [nQ_of (dayA_2 π τ q)]; omega)
theorem tick_wf {π τ : wRec} (h : wfA π τ) : wfA π (tickF τ) := h
theorem pass_wf {π σ : wRec} (hp : wfP π) (h : wfA π σ) : wfA π (passF π σ) := by
  have e : nQ (tickF (workA σ (nW π))) = nQ σ := nQ_of (workA_row σ _ 2 (by decide))
  refine dayA_wf hp (tick_wf (workA_wf h _)) _ (by rw [e]; exact Nat.le_refl _)
def layB (σ : wRec) (w : Nat) : Int32 := obL (σ 8) (nI w) (nQ σ)
def layL (π σ : wRec) (w : Nat) : Nat → wRec
  | 0 => va_up σ 3 (fun _ => σ 3 0 ||| ((1 : Int32) <<< (nI w &&& 31)))
  | q + 1 => if (layB σ w >>> (nI q &&& 31)) &&& 1 = 1 then chargeF π (layL π σ w q) q else layL π σ w q
def layF (π σ : wRec) (w : Nat) : wRec := layL π σ w (nQ σ)
theorem layL_2 (π σ : wRec) (w : Nat) : ∀ q, layL π σ w q 2 = σ 2
  | 0 => rfl
  | q + 1 => by
    rw [layL]
    split
    · exact layL_2 π σ w q
    · exact layL_2 π σ w q
theorem layL_wf {π σ : wRec} (hp : wfP π) (h : wfA π σ) (w : Nat) : ∀ q, wfA π (layL π σ w q)
  | 0 => h
  | q + 1 => by
    rw [layL]
    have ih := layL_wf hp h w q
    split
    · exact charge_wf hp q ih.1 (fun j hj => (ih.2 j hj).1) (fun j hj _ => (ih.2 j hj).2)
    · exact ih
def fnL (σ : wRec) (term : Int32) : Nat → Nat → Int32
  | 0, _ => -9
  | n + 1, q => if σ 8 q ≠ -9 ∧ σ 0 0 - σ 7 q = term then nI q else fnL σ term n (q + 1)
def wuL (σ : wRec) (set lp : Int32) : Nat → Int32
  | 0 => 0
  | q + 1 => if (set >>> (nI q &&& 31)) &&& 1 = 1 ∧ σ 7 q ≤ lp then wuL σ set lp q + σ 9 q else wuL σ set lp q
abbrev ckOK (σ : wRec) (set term : Int32) (q : Nat) : Prop := (set >>> (nI q &&& 31)) &&& 1 = 1 → σ 0 0 + wuL σ set (σ 7 q) (nQ σ) ≤ σ 7 q + term

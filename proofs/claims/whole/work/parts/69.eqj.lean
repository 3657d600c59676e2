/-! ===== the text, read: the same ===== -/
def txR (τ μ : wRec) : Prop := τ 0 = μ 0 ∧ τ 1 0 = μ 1 0 ∧ τ 2 0 = μ 2 0
section READ
variable {τ μ : wRec}
theorem tx_ln (h : txR τ μ) : lnT τ = lnM μ := by unfold lnT lnM; rw [h.2.1]
theorem tx_S (h : txR τ μ) : ntS τ = rdS μ := by unfold ntS rdS plT atM; rw [tx_ln h, h.1, h.2.2]
theorem tx_D (h : txR τ μ) : ntD τ = rdD μ := by unfold ntD rdD; rw [tx_S h, tx_ln h, h.1]
theorem tx_P (h : txR τ μ) : ntP τ = rdP μ := by unfold ntP rdP; rw [tx_S h, tx_ln h, tx_D h, h.1]
theorem tx_nt (h : txR τ μ) : txR (ntF τ) (rdF μ) := ⟨h.1, h.2.1, by show nI (ntP τ) = nI (rdP μ); rw [tx_P h]⟩
theorem tx_st (h : txR τ μ) : ntF τ 4 0 = rdF μ 3 0 := by
  show nI (ntS τ) = nI (rdS μ)
  rw [tx_S h]
theorem tk_cases (h : txR τ μ) : (ntT τ = -1 ∧ rdK μ = 0) ∨ (ntT τ = -2 ∧ rdK μ = 2 ∧ ntV τ = rdV μ) ∨ (ntT τ = 119 ∧ rdK μ = 1 ∧ rdV μ = 119) ∨ (ntT τ = 116 ∧ rdK μ = 1 ∧ rdV μ = 116) ∨ (ntT τ = 59 ∧ rdK μ = 3) ∨ (ntT τ = -3 ∧ rdK μ = 4) := by
  unfold ntT rdK ntV rdV
  rw [tx_S h, tx_ln h, tx_D h, h.1]
  by_cases z : lnM μ ≤ rdS μ
  · rw [if_pos z, if_pos z]
    exact Or.inl ⟨rfl, rfl⟩
  · simp only [if_neg z]
    by_cases y : isDg (μ 0 (rdS μ))
    · simp only [if_pos y]
      by_cases x : (μ 0 (rdS μ) = 48 ∧ ¬ nI (rdD μ).1 - nI (rdS μ) ≤ 1) ∨ ¬ (rdD μ).2 ≤ 20
      · rw [if_pos x, if_pos (x.elim (fun k => Or.inr ⟨k.2, k.1⟩) Or.inl)]
        exact Or.inr (Or.inr (Or.inr (Or.inr (Or.inr ⟨rfl, rfl⟩))))
      · rw [if_neg x, if_neg (fun k => x (k.elim Or.inr (fun j => Or.inl ⟨j.2, j.1⟩)))]
        exact Or.inr (Or.inl ⟨rfl, rfl, trivial⟩)
    · simp only [if_neg y]
      by_cases a : μ 0 (rdS μ) = 119
      · rw [a]
        exact Or.inr (Or.inr (Or.inl ⟨by decide, by decide, rfl⟩))
      · by_cases b : μ 0 (rdS μ) = 116
        · rw [b]
          exact Or.inr (Or.inr (Or.inr (Or.inl ⟨by decide, by decide, rfl⟩)))
        · by_cases c : μ 0 (rdS μ) = 59
          · rw [c]
            exact Or.inr (Or.inr (Or.inr (Or.inr (Or.inl ⟨by decide, by decide⟩))))
          · rw [if_neg (fun k => k.elim a (fun k => k.elim b c)), if_neg (fun k => k.elim a b), if_neg c]
            exact Or.inr (Or.inr (Or.inr (Or.inr (Or.inr ⟨rfl, rfl⟩))))
theorem tx_up6 (h : txR τ μ) (r : Nat → Int32) : txR τ (va_up μ 6 r) := by
  unfold txR
  rw [up6 _ _ (by decide), up6 _ _ (by decide), up6 _ _ (by decide)]
  exact h
theorem tx_up3 (h : txR τ μ) (r : Nat → Int32) : txR (va_up τ 3 r) μ := by
  unfold txR
  rw [va_up_ne _ _ (by decide), va_up_ne _ _ (by decide), va_up_ne _ _ (by decide)]
  exact h
theorem nt_3 (τ : wRec) : ntF τ 3 0 = τ 3 0 := rfl
theorem semi_iff (h : txR τ μ) : ntT τ = 59 ↔ rdK μ = 3 := by
  rcases tk_cases h with ⟨a, b⟩ | ⟨a, b, c⟩ | ⟨a, b, c⟩ | ⟨a, b, c⟩ | ⟨a, b⟩ | ⟨a, b⟩ <;> rw [a, b] <;> decide
theorem num_iff (h : txR τ μ) (lo hi : Int32) : (numOK τ lo hi ↔ mnumOK μ lo hi) ∧ (numOK τ lo hi → ntV τ = rdV μ) := by
  unfold numOK mnumOK inB
  rcases tk_cases h with ⟨a, b⟩ | ⟨a, b, c⟩ | ⟨a, b, c⟩ | ⟨a, b, c⟩ | ⟨a, b⟩ | ⟨a, b⟩
  · rw [a, b]
    exact ⟨⟨fun k => absurd k.1 (by decide), fun k => absurd k.1 (by decide)⟩, fun k => absurd k.1 (by decide)⟩
  · rw [a, b, c]
    exact ⟨⟨fun k => ⟨rfl, k.2⟩, fun k => ⟨rfl, k.2⟩⟩, fun _ => rfl⟩
  · rw [a, b]
    exact ⟨⟨fun k => absurd k.1 (by decide), fun k => absurd k.1 (by decide)⟩, fun k => absurd k.1 (by decide)⟩
  · rw [a, b]
    exact ⟨⟨fun k => absurd k.1 (by decide), fun k => absurd k.1 (by decide)⟩, fun k => absurd k.1 (by decide)⟩
  · rw [a, b]
    exact ⟨⟨fun k => absurd k.1 (by decide), fun k => absurd k.1 (by decide)⟩, fun k => absurd k.1 (by decide)⟩
  · rw [a, b]
    exact ⟨⟨fun k => absurd k.1 (by decide), fun k => absurd k.1 (by decide)⟩, fun k => absurd k.1 (by decide)⟩
theorem ts_R (h : txR τ μ) (n : Nat) : ∀ k, txR (tsK τ k) (mwK μ n k)
  | 0 => h
  | k + 1 => tx_nt (ts_R h n k)
theorem rw_eq (h : txR τ μ) (n : Nat) : ∀ f k, rwK τ f k = mwC μ n f k
  | 0, k => rfl
  | f + 1, k => by
    have hc := (num_iff (ts_R h n k) (loK k) (hiK k)).1
    rw [rwK, mwC]
    by_cases z : okK τ k
    · rw [if_pos z, if_pos (hc.mp z), rw_eq h n f (k + 1)]
    · rw [if_neg z, if_neg (fun q => z (hc.mpr q))]
theorem rwK_le (τ : wRec) : ∀ f k, k ≤ rwK τ f k ∧ rwK τ f k ≤ k + f
  | 0, k => ⟨Nat.le_refl _, Nat.le_refl _⟩
  | f + 1, k => by
    rw [rwK]
    split
    · have := rwK_le τ f (k + 1)
      omega
    · exact ⟨Nat.le_refl _, Nat.le_add_right _ _⟩
theorem rwK_all (τ : wRec) : ∀ f k, rwK τ f k = k + f → ∀ j, k ≤ j → j < k + f → okK τ j
  | 0, k, _, j, h1, h2 => by omega
  | f + 1, k, h, j, h1, h2 => by
    rw [rwK] at h
    by_cases z : okK τ k
    · rw [if_pos z] at h
      by_cases e : j = k
      · subst e
        exact z
      · exact rwK_all τ f (k + 1) (by omega) j (by omega) (by omega)
    · rw [if_neg z] at h
      omega
theorem ts_3 (τ : wRec) : ∀ k, tsK τ k 3 0 = τ 3 0
  | 0 => rfl
  | k + 1 => (nt_3 _).trans (ts_3 τ k)
theorem mwK_6 (μ : wRec) (n : Nat) : ∀ k i, mwK μ n k 6 i = if 3 + 7 * n ≤ i ∧ i < 3 + 7 * n + k then rdV (mwK μ n (i - (3 + 7 * n))) else μ 6 i
  | 0, i => by rw [if_neg (by omega)]; rfl
  | k + 1, i => by
    show upd (mwK μ n k 6) (3 + 7 * n + k) (rdV (mwK μ n k)) i = _
    by_cases e : i = 3 + 7 * n + k
    · rw [e, pk_us, if_pos (by omega), show 3 + 7 * n + k - (3 + 7 * n) = k by omega]
    · rw [pk_un e, mwK_6 μ n k i]
      by_cases z : 3 + 7 * n ≤ i ∧ i < 3 + 7 * n + k
      · rw [if_pos z, if_pos (by omega)]
      · rw [if_neg z, if_neg (by omega)]
def wr5 (π : wRec) (n : Nat) (v : Nat → Int32) : wRec := setN (setN (setN (setN (setN π n 0 (v 2)) n 1 (v 3)) n 2 (v 4)) n 3 (v 5)) n 4 (v 6)
theorem wr5_row (π : wRec) (n : Nat) (v : Nat → Int32) {k : Nat} (h : k < 5) : wr5 π n v k = π k := by
  unfold wr5
  rw [setN_row h, setN_row h, setN_row h, setN_row h, setN_row h]
theorem setN_at (π : wRec) (n s : Nat) (v : Int32) (w r : Nat) : setN π n s v (5 + w) r = if w = n ∧ r = s then v else π (5 + w) r := by
  unfold setN
  by_cases e : w = n
  · subst e
    rw [if_pos rfl]
    by_cases e2 : r = s
    · subst e2
      rw [pk_us, if_pos ⟨rfl, rfl⟩]
    · rw [pk_un e2, if_neg (fun k => e2 k.2)]
  · rw [if_neg (by omega), if_neg (fun k => e k.1)]
theorem wr5_at (π : wRec) (n : Nat) (v : Nat → Int32) (w : Nat) {s : Nat} (hs : s < 5) : wr5 π n v (5 + w) s = if w = n then v (s + 2) else π (5 + w) s := by
  unfold wr5
  simp only [setN_at]
  by_cases e : w = n
  · subst e
    rcases (show s = 0 ∨ s = 1 ∨ s = 2 ∨ s = 3 ∨ s = 4 by omega) with rfl | rfl | rfl | rfl | rfl <;> simp
  · simp [e]
theorem wrP_7 (π : wRec) (n : Nat) (τ : wRec) : wrP π n τ 7 = wr5 (va_up (va_up π 2 (upd (π 2) n (ntV (tsK τ 0)))) 3 (upd (π 3) n (ntV (tsK τ 1)))) n (fun k => ntV (tsK τ k)) := rfl
end READ
theorem rg_pen {v : Int32} (h : 1 ≤ v ∧ v ≤ 9) : ∃ p, 1 ≤ p ∧ p ≤ 9 ∧ v = nI p := by
  obtain ⟨e, h2⟩ := ix_of (x := v) (y := 10) (n := 10) rfl (by omega) ⟨Int32.le_trans (by decide) h.1, Int32.lt_of_le_of_lt h.2 (by decide)⟩
  refine ⟨v.toNatClampNeg, ?_, by omega, e⟩
  have h1 := h.1
  rw [e] at h1
  exact (nI_leI (a := 1) (b := v.toNatClampNeg) (by omega) (by omega)).mp h1
theorem rg_term {v : Int32} (h : 1 ≤ v ∧ v ≤ 20) : ∃ p, 1 ≤ p ∧ p ≤ 20 ∧ v = nI p := by
  obtain ⟨e, h2⟩ := ix_of (x := v) (y := 21) (n := 21) rfl (by omega) ⟨Int32.le_trans (by decide) h.1, Int32.lt_of_le_of_lt h.2 (by decide)⟩
  refine ⟨v.toNatClampNeg, ?_, by omega, e⟩
  have h1 := h.1
  rw [e] at h1
  exact (nI_leI (a := 1) (b := v.toNatClampNeg) (by omega) (by omega)).mp h1
/-- what is read so far -/
def rdR (τ ζ ν : wRec) : Prop := txR τ ν ∧ (τ 3 0 = ν 6 2 ∧ (τ 3 0 = 0 ∨ τ 3 0 = 1)) ∧ pgR ζ (ν 6)
theorem w_page {τ ζ μ : wRec} (h : txR τ μ) (hp : pgR ζ (μ 6)) (h6 : nW ζ < 6) (hk : ∀ j, j < 7 → okK τ j) : pgR (va_up (wrP ζ (nW ζ) τ 7) 0 (fun _ => nI (nW ζ + 1))) (upd (mwK μ (nW ζ) 7 6) 0 (nI (nW ζ + 1))) := by
  generalize hn : nW ζ = n at *
  have ev : ∀ j, j < 7 → ntV (tsK τ j) = rdV (mwK μ n j) := fun j hj => (num_iff (ts_R h n j) _ _).2 (hk j hj)
  have e0 : nW (va_up (wrP ζ n τ 7) 0 (fun _ => nI (n + 1))) = n + 1 := by
    show (nI (n + 1)).toNatClampNeg = n + 1
    exact nI_cl (by omega)
  have r2 : ∀ w, va_up (wrP ζ n τ 7) 0 (fun _ => nI (n + 1)) 2 w = if w = n then ntV (tsK τ 0) else ζ 2 w := fun w => by
    rw [va_up_ne _ _ (by omega), wrP_7, wr5_row _ _ _ (by omega), va_up_ne _ _ (by omega), va_up_self]
    rfl
  have r3 : ∀ w, va_up (wrP ζ n τ 7) 0 (fun _ => nI (n + 1)) 3 w = if w = n then ntV (tsK τ 1) else ζ 3 w := fun w => by
    rw [va_up_ne _ _ (by omega), wrP_7, wr5_row _ _ _ (by omega), va_up_self]
    rfl
  have r1 : va_up (wrP ζ n τ 7) 0 (fun _ => nI (n + 1)) 1 0 = ζ 1 0 := by
    rw [va_up_ne _ _ (by omega), wrP_7, wr5_row _ _ _ (by omega), va_up_ne _ _ (by omega), va_up_ne _ _ (by omega)]
  have r5 : ∀ w s, s < 5 → va_up (wrP ζ n τ 7) 0 (fun _ => nI (n + 1)) (5 + w) s = if w = n then ntV (tsK τ (s + 2)) else ζ (5 + w) s := fun w s hs => by
    rw [va_up_ne _ _ (by omega), wrP_7, wr5_at _ _ _ _ hs, va_up_ne _ _ (by omega), va_up_ne _ _ (by omega)]
  have f1 : ∀ i, i ≠ 0 → upd (mwK μ n 7 6) 0 (nI (n + 1)) i = if 3 + 7 * n ≤ i ∧ i < 3 + 7 * n + 7 then rdV (mwK μ n (i - (3 + 7 * n))) else μ 6 i := fun i hi => by
    rw [pk_un hi, mwK_6]
  have k0 : 1 ≤ ntV (tsK τ 0) ∧ ntV (tsK τ 0) ≤ 9 := (hk 0 (by omega)).2
  have k1 : 0 ≤ ntV (tsK τ 1) ∧ ntV (tsK τ 1) ≤ 5 := (hk 1 (by omega)).2
  refine ⟨⟨rfl, ?_⟩, ⟨by rw [e0]; rfl, by rw [e0]; omega, fun w hw => ?_⟩, by rw [r1]; exact hp.2.2.1, fun w hw => ?_⟩
  · rw [r1, f1 1 (by omega), if_neg (by omega)]
    exact hp.1.2
  · rw [e0] at hw
    rw [r3]
    by_cases e : w = n
    · rw [if_pos e]
      exact in_ix (y := 6) (n := 6) rfl (by omega) k1
    · rw [if_neg e]
      exact hp.2.1.2.2 w (by omega)
  · rw [e0] at hw
    rw [r2, r3]
    by_cases e : w = n
    · subst e
      rw [if_pos rfl, if_pos rfl]
      refine ⟨⟨?_, ?_⟩, rg_pen k0, fun s hs => ?_⟩
      · rw [f1 _ (by omega), if_pos (by omega), Nat.sub_self]
        exact ev 0 (by omega)
      · rw [f1 _ (by omega), if_pos (by omega), show 3 + 7 * w + 1 - (3 + 7 * w) = 1 by omega]
        exact ev 1 (by omega)
      · rw [r5 w s hs, if_pos rfl, f1 _ (by omega), if_pos (by omega), show 3 + 7 * w + 2 + s - (3 + 7 * w) = s + 2 by omega]
        exact ev (s + 2) (by omega)
    · rw [if_neg e, if_neg e]
      have g := hp.2.2.2 w (by omega)
      refine ⟨⟨?_, ?_⟩, g.2.1, fun s hs => ?_⟩
      · rw [f1 _ (by omega), if_neg (by omega)]
        exact g.1.1
      · rw [f1 _ (by omega), if_neg (by omega)]
        exact g.1.2
      · rw [r5 w s hs, if_neg e, f1 _ (by omega), if_neg (by omega)]
        exact g.2.2 s hs
theorem t_page {ζ : wRec} {f : Nat → Int32} (hp : pgR ζ f) {v : Int32} (hv : 1 ≤ v ∧ v ≤ 20) : pgR (va_up ζ 1 (fun _ => v)) (upd (upd f 1 v) 2 1) := by
  refine ⟨⟨?_, ?_⟩, hp.2.1, rg_term hv, fun w hw => ?_⟩
  · rw [pk_un (by omega), pk_un (by omega)]
    exact hp.1.1
  · rw [pk_un (by omega), pk_us]
    rfl
  · have g := hp.2.2.2 w hw
    refine ⟨⟨?_, ?_⟩, g.2.1, fun s hs => ?_⟩
    · rw [pk_un (by omega), pk_un (by omega)]
      exact g.1.1
    · rw [pk_un (by omega), pk_un (by omega)]
      exact g.1.2
    · rw [pk_un (by omega), pk_un (by omega), va_up_ne _ _ (by omega)]
      exact g.2.2 s hs
theorem item_eq {τ ζ ν : wRec} (h : rdR τ ζ ν) : (ntT τ = -1 ↔ rdF ν 4 0 = 0) ∧ (ntT τ ≠ -1 → (itOK τ ζ ↔ miOK (rdF ν)) ∧ (itOK τ ζ → rdR (itT τ ζ) (itP τ ζ) (miF (rdF ν))) ∧ (¬ itOK τ ζ → itT τ ζ 4 0 = miF (rdF ν) 3 0)) := by
  obtain ⟨hx, ⟨ht, ht2⟩, hp⟩ := h
  have hx' := tx_nt hx
  have hst := tx_st hx
  have en : rN (rdF ν) = nW ζ := by
    show (ν 6 0).toNatClampNeg = (ζ 0 0).toNatClampNeg
    rw [hp.1.1]
  have h6 := hp.2.1.2.1
  have oth : ∀ T K, ntT τ = T → rdK ν = K → T ≠ 119 → T ≠ 116 → K ≠ 1 → ((itOK τ ζ ↔ miOK (rdF ν)) ∧ (itOK τ ζ → rdR (itT τ ζ) (itP τ ζ) (miF (rdF ν))) ∧ (¬ itOK τ ζ → itT τ ζ 4 0 = miF (rdF ν) 3 0)) := fun T K a b h1 h2 h3 => by
    have n1 : ¬ itOK τ ζ := fun k => k.elim (fun k => h1 (a.symm.trans k.1)) (fun k => h2 (a.symm.trans k.1))
    have n2 : ¬ miOK (rdF ν) := fun k => h3 (b.symm.trans k.1)
    refine ⟨⟨fun k => absurd k n1, fun k => absurd k n2⟩, fun k => absurd k n1, fun _ => ?_⟩
    rw [itT, if_neg (fun k => h1 (a.symm.trans k)), if_neg (fun k => h2 (a.symm.trans k)), miF, if_neg (show ¬ rdF ν 4 0 = 1 from fun k => h3 (b.symm.trans k))]
    exact hst
  rcases tk_cases hx with ⟨a, b⟩ | ⟨a, b, c⟩ | ⟨a, b, c⟩ | ⟨a, b, c⟩ | ⟨a, b⟩ | ⟨a, b⟩
  · exact ⟨⟨fun _ => b, fun _ => a⟩, fun k => absurd a k⟩
  · exact ⟨⟨fun k => absurd (a.symm.trans k) (by decide), fun k => absurd (b.symm.trans k) (by decide)⟩, fun _ => oth _ _ a b (by decide) (by decide) (by decide)⟩
  · refine ⟨⟨fun k => absurd (a.symm.trans k) (by decide), fun k => absurd (b.symm.trans k) (by decide)⟩, fun _ => ?_⟩
    have b' : rdF ν 4 0 = 1 := b
    have c' : ¬ rdF ν 5 0 = 116 := fun k => absurd (c.symm.trans k) (by decide)
    have na : ¬ ntT τ = 116 := fun k => absurd (a.symm.trans k) (by decide)
    have iO : itOK τ ζ ↔ rwOK ζ (ntF τ) ∧ ntT (rwT ζ (ntF τ)) = 59 := ⟨fun k => k.elim (fun k => k.2) (fun k => absurd k.1 na), fun k => Or.inl ⟨a, k⟩⟩
    have mO : miOK (rdF ν) ↔ mwOK (rdF ν) ∧ rdK (mwD (rdF ν)) = 3 := ⟨fun k => k.2.elim (fun k => absurd k.1 c') (fun k => k.2), fun k => ⟨b', Or.inr ⟨c', k⟩⟩⟩
    rw [iO, mO, itT, if_pos a, itP, if_pos a, miF, if_pos b', if_neg c']
    by_cases z : nW ζ < 6
    · have eN : rwN (ntF τ) = mwN (rdF ν) := by rw [rwN, mwN, en]; exact rw_eq hx' (nW ζ) 7 0
      rw [if_neg (show ¬ rN (rdF ν) = 6 by omega)]
      by_cases y : rwN (ntF τ) = 7
      · have hT : rwT ζ (ntF τ) = tsK (ntF τ) 7 := by rw [rwT, if_pos z, if_pos y]
        have hD : txR (tsK (ntF τ) 7) (mwD (rdF ν)) := by
          rw [mwD]
          exact tx_up6 (ts_R hx' _ 7) _
        have hs := semi_iff hD
        rw [if_pos ⟨z, y⟩, if_pos (eN.symm.trans y), hT]
        refine ⟨⟨fun k => ⟨⟨by omega, eN.symm.trans y⟩, hs.mp k.2⟩, fun k => ⟨⟨z, y⟩, hs.mpr k.2⟩⟩, fun k => ⟨tx_nt hD, ?_, ?_⟩, fun _ => tx_st hD⟩
        · have e1 : ntF (tsK (ntF τ) 7) 3 0 = τ 3 0 := (nt_3 _).trans ((ts_3 _ 7).trans (nt_3 τ))
          have e2 : rdF (mwD (rdF ν)) 6 2 = ν 6 2 := by
            rw [rdF_6, mwD_6, pk_un (by decide)]
            exact mwK_2 _ 7 (by omega)
          rw [e1, e2]
          exact ⟨ht, ht2⟩
        · rw [rwP, if_pos z, if_pos y, rdF_6, mwD_6, en]
          exact w_page (μ := rdF ν) hx' hp z (fun j hj => rwK_all _ 7 0 y j (by omega) (by omega))
      · rw [if_neg (fun k => y k.2), if_neg (fun k => y (eN.trans k))]
        refine ⟨⟨fun k => absurd k.1.2 y, fun k => absurd (eN.trans k.1.2) y⟩, fun k => absurd k.1.2 y, fun _ => ?_⟩
        rw [rwT, if_pos z, if_neg y, ← eN]
        exact tx_st (ts_R hx' _ _)
    · have e6 : rN (rdF ν) = 6 := by omega
      rw [if_pos e6, if_neg (fun k => z k.1), rwT, if_neg z]
      exact ⟨⟨fun k => absurd k.1.1 z, fun k => absurd e6 k.1.1⟩, fun k => absurd k.1.1 z, fun _ => hst⟩
  · refine ⟨⟨fun k => absurd (a.symm.trans k) (by decide), fun k => absurd (b.symm.trans k) (by decide)⟩, fun _ => ?_⟩
    have b' : rdF ν 4 0 = 1 := b
    have c' : rdF ν 5 0 = 116 := c
    have na : ¬ ntT τ = 119 := fun k => absurd (a.symm.trans k) (by decide)
    have iO : itOK τ ζ ↔ rtOK (ntF τ) ∧ ntT (rtT (ntF τ)) = 59 := ⟨fun k => k.elim (fun k => absurd k.1 na) (fun k => k.2), fun k => Or.inr ⟨a, k⟩⟩
    have mO : miOK (rdF ν) ↔ mtOK (rdF ν) ∧ rdK (mtS (rdF ν)) = 3 := ⟨fun k => k.2.elim (fun k => k.2) (fun k => absurd c' k.1), fun k => ⟨b', Or.inl ⟨c', k⟩⟩⟩
    have e3 : ntF τ 3 0 = τ 3 0 := rfl
    have e62 : rdF ν 6 2 = ν 6 2 := rfl
    rw [iO, mO, itT, if_neg na, if_pos a, itP, if_neg na, if_pos a, miF, if_pos b', if_pos c']
    rcases ht2 with t0 | t1
    · have m0 : ¬ rdF ν 6 2 = 1 := by rw [e62, ← ht, t0]; decide
      rw [if_neg m0]
      have hn := num_iff hx' 1 20
      by_cases y : numOK (ntF τ) 1 20
      · have hT : rtT (ntF τ) = va_up (ntF (ntF τ)) 3 (fun _ => 1) := by rw [rtT, if_pos (e3.trans t0), if_pos y]
        have hD : txR (va_up (ntF (ntF τ)) 3 (fun _ => 1)) (mtS (rdF ν)) := by
          rw [mtS]
          exact tx_up6 (tx_up3 (tx_nt hx') _) _
        have hs := semi_iff hD
        have rk : rtOK (ntF τ) := ⟨e3.trans t0, y⟩
        rw [if_pos rk, if_pos (hn.1.mp y), hT]
        refine ⟨⟨fun k => ⟨⟨m0, hn.1.mp y⟩, hs.mp k.2⟩, fun k => ⟨rk, hs.mpr k.2⟩⟩, fun k => ⟨tx_nt hD, ?_, ?_⟩, fun _ => tx_st hD⟩
        · have e2 : rdF (mtS (rdF ν)) 6 2 = 1 := by rw [rdF_6, mtS_6, pk_us]
          rw [e2]
          exact ⟨rfl, Or.inr rfl⟩
        · rw [rtP, if_pos rk, rdF_6, mtS_6, ← hn.2 y]
          exact t_page (f := ν 6) hp y.2
      · have rk : ¬ rtOK (ntF τ) := fun k => y k.2
        rw [if_neg rk, if_neg (fun k => y (hn.1.mpr k))]
        refine ⟨⟨fun k => absurd k.1 rk, fun k => absurd (hn.1.mpr k.1.2) y⟩, fun k => absurd k.1 rk, fun _ => ?_⟩
        rw [rtT, if_pos (e3.trans t0), if_neg y]
        exact tx_st hx'
    · have m1 : rdF ν 6 2 = 1 := by rw [e62, ← ht, t1]
      have rk : ¬ rtOK (ntF τ) := fun k => absurd (k.1.symm.trans (e3.trans t1)) (by decide)
      rw [if_pos m1, if_neg rk, rtT, if_neg (fun k => absurd (k.symm.trans (e3.trans t1)) (by decide))]
      exact ⟨⟨fun k => absurd k.1 rk, fun k => absurd m1 k.1.1⟩, fun k => absurd k.1 rk, fun _ => hst⟩
  · exact ⟨⟨fun k => absurd (a.symm.trans k) (by decide), fun k => absurd (b.symm.trans k) (by decide)⟩, fun _ => oth _ _ a b (by decide) (by decide) (by decide)⟩
  · exact ⟨⟨fun k => absurd (a.symm.trans k) (by decide), fun k => absurd (b.symm.trans k) (by decide)⟩, fun _ => oth _ _ a b (by decide) (by decide) (by decide)⟩

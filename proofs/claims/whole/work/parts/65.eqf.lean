/-! ===== peace: the same ===== -/
def fN (n l : Nat) : Nat := (2 ^ n - 1) - ((2 ^ n - 1) &&& l)
theorem free_N : ∀ n, n < 7 → ∀ l, l < 64 → (((1 : Int32) <<< (nI n &&& 31)) - 1) &&& (nI l ^^^ (-1)) = nI (fN n l) := by decide +kernel
theorem sub_N : ∀ s, s < 64 → ∀ f, f < 64 → (nI s &&& (nI f ^^^ (-1)) = 0 ↔ s &&& f = s) := by decide +kernel
theorem fN_lt : ∀ n, n < 7 → ∀ l, l < 64 → fN n l < 64 := by decide +kernel
theorem fN_sub : ∀ n, n < 7 → ∀ l, l < 64 → ∀ s, s < 64 → (s &&& fN n l = s ↔ s < 2 ^ n ∧ s &&& l = 0) := by decide +kernel
theorem and_N : ∀ s, s < 64 → ∀ l, l < 64 → (nI s &&& nI l = 0 ↔ s &&& l = 0) := by decide +kernel
theorem free_sub {π σ : wRec} (hp : wfP π) {l s : Nat} (hl : l < 64) (el : σ 3 0 = nI l) (hs : s < 64) : nI s &&& (freeB π σ ^^^ (-1)) = 0 ↔ s < 2 ^ nW π ∧ nI s &&& σ 3 0 = 0 := by
  have h6 := hp.2.1
  rw [freeB, hp.1, el, free_N (nW π) (by omega) l hl, sub_N s hs _ (fN_lt _ (by omega) l hl), fN_sub _ (by omega) l hl s hs, and_N s hs l hl]
theorem pcI_sp (π σ : wRec) (q : Nat) (fr : Int32) (m : Nat) : ∀ f s, (pcI π σ q fr m f s = none ∧ ∀ j, s ≤ j → j < s + f → ¬ pcB π σ q fr m j) ∨ ∃ j, s ≤ j ∧ j < s + f ∧ pcI π σ q fr m f s = some j ∧ pcB π σ q fr m j ∧ ∀ i, s ≤ i → i < j → ¬ pcB π σ q fr m i
  | 0, s => Or.inl ⟨rfl, fun j h1 h2 => by omega⟩
  | f + 1, s => by
    rw [pcI]
    by_cases z : pcB π σ q fr m s
    · rw [if_pos z]
      exact Or.inr ⟨s, Nat.le_refl _, by omega, rfl, z, fun i h1 h2 => by omega⟩
    · rw [if_neg z]
      rcases pcI_sp π σ q fr m f (s + 1) with ⟨h1, h2⟩ | ⟨j, h1, h2, h3, h4, h5⟩
      · refine Or.inl ⟨h1, fun k hk hk2 => ?_⟩
        by_cases e : k = s
        · subst e
          exact z
        · exact h2 k (by omega) (by omega)
      · refine Or.inr ⟨j, by omega, by omega, h3, h4, fun k hk hk2 => ?_⟩
        by_cases e : k = s
        · subst e
          exact z
        · exact h5 k (by omega) hk2
theorem pcO_sp (π σ : wRec) (q : Nat) (fr : Int32) : ∀ f m, (pcO π σ q fr f m = -9 ∧ ∀ m', m ≤ m' → m' < m + f → ∀ j, j < 64 → ¬ pcB π σ q fr m' j) ∨ ∃ j m', j < 64 ∧ m ≤ m' ∧ m' < m + f ∧ pcO π σ q fr f m = nI j ∧ pcB π σ q fr m' j ∧ (∀ i, i < j → ¬ pcB π σ q fr m' i) ∧ ∀ m'', m ≤ m'' → m'' < m' → ∀ i, i < 64 → ¬ pcB π σ q fr m'' i
  | 0, m => Or.inl ⟨rfl, fun m' h1 h2 => by omega⟩
  | f + 1, m => by
    rw [pcO]
    rcases pcI_sp π σ q fr m 64 0 with ⟨h1, h2⟩ | ⟨j, h1, h2, h3, h4, h5⟩
    · rw [h1]
      show (pcO π σ q fr f (m + 1) = -9 ∧ _) ∨ _
      rcases pcO_sp π σ q fr f (m + 1) with ⟨g1, g2⟩ | ⟨j, m', g1, g2, g3, g4, g5, g6, g7⟩
      · refine Or.inl ⟨g1, fun m' hm hm2 j hj => ?_⟩
        by_cases e : m' = m
        · subst e
          exact h2 j (by omega) (by omega)
        · exact g2 m' (by omega) (by omega) j hj
      · refine Or.inr ⟨j, m', g1, by omega, by omega, g4, g5, g6, fun m'' hm hm2 i hi => ?_⟩
        by_cases e : m'' = m
        · subst e
          exact h2 i (by omega) (by omega)
        · exact g7 m'' (by omega) hm2 i hi
    · rw [h3]
      exact Or.inr ⟨j, m, by omega, Nat.le_refl _, by omega, rfl, h4, fun i hi => h5 i (by omega) hi, fun m'' h1 h2 => by omega⟩
theorem pcM_8 (μ : wRec) (q : Nat) {k : Nat} (hk : k < 46) : ∀ s, (pcM (asF μ) q s).1 8 k = μ 8 k
  | 0 => by
    show asF μ 8 k = μ 8 k
    rw [asF, va_up_ne _ _ (by decide)]
  | s + 1 => by
    rw [pcM]
    split
    · show bkF (clF (pcD (pcM (asF μ) q s).1 q s) q) 8 k = μ 8 k
      rw [bkF, va_up_self, if_pos hk, clF_of _ _ (by decide) (by decide), pcD, ldI_of _ _ (by decide), pcM_of (asF μ) q (by decide) (by decide), asF_12 μ hk]
    · exact pcM_8 μ q hk s
theorem pcM_R {π σ μ : wRec} (hp : pgR π (μ 7)) (h : afR σ (μ 8)) (h6 : nQ σ ≤ 6) (q s : Nat) : pgR π ((pcM (asF μ) q s).1 7) ∧ afR σ ((pcM (asF μ) q s).1 8) ∧ (pcM (asF μ) q s).1 12 2 = σ 3 0 := by
  refine ⟨?_, af_ext h h6 (fun k hk => (pcM_8 μ q hk s).symm), ?_⟩
  · rw [pcM_of (asF μ) q (by decide) (by decide), asF, va_up_ne _ _ (by decide)]
    exact hp
  · rw [pcM_of (asF μ) q (by decide) (by decide), asF_12 μ (by omega), h.1.2.2.1]
abbrev pcP (π σ : wRec) (q s : Nat) : Prop := nI s &&& σ 3 0 = 0 ∧ ewB π σ q (nI s)
theorem pcM_sp {π σ μ : wRec} {d : Nat} (hp : pgR π (μ 7)) (h : afR σ (μ 8)) (hw : afW π σ d) {q : Nat} (hq : q < nQ σ) : ∀ s, s ≤ 64 → ((pcM (asF μ) q s).2 = -9 ∧ ∀ j, j < s → ¬ pcP π σ q j) ∨ ∃ y, y < s ∧ (pcM (asF μ) q s).2 = nI y ∧ pcP π σ q y ∧ ∀ j, j < s → pcP π σ q j → pcT y < pcT j ∨ (pcT y = pcT j ∧ y ≤ j)
  | 0, _ => Or.inl ⟨rfl, fun j hj => absurd hj (Nat.not_lt_zero j)⟩
  | s + 1, hs => by
    have ih := pcM_sp hp h hw hq s (by omega)
    obtain ⟨r1, r2, r3⟩ := pcM_R hp h hw.1.2 q s
    have eE : clV (pcD (pcM (asF μ) q s).1 q s) q = dtcV π (layI π σ (nI s) (nW π)) q := by
      have l1 := lI_R r1 r2 (afW_A hp.2.1 hw) (nI s) (nW π)
      rw [pcD, pg_n r1]
      exact (ends_eq (pg_of r1 (ldI_of _ _ (by decide) _)) l1 (lI_W (pg_W hp) hw (nI s) (nW π) (Nat.le_refl _)) (by rw [nQ_of (layI_2 π σ _ _)]; exact hq)).symm
    have hno : ¬ pcP π σ q s → (pcM (asF μ) q (s + 1)).2 = (pcM (asF μ) q s).2 → (((pcM (asF μ) q (s + 1)).2 = -9 ∧ ∀ j, j < s + 1 → ¬ pcP π σ q j) ∨ ∃ y, y < s + 1 ∧ (pcM (asF μ) q (s + 1)).2 = nI y ∧ pcP π σ q y ∧ ∀ j, j < s + 1 → pcP π σ q j → pcT y < pcT j ∨ (pcT y = pcT j ∧ y ≤ j)) := fun hn e => by
      rw [e]
      rcases ih with ⟨i1, i2⟩ | ⟨y, y1, y2, y3, y4⟩
      · refine Or.inl ⟨i1, fun j hj => ?_⟩
        by_cases ej : j = s
        · subst ej
          exact hn
        · exact i2 j (by omega)
      · refine Or.inr ⟨y, by omega, y2, y3, fun j hj hPj => ?_⟩
        by_cases ej : j = s
        · subst ej
          exact absurd hPj hn
        · exact y4 j (by omega) hPj
    by_cases hc : pcC (pcM (asF μ) q s).1 (pcM (asF μ) q s).2 s
    · by_cases hE : clV (pcD (pcM (asF μ) q s).1 q s) q = -9
      · refine hno (fun hP => hP.2 (by rw [← eE]; exact hE)) ?_
        rw [pcM, if_pos hc]
        show (if _ then (pcM (asF μ) q s).2 else nI s) = _
        rw [if_pos hE]
      · have hP : pcP π σ q s := ⟨by rw [← r3]; exact hc.1, fun e => hE (eE.trans e)⟩
        have e : (pcM (asF μ) q (s + 1)).2 = nI s := by
          rw [pcM, if_pos hc]
          show (if _ then (pcM (asF μ) q s).2 else nI s) = _
          rw [if_neg hE]
        refine Or.inr ⟨s, by omega, e, hP, fun j hj hPj => ?_⟩
        by_cases ej : j = s
        · subst ej
          exact Or.inr ⟨rfl, Nat.le_refl _⟩
        · rcases ih with ⟨i1, i2⟩ | ⟨y, y1, y2, y3, y4⟩
          · exact absurd hPj (i2 j (by omega))
          · have h1 := y4 j (by omega) hPj
            have h2 := hc.2.resolve_left (by rw [y2]; exact nI_ne9 (by omega))
            rw [y2, nI_cl (by omega)] at h2
            omega
    · have e : pcM (asF μ) q (s + 1) = pcM (asF μ) q s := by rw [pcM, if_neg hc]
      by_cases hP : pcP π σ q s
      · rw [e]
        rcases ih with ⟨i1, i2⟩ | ⟨y, y1, y2, y3, y4⟩
        · exact absurd ⟨by rw [r3]; exact hP.1, Or.inl i1⟩ hc
        · refine Or.inr ⟨y, by omega, y2, y3, fun j hj hPj => ?_⟩
          by_cases ej : j = s
          · subst ej
            have h2 : ¬ pcT j < pcT y := fun k => hc ⟨by rw [r3]; exact hP.1, Or.inr (by rw [y2, nI_cl (by omega)]; exact k)⟩
            omega
          · exact y4 j (by omega) hPj
      · exact hno hP (by rw [e])
theorem peace_eq {π σ μ : wRec} {d : Nat} (hp : pgR π (μ 7)) (h : afR σ (μ 8)) (hw : afW π σ d) {q : Nat} (hq : q < nQ σ) : pcO π σ q (freeB π σ) 7 0 = (mpcE μ q).2 := by
  obtain ⟨l, hl, el⟩ := hw.2.2.1
  have h64 := p64 hp.2.1 hl
  have hn6 := hp.2.1.2.1
  have p6 : 2 ^ nW π ≤ 64 := Nat.pow_le_pow_right (by omega) hn6
  have hB : ∀ m j, j < 64 → m ≤ 6 → (pcB π σ q (freeB π σ) m j ↔ j < 2 ^ nW π ∧ pcT j = m ∧ pcP π σ q j) := fun m j hj hm => by
    unfold pcB pcP
    rw [free_sub hp.2.1 h64 el hj, bc_nI j hj, nI_eq (by have := pcT_le j hj; omega) (by omega)]
    exact ⟨fun k => ⟨k.1.1.1, k.1.2, k.1.1.2, k.2⟩, fun k => ⟨⟨⟨k.1, k.2.2.1⟩, k.2.1⟩, k.2.2.2⟩⟩
  rw [mpcE, pg_n hp]
  rcases pcO_sp π σ q (freeB π σ) 7 0 with ⟨g1, g2⟩ | ⟨j, m', g1, g2, g3, g4, g5, g6, g7⟩
  · rcases pcM_sp hp h hw hq (2 ^ nW π) p6 with ⟨i1, i2⟩ | ⟨y, y1, y2, y3, y4⟩
    · rw [g1, i1]
    · have hy := pcT_le y (by omega)
      exact absurd ((hB (pcT y) y (by omega) hy).mpr ⟨y1, rfl, y3⟩) (g2 (pcT y) (by omega) (by omega) y (by omega))
  · have b := (hB m' j g1 (by omega)).mp g5
    rcases pcM_sp hp h hw hq (2 ^ nW π) p6 with ⟨i1, i2⟩ | ⟨y, y1, y2, y3, y4⟩
    · exact absurd b.2.2 (i2 j b.1)
    · have hy := pcT_le y (by omega)
      have hmin := y4 j b.1 b.2.2
      have hb2 := b.2.1
      rw [g4, y2]
      rcases hmin with k | ⟨k1, k2⟩
      · exact absurd ((hB (pcT y) y (by omega) hy).mpr ⟨y1, rfl, y3⟩) (g7 (pcT y) (by omega) (by omega) y (by omega))
      · by_cases e : y = j
        · rw [e]
        · exact absurd ((hB m' y (by omega) (by omega)).mpr ⟨y1, by omega, y3⟩) (g6 y (by omega))

/-! ===== all of both sides ===== -/
def stR (π σ : wRec) (f : Nat → Int32) : Prop := ∃ d, d ≤ 999 ∧ afW π σ d ∧ afR σ f
def hiR (π η : wRec) (R : Nat → wRec) (μ : wRec) : Prop := wfH η ∧ η 1 0 = μ 10 0 ∧ ∀ j, j < nK η → stR π (R ((nX η + 10 - nK η + j) % 10)) (fun k => μ 9 (46 * j + k))
def alR (π α : wRec) (I : Nat → wRec) (μ : wRec) : Prop := (∃ b, b < 4 ∧ α 1 0 = nI b) ∧ ∀ i, i < 2 → (keptB α i ↔ ¬ μ 17 (47 * i) = 0) ∧ (keptB α i → stR π (I i) (fun k => μ 17 (47 * i + 1 + k)))
def txA (τ μ : wRec) : Prop := τ 0 = μ 0 ∧ τ 1 0 = μ 1 0 ∧ wfT τ
def allR (τ π σ η α φ : wRec) (R I : Nat → wRec) (k : Int64) (μ : wRec) (r : Int64) : Prop := txA τ μ ∧ pgR π (μ 7) ∧ stR π σ (μ 8) ∧ hiR π η R μ ∧ alR π α I μ ∧ fdR φ μ ∧ k = r
theorem st_ext {π σ : wRec} {f g : Nat → Int32} (h : stR π σ f) (e : ∀ k, k < 46 → f k = g k) : stR π σ g := by
  obtain ⟨d, h1, h2, h3⟩ := h
  exact ⟨d, h1, h2, af_ext h3 h2.1.2 e⟩
theorem pg_ext {π : wRec} {f g : Nat → Int32} (h : pgR π f) (e : ∀ k, k < 45 → f k = g k) : pgR π g := by
  have h6 := h.2.1.2.1
  refine ⟨⟨by rw [← e _ (by omega)]; exact h.1.1, by rw [← e _ (by omega)]; exact h.1.2⟩, h.2.1, h.2.2.1, fun w hw => ?_⟩
  have g := h.2.2.2 w hw
  refine ⟨⟨by rw [← e _ (by omega)]; exact g.1.1, by rw [← e _ (by omega)]; exact g.1.2⟩, g.2.1, fun s hs => by rw [← e _ (by omega)]; exact g.2.2 s hs⟩
theorem hi_of {π η : wRec} {R : Nat → wRec} {μ ν : wRec} (h : hiR π η R μ) (e9 : ν 9 = μ 9) (e10 : ν 10 = μ 10) : hiR π η R ν := by
  unfold hiR at *
  rw [e9, e10]
  exact h
theorem al_of {π α : wRec} {I : Nat → wRec} {μ ν : wRec} (h : alR π α I μ) (e17 : ν 17 = μ 17) : alR π α I ν := by
  unfold alR at *
  rw [e17]
  exact h
theorem fd_of {φ μ ν : wRec} (h : fdR φ μ) (e14 : ν 14 = μ 14) (e15 : ν 15 = μ 15) : fdR φ ν := by
  unfold fdR at *
  rw [e14, e15]
  exact h
theorem tx_of {τ μ ν : wRec} (h : txA τ μ) (e0 : ν 0 = μ 0) (e1 : ν 1 = μ 1) : txA τ ν := by
  unfold txA at *
  rw [e0, e1]
  exact h
section ALL
variable {τ π σ η α φ : wRec} {R I : Nat → wRec} {k : Int64} {μ : wRec} {r : Int64}
theorem all_of (h : allR τ π σ η α φ R I k μ r) {ν : wRec} (e : ∀ j, j ≠ 8 → j ≠ 11 → j ≠ 12 → j ≠ 13 → ν j = μ j) (e8 : ∀ j, j < 46 → ν 8 j = μ 8 j) : allR τ π σ η α φ R I k ν r := by
  obtain ⟨h1, h2, h3, h4, h5, h6, h7⟩ := h
  have z : ∀ j, j ≠ 8 ∧ j ≠ 11 ∧ j ≠ 12 ∧ j ≠ 13 → ν j = μ j := fun j q => e j q.1 q.2.1 q.2.2.1 q.2.2.2
  refine ⟨tx_of h1 (z 0 (by decide)) (z 1 (by decide)), pg_of h2 (z 7 (by decide)), st_ext h3 (fun j hj => (e8 j hj).symm), hi_of h4 (z 9 (by decide)) (z 10 (by decide)), al_of h5 (z 17 (by decide)), fd_of h6 (z 14 (by decide)) (z 15 (by decide)), h7⟩
theorem all_G (h : allR τ π σ η α φ R I k μ r) : wfG μ := by
  obtain ⟨d, h1, h2, h3⟩ := h.2.2.1
  exact wfG_R h.2.1 h3 (afW_A h.2.1.2.1 h2)
theorem all_A (h : allR τ π σ η α φ R I k μ r) : wfA π σ := by
  obtain ⟨d, h1, h2, h3⟩ := h.2.2.1
  exact afW_A h.2.1.2.1 h2
theorem all_f (h : allR τ π σ η α φ R I k μ r) : afR σ (μ 8) := by
  obtain ⟨d, h1, h2, h3⟩ := h.2.2.1
  exact h3
theorem all_U (h : allR τ π σ η α φ R I k μ r) : wfU μ := by
  have h4 := h.2.2.2.1
  have e : uM μ = nK η := by unfold uM nK; rw [h4.2.1]
  exact ⟨by rw [e, ← h4.2.1]; exact h4.1.1.1, by rw [e]; exact h4.1.1.2⟩
theorem all_M (h : allR τ π σ η α φ R I k μ r) : wfM μ := by
  have h1 := h.1
  have e : lnM μ = lnT τ := by unfold lnM lnT; rw [h1.2.1]
  exact ⟨by rw [e, ← h1.2.1]; exact h1.2.2.1, by rw [e]; exact h1.2.2.2⟩
theorem all_l (h : allR τ π σ η α φ R I k μ r) (w : Int32) : laidB σ w ↔ laidM μ w := by
  unfold laidB laidM
  rw [(all_f h).1.2.2.1]
/-- answers that change nothing -/
theorem e_writer (h : allR τ π σ η α φ R I k μ r) (w x : Int32) : writerV π σ w x = mwrV μ w x := by
  have hp := h.2.1
  have hf := all_f h
  have hA := all_A h
  have hw := isW_iff hp w
  unfold writerV mwrV
  by_cases z : isWM μ w ∧ inB x 0 9
  · rw [if_pos z, if_pos ⟨hw.mpr z.1, z.2⟩]
    have wx := wr_ix hp.2.1.n (hw.mpr z.1)
    have w6 := hp.2.1.2.1
    have wl := wx.2
    obtain ⟨e, hk⟩ := ix_of (x := x) (y := 10) (n := 10) rfl (by omega) ⟨z.2.1, Int32.lt_of_le_of_lt z.2.2 (by decide)⟩
    generalize hkx : x.toNatClampNeg = j at *
    have g := hp.2.2.2 _ wx.2
    have hlt : x < 7 ↔ j < 7 := by rw [e]; exact nI_ltI (a := j) (b := 7) (by omega) (by omega)
    have he : ∀ n, n < 100 → (x = nI n ↔ j = n) := fun n hn => by rw [e]; exact nI_eq (by omega) (by omega)
    have he7 : x = 7 ↔ j = 7 := he 7 (by omega)
    have he8 : x = 8 ↔ j = 8 := he 8 (by omega)
    unfold wrK tn
    rw [hkx]
    rcases (show j = 0 ∨ j = 1 ∨ j = 7 ∨ j = 8 ∨ j = 9 ∨ (2 ≤ j ∧ j < 7) by omega) with rfl | rfl | rfl | rfl | rfl | hj
    · rw [if_pos rfl, if_pos (hlt.mpr (by omega))]
      exact g.1.1
    · rw [if_neg (by omega), if_pos rfl, if_pos (hlt.mpr (by omega))]
      exact g.1.2
    · rw [if_neg (by omega), if_neg (by omega), if_pos rfl, if_neg (fun q => absurd (hlt.mp q) (by omega)), if_pos (he7.mpr rfl)]
      have hb := all_l h w
      unfold laidB laidM at *
      rw [hf.1.2.2.1]
      obtain ⟨b, hb2, eb⟩ := pk_andE (μ 8 2 >>> (w &&& 31)) (m := 1) 1 (by decide)
      rw [eb]
      rcases (show b = 0 ∨ b = 1 by omega) with rfl | rfl <;> decide
    · rw [if_neg (by omega), if_neg (by omega), if_neg (by omega), if_pos rfl, if_neg (fun q => absurd (hlt.mp q) (by omega)), if_neg (fun q => absurd (he7.mp q) (by omega)), if_pos (he8.mpr rfl), bc_ob _ _ hA.1.2, af_n hf, ow_eq hf w _ (Nat.le_refl _)]
    · rw [if_neg (by omega), if_neg (by omega), if_neg (by omega), if_neg (by omega), if_pos rfl, if_neg (fun q => absurd (hlt.mp q) (by omega)), if_neg (fun q => absurd (he7.mp q) (by omega)), if_neg (fun q => absurd (he8.mp q) (by omega))]
      exact hf.2.1 _ (by omega)
    · rw [if_neg (by omega), if_neg (by omega), if_neg (by omega), if_neg (by omega), if_neg (by omega), if_pos (hlt.mpr (by omega)), g.2.2 (j - 2) (by omega)]
      congr 1
      omega
  · rw [if_neg z, if_neg (fun q => z ⟨hw.mp q.1, q.2⟩)]
theorem rg_iff {n : Nat} (hn : n ≤ 100) (x : Int32) : (0 ≤ x.toInt ∧ x.toInt < n) ↔ ixOK x n := by
  constructor
  · intro q
    have h0 : (0 : Int32) ≤ x := by rw [Int32.le_iff_toInt_le]; exact q.1
    refine ix_of (y := nI n) rfl (by omega) ⟨h0, ?_⟩
    rw [Int32.lt_iff_toInt_lt, nI_toInt (by omega)]
    exact q.2
  · intro q
    obtain ⟨e, hl⟩ := q
    rw [e, nI_toInt (by omega)]
    omega
theorem in_iff {n : Nat} (hn : n ≤ 6) (x : Int32) : inB x 0 (nI n - 1) ↔ ixOK x n := by
  rw [← wr_iff hn]
  constructor
  · intro q
    exact ix_of rfl (by omega) q
  · intro q
    obtain ⟨e, hl⟩ := q
    rw [e]
    exact ⟨nI_pos' (by omega), nI_lt hl (by omega)⟩
theorem e_quarrel (h : allR τ π σ η α φ R I k μ r) (q x : Int32) : quarrelV σ q x = mquV μ q x := by
  have hf := all_f h
  have hA := all_A h
  have hq := isQ_iff hf hA.1 q
  have hx : (0 ≤ x.toInt ∧ x.toInt < (6 : Nat)) ↔ inB x 0 5 := (rg_iff (by omega) x).trans (in_iff (n := 6) (by omega) x).symm
  unfold quarrelV mquV
  by_cases z : isQM μ q ∧ inB x 0 5
  · rw [if_pos z, if_pos ⟨hq.mpr z.1, hx.mpr z.2⟩]
    have qx := qu_ix hA.1 (hq.mpr z.1)
    obtain ⟨e, hk⟩ := (in_iff (n := 6) (by omega) x).mp z.2
    unfold tn
    generalize x.toNatClampNeg = j at *
    rcases (show j = 0 ∨ j = 1 ∨ j = 2 ∨ j = 3 ∨ j = 4 ∨ j = 5 by omega) with rfl | rfl | rfl | rfl | rfl | rfl
    · exact hf.2.2 _ 0 (by omega) qx.2
    · exact hf.2.2 _ 1 (by omega) qx.2
    · exact hf.2.2 _ 2 (by omega) qx.2
    · exact hf.2.2 _ 3 (by omega) qx.2
    · exact hf.2.2 _ 4 (by omega) qx.2
    · exact hf.2.2 _ 5 (by omega) qx.2
  · rw [if_neg z, if_neg (fun y => z ⟨hq.mp y.1, hx.mp y.2⟩)]
theorem e_meant (h : allR τ π σ η α φ R I k μ r) (w s : Int32) : meantV π σ w s = mmeV μ w s := by
  have hw := isW_iff h.2.1 w
  have hs := isS_iff s
  unfold meantV mmeV
  by_cases z : isWM μ w ∧ isSM s
  · rw [if_pos z, if_pos ⟨hw.mpr z.1, hs.mpr z.2⟩, mn_eq h.2.1 w (sM_ix z.2).2, ← (all_f h).1.2.2.1]
  · rw [if_neg z, if_neg (fun y => z ⟨hw.mp y.1, hs.mp y.2⟩)]
theorem e_now (h : allR τ π σ η α φ R I k μ r) (x : Int32) : nowV σ η x = nowMV μ x := by
  have hf := all_f h
  have hx : (0 ≤ x.toInt ∧ x.toInt < (5 : Nat)) ↔ ixOK x 5 := rg_iff (by omega) x
  unfold nowV nowMV
  by_cases z : 0 ≤ x.toInt ∧ x.toInt < 5
  · rw [if_pos z, if_pos z]
    have hk := (hx.mp z).2
    unfold tn
    generalize x.toNatClampNeg = j at *
    rcases (show j = 0 ∨ j = 1 ∨ j = 2 ∨ j = 3 ∨ j = 4 by omega) with rfl | rfl | rfl | rfl | rfl
    · exact hf.1.1
    · exact hf.1.2.1
    · show obL (σ 8) (-9) (nQ σ) = nwM μ (qM μ)
      rw [af_n hf, nw_eq hf _ (Nat.le_refl _)]
    · exact hf.1.2.2.2
    · exact h.2.2.2.1.2.1
  · rw [if_neg z, if_neg z]
theorem e_binds (h : allR τ π σ η α φ R I k μ r) (w : Int32) : bindsV π σ w = mbnV μ w := by
  have hw := isW_iff h.2.1 w
  unfold bindsV mbnV
  by_cases z : isWM μ w
  · rw [if_pos z, if_pos (hw.mpr z)]
    exact bn_eq h.2.1 (all_f h).1.2.2.1 w 5 (Nat.le_refl _)
  · rw [if_neg z, if_neg (fun y => z (hw.mp y))]
theorem e_keeps (h : allR τ π σ η α φ R I k μ r) (w : Int32) : keepsV π σ w = mkpV μ w := by
  have hw := isW_iff h.2.1 w
  obtain ⟨d, h1, h2, h3⟩ := h.2.2.1
  unfold keepsV mkpV
  by_cases z : isWM μ w
  · rw [if_pos z, if_pos (hw.mpr z)]
    exact keeps_eq h.2.1 h3 h2 h1 w
  · rw [if_neg z, if_neg (fun y => z (hw.mp y))]
theorem e_most (h : allR τ π σ η α φ R I k μ r) : mostV π σ = mmoV μ := by
  rw [mostV, mmoV, pg_n h.2.1]
  exact (mo_eq (all_f h) (nW π) h.2.1.2.1.2.1).1.symm
theorem e_titles (h : allR τ π σ η α φ R I k μ r) (a b : Int32) : titlesV π a b = mtiV μ a b := by
  have ha := isW_iff h.2.1 a
  have hb := isW_iff h.2.1 b
  unfold titlesV mtiV
  by_cases z : mtiOK μ a b
  · rw [if_pos z, if_pos ⟨ha.mpr z.1, hb.mpr z.2.1, z.2.2⟩]
    exact ti_eq h.2.1 (wr_ix h.2.1.2.1.n (ha.mpr z.1)).2 (wr_ix h.2.1.2.1.n (hb.mpr z.2.1)).2 5 (Nat.le_refl _)
  · rw [if_neg z, if_neg (fun y => z ⟨ha.mp y.1, hb.mp y.2.1, y.2.2⟩)]
theorem e_count (h : allR τ π σ η α φ R I k μ r) (x : Int32) : countV π τ φ x = mcoV μ x := by
  have hx : (0 ≤ x.toInt ∧ x.toInt < (4 : Nat)) ↔ ixOK x 4 := rg_iff (by omega) x
  unfold countV mcoV
  by_cases z : 0 ≤ x.toInt ∧ x.toInt < 4
  · rw [if_pos z, if_pos z]
    have hk := (hx.mp z).2
    unfold tn
    generalize x.toNatClampNeg = j at *
    rcases (show j = 0 ∨ j = 1 ∨ j = 2 ∨ j = 3 by omega) with rfl | rfl | rfl | rfl
    · exact h.2.1.1.1
    · exact h.2.1.1.2
    · exact h.2.2.2.2.2.1.1
    · exact h.1.2.1
  · rw [if_neg z, if_neg z]
end ALL

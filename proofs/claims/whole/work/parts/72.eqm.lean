/-! ===== looks ahead: the same ===== -/
section AHEAD
variable {τ π σ η α φ : wRec} {R I : Nat → wRec} {k : Int64} {μ : wRec} {r : Int64}
theorem as_of (μ : wRec) {j : Nat} (h : j ≠ 12) : asF μ j = μ j := va_up_ne _ _ h
theorem bk_all (h : allR τ π σ η α φ R I k μ r) {ν : wRec} (e : ∀ j, j ≠ 8 → j ≠ 11 → ν j = asF μ j) : allR τ π σ η α φ R I k (bkF ν) r := by
  refine all_of h (fun j h8 h11 h12 _ => ?_) (fun j hj => ?_)
  · rw [bkF_of _ h8, e j h8 h11, as_of μ h12]
  · rw [bkF, va_up_self, if_pos hj, e 12 (by decide) (by decide), asF_12 μ hj]
theorem as_R (h : allR τ π σ η α φ R I k μ r) : pgR π (asF μ 7) ∧ afR σ (asF μ 8) := ⟨pg_of h.2.1 (as_of μ (by decide)), by rw [as_of μ (by decide)]; exact all_f h⟩
theorem e_inDays (h : allR τ π σ η α φ R I k μ r) (q n x : Int32) : inDaysV π σ q n x = midV μ q n x ∧ allR τ π σ η α φ R I k (midF μ q n x) r := by
  have hq := isQ_iff (all_f h) (all_A h).1 q
  have hok : (isQu σ q ∧ (0 ≤ n ∧ n ≤ 60) ∧ 0 ≤ x ∧ x ≤ 2) ↔ midOK μ q n x := by
    unfold midOK
    rw [hq]
  unfold inDaysV midV midF
  by_cases z : midOK μ q n x
  · rw [if_pos z, if_pos (hok.mpr z), if_pos z]
    refine ⟨?_, bk_all h (fun j h8 h11 => gyN_of _ h8 h11 _)⟩
    have g := gN_R (as_R h).1 (as_R h).2 (all_A h) n.toNatClampNeg
    have qx : q.toNatClampNeg < nQ (passI π σ n.toNatClampNeg) := by
      rw [nQ_of (passI_2 π σ _)]
      exact (qu_ix (all_A h).1 (hq.mpr z.1)).2
    obtain ⟨e, hl⟩ := (in_iff (n := 3) (by omega) x).mp z.2.2
    unfold inDK tn
    generalize x.toNatClampNeg = j at *
    subst e
    rcases (show j = 0 ∨ j = 1 ∨ j = 2 by omega) with rfl | rfl | rfl
    · rw [if_pos (show nI 0 = 0 from rfl), if_neg (show ¬ nI 0 = 2 by decide)]
      exact g.2.2 _ 0 (by omega) qx
    · rw [if_neg (show ¬ nI 1 = 0 by decide), if_pos (show nI 1 = 1 from rfl), if_neg (show ¬ nI 1 = 2 by decide)]
      exact g.2.2 _ 1 (by omega) qx
    · rw [if_neg (show ¬ nI 2 = 0 by decide), if_neg (show ¬ nI 2 = 1 by decide), if_pos (show nI 2 = 2 from rfl)]
      exact g.2.2 _ 3 (by omega) qx
  · rw [if_neg z, if_neg (fun y => z (hok.mp y)), if_neg z]
    exact ⟨rfl, h⟩
theorem e_ends (h : allR τ π σ η α φ R I k μ r) (q : Int32) : endsV π σ q = menV μ q ∧ allR τ π σ η α φ R I k (menF μ q) r := by
  have hq := isQ_iff (all_f h) (all_A h).1 q
  unfold endsV menV menF
  by_cases z : isQM μ q
  · rw [if_pos z, if_pos (hq.mpr z), if_pos z]
    obtain ⟨d, h1, h2, h3⟩ := h.2.2.1
    exact ⟨ends_eq (as_R h).1 (as_R h).2 h2 (qu_ix (all_A h).1 (hq.mpr z)).2, bk_all h (fun j h8 h11 => clF_of _ _ h8 h11)⟩
  · rw [if_neg z, if_neg (fun y => z (hq.mp y)), if_neg z]
    exact ⟨rfl, h⟩
theorem e_late (h : allR τ π σ η α φ R I k μ r) (x : Int32) : lateFirstV π σ x = mlfV μ x ∧ allR τ π σ η α φ R I k (mlfF μ x) r := by
  refine ⟨late_eq h.2.1 (all_f h) (all_A h) x, ?_⟩
  unfold mlfF
  split
  · refine bk_all h (fun j h8 h11 => ?_)
    rw [lfE, gyN_of _ h8 h11, lf0, va_up_ne _ _ h11]
  · exact h
theorem e_peace (h : allR τ π σ η α φ R I k μ r) (q : Int32) : peaceV π σ q = mpcV μ q ∧ allR τ π σ η α φ R I k (mpcF μ q) r := by
  have hq := isQ_iff (all_f h) (all_A h).1 q
  unfold peaceV mpcV mpcF
  by_cases z : isQM μ q
  · rw [if_pos z, if_pos (hq.mpr z), if_pos z]
    obtain ⟨d, h1, h2, h3⟩ := h.2.2.1
    refine ⟨peace_eq h.2.1 h3 h2 (qu_ix (all_A h).1 (hq.mpr z)).2, all_of h (fun j h8 h11 h12 _ => ?_) (fun j hj => pcM_8 μ _ hj _)⟩
    rw [mpcE, pcM_of _ _ h8 h11, as_of μ h12]
  · rw [if_neg z, if_neg (fun y => z (hq.mp y)), if_neg z]
    exact ⟨rfl, h⟩
theorem ml_all (h : allR τ π σ η α φ R I k μ r) {ν : wRec} (e : ∀ j, j ≠ 13 → ν j = μ j) : allR τ π σ η α φ R I k ν r := all_of h (fun j _ _ _ h13 => e j h13) (fun j _ => by rw [e 8 (by decide)])
theorem e_round (h : allR τ π σ η α φ R I k μ r) (w s x : Int32) : roundV π σ w s x = mroV μ w s x ∧ allR τ π σ η α φ R I k (mroF μ w s x) r := by
  have hw := isW_iff h.2.1 w
  have hs := isS_iff s
  have hl := all_l h w
  have e3 := (all_f h).1.2.2.1
  unfold roundV mroV mroF
  by_cases z : mroOK μ w s x
  · rw [if_pos z, if_pos ⟨⟨hw.mpr z.1, hs.mpr z.2.1⟩, z.2.2⟩]
    by_cases y : laidM μ w
    · rw [if_pos y, if_pos (hl.mpr y), if_neg (fun q => q.2 y)]
      exact ⟨rfl, h⟩
    · rw [if_neg y, if_neg (fun q => y (hl.mp q)), if_pos (show mroOK μ w s x ∧ ¬ laidM μ w from ⟨z, y⟩)]
      refine ⟨?_, ml_all h (fun j hj => mlF_of _ _ _ _ hj)⟩
      rcases let_eq h.2.1 (laid := μ 8 2) (wr_ix h.2.1.2.1.n (hw.mpr z.1)) (sM_ix z.2.1) with ⟨a1, a2⟩ | ⟨a1, a2, a3⟩
      · rw [if_pos a1, e3]
        show (if x = 0 then (crF π (μ 8 2) w s.toNatClampNeg 30 0).1 else (crF π (μ 8 2) w s.toNatClampNeg 30 0).2) = _
        rw [a2]
        split <;> rfl
      · rw [if_neg a1, a2, a3, e3]
  · rw [if_neg z, if_neg (fun q => z ⟨hw.mp q.1.1, hs.mp q.1.2, q.2⟩), if_neg (fun q => z q.1)]
    exact ⟨rfl, h⟩
theorem la_B (h : allR τ π σ η α φ R I k μ r) {w : Int32} (hw : ixOK w (nW π)) {s : Nat} (hs : s < 5) : hlwB π (σ 3 0) w s ↔ mlaB μ w s := by
  have h1 := hl_eq (pg_of h.2.1 (mlsS_of μ w (k := 7) (by decide) s)) (laid := mlsS μ w s 8 2) hw (nI_ix hs)
  rw [nI_cl (by omega)] at h1
  have e8 : mlsS μ w s 8 2 = σ 3 0 := by rw [mlsS_of μ w (by decide)]; exact (all_f h).1.2.2.1.symm
  unfold mlaB
  rw [mlsS, ← h1, e8]
theorem la_N (h : allR τ π σ η α φ R I k μ r) {w : Int32} (hw : ixOK w (nW π)) : ∀ f s, s + f = 5 → laL π (σ 3 0) w f s = if mlaN μ w f s = 5 then -9 else nI (mlaN μ w f s)
  | 0, s, e => by rw [laL, mlaN, if_pos (by omega)]
  | f + 1, s, e => by
    have hc := la_B h hw (s := s) (by omega)
    rw [laL, mlaN]
    by_cases z : mlaB μ w s
    · rw [if_pos z, if_pos (hc.mpr z), if_neg (by omega)]
    · rw [if_neg z, if_neg (fun q => z (hc.mp q))]
      exact la_N h hw f (s + 1) (by omega)
theorem e_last (h : allR τ π σ η α φ R I k μ r) (w : Int32) : lastV π σ w = mlaV μ w ∧ allR τ π σ η α φ R I k (mlaF μ w) r := by
  have hw := isW_iff h.2.1 w
  have hl := all_l h w
  unfold lastV mlaV mlaF
  by_cases z : isWM μ w
  · rw [if_pos z, if_pos (hw.mpr z)]
    by_cases y : laidM μ w
    · rw [if_pos y, if_pos (hl.mpr y), if_neg (fun q => q.2 y)]
      exact ⟨rfl, h⟩
    · rw [if_neg y, if_neg (fun q => y (hl.mp q)), if_pos (show isWM μ w ∧ ¬ laidM μ w from ⟨z, y⟩)]
      refine ⟨la_N h (wr_ix h.2.1.2.1.n (hw.mpr z)) 5 0 rfl, ml_all h (fun j hj => ?_)⟩
      split
      · exact mlsS_of μ w hj _
      · exact mlsS_of μ w hj _
  · rw [if_neg z, if_neg (fun q => z (hw.mp q)), if_neg (fun q => z q.1)]
    exact ⟨rfl, h⟩
theorem od_pre (h : allR τ π σ η α φ R I k μ r) {w s p2 : Int32} (hw : isWM μ w) (hs : isSM s) (hp2 : inB p2 0 10) : ∃ l v, l < 64 ∧ μ 8 2 = nI l ∧ σ 3 0 = μ 8 2 ∧ v < nW π ∧ w = nI v ∧ ixOK s 5 ∧ p2 = nI p2.toNatClampNeg ∧ p2.toNatClampNeg < 11 := by
  obtain ⟨d, h1, h2, h3⟩ := h.2.2.1
  obtain ⟨l, l1, l2⟩ := h2.2.2.1
  have wx := wr_ix h.2.1.2.1.n ((isW_iff h.2.1 w).mpr hw)
  have px := ix_of (x := p2) (y := 11) (n := 11) rfl (by omega) ⟨hp2.1, Int32.lt_of_le_of_lt hp2.2 (by decide)⟩
  exact ⟨l, w.toNatClampNeg, p64 h.2.1.2.1 l1, by rw [← h3.1.2.2.1]; exact l2, h3.1.2.2.1, wx.2, wx.1, sM_ix hs, px.1, px.2⟩
theorem od_H (h : allR τ π σ η α φ R I k μ r) (w s p2 x : Int32) (ok : mooOK μ w s p2 x) : mooH μ w s p2 := by
  obtain ⟨l, v, g1, g2, g3, g4, rfl, g6, g7, g8⟩ := od_pre h ok.1 ok.2.1 ok.2.2.1
  exact odds_H (σ := σ) h.2.1 g1 g2 g3 g4 g6 g8
theorem e_odds (h : allR τ π σ η α φ R I k μ r) (w s p2 x : Int32) : oddsV π σ w s p2 x = mooV μ w s p2 x ∧ allR τ π σ η α φ R I k (mooF μ w s p2 x) r := by
  have hw := isW_iff h.2.1 w
  have hs := isS_iff s
  have hl := all_l h w
  unfold oddsV mooV mooF
  by_cases z : mooOK μ w s p2 x
  · rw [if_pos z, if_pos ⟨⟨hw.mpr z.1, hs.mpr z.2.1⟩, z.2.2⟩]
    by_cases y : laidM μ w
    · rw [if_pos y, if_pos (hl.mpr y), if_neg (fun q => q.2 y)]
      exact ⟨rfl, h⟩
    · rw [if_neg y, if_neg (fun q => y (hl.mp q)), if_pos (show mooOK μ w s p2 x ∧ ¬ laidM μ w from ⟨z, y⟩)]
      refine ⟨?_, ml_all h (fun j hj => moS_of _ _ _ hj _)⟩
      obtain ⟨l, v, g1, g2, g3, g4, rfl, g6, g7, g8⟩ := od_pre h z.1 z.2.1 z.2.2.1
      exact odR_eq h.2.1 g1 g2 g3 g4 g6 g7 g8 x
  · rw [if_neg z, if_neg (fun q => z ⟨hw.mp q.1.1, hs.mp q.1.2, q.2⟩), if_neg (fun q => z q.1)]
    exact ⟨rfl, h⟩
end AHEAD
/-! ===== the paper: the same ===== -/
def nuA (μ : wRec) : Nat → wRec
  | 0 => mp0 μ
  | i + 1 => miF (mpA μ i)
theorem nuA_r (μ : wRec) : ∀ i, mpA μ i = rdF (nuA μ i)
  | 0 => rfl
  | _ + 1 => rfl
theorem ri_eq {τ ζ μ : wRec} : ∀ f i, i + f = 8 → rdR (riA τ ζ i).1 (riA τ ζ i).2 (nuA μ i) → wfR (mpA μ i) → miN (mpA μ i) = i →
    (∃ j, j ≤ 7 ∧ riV τ ζ f i = nI j ∧ mpV μ f i = nI j ∧ riE τ ζ f i = (ntF (riA τ ζ j).1, (riA τ ζ j).2) ∧ mpE μ f i = mtkF (mclearF (mpA μ j)) ∧ rdR (riA τ ζ j).1 (riA τ ζ j).2 (nuA μ j)) ∨
    ∃ j, riV τ ζ f i = -10 - itT (riA τ ζ j).1 (riA τ ζ j).2 4 0 ∧ mpV μ f i = -10 - itT (riA τ ζ j).1 (riA τ ζ j).2 4 0 ∧ riE τ ζ f i = (itT (riA τ ζ j).1 (riA τ ζ j).2, itP (riA τ ζ j).1 (riA τ ζ j).2) ∧ mpE μ f i = miF (mpA μ j)
  | 0, i, hi, _, hR, hN => by
    have := miN_le hR
    omega
  | f + 1, i, hi, hr, hR, hN => by
    obtain ⟨h1, h2⟩ := item_eq hr
    rw [← nuA_r] at h1 h2
    have h7 := miN_le hR
    rw [riV, mpV, riE, mpE]
    by_cases z : ntT (riA τ ζ i).1 = -1
    · rw [if_pos z, if_pos (h1.mp z), if_pos z, if_pos (h1.mp z)]
      exact Or.inl ⟨i, by omega, rfl, rfl, rfl, rfl, hr⟩
    · obtain ⟨g1, g2, g3⟩ := h2 z
      have z' : ¬ mpA μ i 4 0 = 0 := fun q => z (h1.mpr q)
      rw [if_neg z, if_neg z', if_neg z, if_neg z']
      by_cases y : itOK (riA τ ζ i).1 (riA τ ζ i).2
      · rw [if_pos y, if_pos (g1.mp y), if_pos y, if_pos (g1.mp y)]
        have hm := mi_R hR (g1.mp y)
        exact ri_eq f (i + 1) (by omega) (g2 y) hm.1 (by
          have e : miN (mpA μ (i + 1)) = miN (miF (mpA μ i)) := rfl
          rw [e, hm.2, hN])
      · rw [if_neg y, if_neg (fun q => y (g1.mpr q)), if_neg y, if_neg (fun q => y (g1.mpr q))]
        exact Or.inr ⟨i, rfl, by rw [g3 y], rfl, rfl⟩
theorem ri_0 {τ ζ μ : wRec} (h : txA τ μ) : rdR (ri0 τ) (blankF ζ) (mp0 μ) := by
  have e6 : mp0 μ 6 = upd (fun k => if k < 45 then 0 else μ 6 k) 1 9 := by rw [mp0, va_up_ne _ _ (by decide), plF, va_up_self]
  have en : nW (blankF ζ) = 0 := rfl
  refine ⟨⟨h.1, h.2.1, rfl⟩, ⟨?_, Or.inl rfl⟩, ?_⟩
  · rw [e6, pk_un (by decide)]
    rfl
  · rw [e6]
    refine ⟨⟨?_, ?_⟩, ⟨rfl, by rw [en]; omega, fun w hw => absurd hw (by rw [en]; omega)⟩, ⟨9, by omega, by omega, rfl⟩, fun w hw => absurd hw (by rw [en]; omega)⟩
    · rw [pk_un (by decide)]
      rfl
    · rw [pk_us]
      rfl
/-- the text stays while it is read -/
def kpT (τ' τ : wRec) : Prop := τ' 0 = τ 0 ∧ τ' 1 0 = τ 1 0
theorem kp_nt {τ' τ : wRec} (h : kpT τ' τ) : kpT (ntF τ') τ := h
theorem kp_ts {τ' τ : wRec} (h : kpT τ' τ) : ∀ k, kpT (tsK τ' k) τ
  | 0 => h
  | k + 1 => kp_nt (kp_ts h k)
theorem kp_rw {τ' τ ζ : wRec} (h : kpT τ' τ) : kpT (rwT ζ τ') τ := by
  unfold rwT
  split
  · split
    · exact kp_ts h _
    · exact kp_ts h _
  · exact h
theorem kp_rt {τ' τ : wRec} (h : kpT τ' τ) : kpT (rtT τ') τ := by
  unfold rtT
  split
  · split
    · exact h
    · exact h
  · exact h
theorem kp_it {τ' τ ζ : wRec} (h : kpT τ' τ) : kpT (itT τ' ζ) τ := by
  unfold itT
  split
  · split
    · exact kp_nt (kp_rw (kp_nt h))
    · exact kp_rw (kp_nt h)
  · split
    · split
      · exact kp_nt (kp_rt (kp_nt h))
      · exact kp_rt (kp_nt h)
    · exact h
theorem kp_ri {τ' τ ζ : wRec} (h : kpT τ' τ) : ∀ i, kpT (riA τ' ζ i).1 τ
  | 0 => h
  | i + 1 => kp_it (kp_ri h i)
theorem rdF_of (μ : wRec) {j : Nat} (h : j ≠ 2 ∧ j ≠ 3 ∧ j ≠ 4 ∧ j ≠ 5) : rdF μ j = μ j := by
  rw [rdF, va_up_ne _ _ h.2.2.2, va_up_ne _ _ h.2.2.1, va_up_ne _ _ h.2.1, va_up_ne _ _ h.1]
theorem mwK_of (μ : wRec) (n : Nat) {j : Nat} (h : j ≠ 2 ∧ j ≠ 3 ∧ j ≠ 4 ∧ j ≠ 5) (h6 : j ≠ 6) : ∀ k, mwK μ n k j = μ j
  | 0 => rfl
  | k + 1 => by rw [mwK, mwS, up6 _ _ h6, rdF_of _ h, mwK_of μ n h h6 k]
theorem miF_of (μ : wRec) {j : Nat} (h : j ≠ 2 ∧ j ≠ 3 ∧ j ≠ 4 ∧ j ≠ 5) (h6 : j ≠ 6) : miF μ j = μ j := by
  unfold miF
  split
  · split
    · split
      · rfl
      · split
        · rw [rdF_of _ h, mtS, up6 _ _ h6, rdF_of _ h]
        · rw [rdF_of _ h]
    · split
      · rfl
      · split
        · rw [rdF_of _ h, mwD, up6 _ _ h6, mwK_of _ _ h h6]
        · rw [rdF_of _ h, mwK_of _ _ h h6]
  · rfl
theorem mpA_of (μ : wRec) {j : Nat} (h : j ≠ 2 ∧ j ≠ 3 ∧ j ≠ 4 ∧ j ≠ 5) (h6 : j ≠ 6) : ∀ i, mpA μ i j = μ j
  | 0 => by rw [mpA, rdF_of _ h, mp0, va_up_ne _ _ h.1, plF, up6 _ _ h6]
  | i + 1 => by rw [mpA, rdF_of _ h, miF_of _ h h6, mpA_of μ h h6 i]
/-- where a fault is told to be -/
def stO (τ : wRec) : Prop := ∃ s, s ≤ 200 ∧ τ 4 0 = nI s
theorem st_nt {τ : wRec} (h : wfT τ) (h2 : wfL τ) : stO (ntF τ) := ⟨ntS τ, by have := ntS_le h2; have := h.2; omega, rfl⟩
theorem st_ts {τ : wRec} (h : wfT τ) (h2 : wfL τ) : ∀ k, stO (tsK (ntF τ) k)
  | 0 => st_nt h h2
  | k + 1 => st_nt (tsK_T (ntF_T h) k) (tsK_L (ntF_T h) (ntF_L h h2) k)
theorem st_it {τ ζ : wRec} (h : wfT τ) (h2 : wfL τ) : stO (itT τ ζ) := by
  have h3 := ntF_L h h2
  have h4 := ntF_T h
  unfold itT
  split
  · split
    · exact st_nt (rw_T h4) (rw_L h4 h3)
    · unfold rwT
      split
      · split
        · exact st_ts h h2 _
        · exact st_ts h h2 _
      · exact st_nt h h2
  · split
    · split
      · exact st_nt (rt_T h4) (rt_L h4 h3)
      · unfold rtT
        split
        · split
          · exact st_nt h4 h3
          · exact st_nt h4 h3
        · exact st_nt h h2
    · exact st_nt h h2
section PAPER
variable {τ π σ η α φ : wRec} {R I : Nat → wRec} {k : Int64} {μ : wRec} {r : Int64}
theorem pap_cases (h : txA τ μ) (ζ : wRec) :
    (∃ j, j ≤ 7 ∧ papV τ ζ = nI j ∧ mpV μ 8 0 = nI j ∧ papE τ ζ = (ntF (riA (ri0 τ) (blankF ζ) j).1, (riA (ri0 τ) (blankF ζ) j).2) ∧ mpE μ 8 0 = mtkF (mclearF (mpA μ j)) ∧ rdR (riA (ri0 τ) (blankF ζ) j).1 (riA (ri0 τ) (blankF ζ) j).2 (nuA μ j)) ∨
    (papV τ ζ < 0 ∧ mpV μ 8 0 = papV τ ζ ∧ kpT (papE τ ζ).1 τ ∧ ∀ j, (j ≠ 2 ∧ j ≠ 3 ∧ j ≠ 4 ∧ j ≠ 5) → j ≠ 6 → mpE μ 8 0 j = μ j) := by
  have w0 : wfR (mpA μ 0) ∧ miN (mpA μ 0) = 0 := by
    have e6 : mpA μ 0 6 = upd (fun k => if k < 45 then 0 else μ 6 k) 1 9 := by
      show mp0 μ 6 = _
      rw [mp0, va_up_ne _ _ (by decide), plF, va_up_self]
    have e0 : mpA μ 0 6 0 = 0 := by
      rw [e6, pk_un (by decide)]
      rfl
    have e2 : mpA μ 0 6 2 = 0 := by
      rw [e6, pk_un (by decide)]
      rfl
    have er : rN (mpA μ 0) = 0 := by rw [rN, e0]; rfl
    refine ⟨⟨by rw [er, e0]; rfl, by rw [er]; omega⟩, ?_⟩
    rw [miN, er, e2]
    rfl
  rcases ri_eq (τ := ri0 τ) (ζ := blankF ζ) (μ := μ) 8 0 rfl (ri_0 h) w0.1 w0.2 with hl | ⟨j, a1, a2, a3, a4⟩
  · exact Or.inl hl
  · have hw0 : wfT (ri0 τ) := h.2.2
    have hl0 : wfL (ri0 τ) := ⟨rfl, Nat.zero_le _⟩
    have hwf := riA_wf (π := blankF ζ) hw0 hl0 ⟨rfl, show (0 : Nat) ≤ 6 by omega⟩ j
    obtain ⟨s, s1, s2⟩ := st_it (ζ := (riA (ri0 τ) (blankF ζ) j).2) hwf.1 hwf.2.1
    refine Or.inr ⟨?_, a2.trans a1.symm, ?_, fun i hi h6 => ?_⟩
    · show riV (ri0 τ) (blankF ζ) 8 0 < 0
      rw [a1, s2, Int32.lt_iff_toInt_lt, Int32.toInt_sub, nI_toInt (by omega), show (-10 : Int32).toInt = -10 from by decide, show (0 : Int32).toInt = 0 from by decide, Int.bmod_eq_of_le (by omega) (by omega)]
      omega
    · show kpT (riE (ri0 τ) (blankF ζ) 8 0).1 τ
      rw [a3]
      exact kp_it (kp_ri ⟨rfl, rfl⟩ j)
    · rw [a4, miF_of _ hi h6, mpA_of _ hi h6]
theorem e_paper_n (h : allR τ π σ η α φ R I k μ r) {ζ : wRec} (hb : papV τ ζ < 0) : papV τ ζ = mpV μ 8 0 ∧ allR (papE τ ζ).1 π σ η α φ R I k (mpE μ 8 0) r := by
  rcases pap_cases h.1 ζ with ⟨j, j7, a1, a2, a3, a4, a5⟩ | ⟨a1, a2, a3, a4⟩
  · rw [a1] at hb
    exact absurd hb (nI_pos (by omega))
  · refine ⟨a2.symm, ?_⟩
    have h' : allR τ π σ η α φ R I k (mpE μ 8 0) r := by
      obtain ⟨h1, h2, h3, h4, h5, h6, h7⟩ := h
      refine ⟨tx_of h1 (a4 0 (by decide) (by decide)) (a4 1 (by decide) (by decide)), pg_of h2 (a4 7 (by decide) (by decide)), ?_, hi_of h4 (a4 9 (by decide) (by decide)) (a4 10 (by decide) (by decide)), al_of h5 (a4 17 (by decide) (by decide)), fd_of h6 (a4 14 (by decide) (by decide)) (a4 15 (by decide) (by decide)), h7⟩
      rw [a4 8 (by decide) (by decide)]
      exact h3
    obtain ⟨⟨t1, t2, t3⟩, h2⟩ := h'
    refine ⟨⟨a3.1.trans t1, a3.2.trans t2, ?_⟩, h2⟩
    unfold wfT lnT at *
    rw [a3.2]
    exact t3
theorem e_paper_y (h : allR τ π σ η α φ R I k μ r) {ζ : wRec} (hb : ¬ papV τ ζ < 0) : papV τ ζ = mpV μ 8 0 ∧ allR (emptyT (papE τ ζ).1) (papE τ ζ).2 (anewL σ 6) (hdropF η) (hdropF α) (dropF φ) R I k (mpE μ 8 0) r := by
  rcases pap_cases h.1 ζ with ⟨j, j7, a1, a2, a3, a4, a5⟩ | ⟨a1, a2, a3, a4⟩
  · refine ⟨a1.trans a2.symm, ?_⟩
    obtain ⟨⟨x0, x1, x2⟩, -, hp⟩ := a5
    rw [a3, a4]
    obtain ⟨h1, h2, h3, h4, h5, h6, h7⟩ := h
    have e6 : mpA μ j 6 = nuA μ j 6 := by rw [nuA_r]; rfl
    have e0 : mpA μ j 0 = nuA μ j 0 := by rw [nuA_r]; rfl
    refine ⟨⟨?_, rfl, rfl, show (0 : Nat) ≤ 200 by omega⟩, ?_, ⟨0, by omega, ?_, ?_⟩, ⟨⟨⟨rfl, show (0 : Nat) ≤ 10 by omega⟩, h4.1.2⟩, rfl, fun i hi => absurd hi (Nat.not_lt_zero i)⟩, ⟨⟨0, by omega, rfl⟩, fun i hi => ?_⟩, ⟨rfl, ⟨rfl, show (0 : Nat) ≤ 5 by omega, fun i hi => absurd hi (Nat.not_lt_zero i)⟩, fun i hi => absurd hi (Nat.not_lt_zero i)⟩, h7⟩
    · show (riA (ri0 τ) (blankF ζ) j).1 0 = mpA μ j 0
      rw [e0]
      exact x0
    · refine pg_ext hp (fun i hi => ?_)
      show nuA μ j 6 i = if i < 45 then mpA μ j 6 i else _
      rw [if_pos hi, e6]
    · exact ⟨⟨rfl, show (0 : Nat) ≤ 6 by omega⟩, rfl, ⟨0, Nat.two_pow_pos _, rfl⟩, fun q hq => absurd hq (Nat.not_lt_zero q)⟩
    · refine ⟨⟨rfl, rfl, rfl, rfl⟩, fun w hw => ?_, fun q i _ hq => absurd hq (Nat.not_lt_zero q)⟩
      show (if w < 6 then (0 : Int32) else σ 4 w) = if 4 + w < 46 then (0 : Int32) else _
      rw [if_pos hw, if_pos (by omega)]
    · have n1 : ¬ keptB (hdropF α) i := by
        show ¬ (((0 : Int32) >>> (nI i &&& 31)) &&& 1 = 1)
        rcases (show i = 0 ∨ i = 1 by omega) with rfl | rfl <;> decide
      refine ⟨⟨fun q => absurd q n1, fun q => absurd ?_ q⟩, fun q => absurd q n1⟩
      show upd (upd (mclearF (mpA μ j) 17) 0 0) 47 0 (47 * i) = 0
      rcases (show i = 0 ∨ i = 1 by omega) with rfl | rfl
      · rw [pk_un (by decide), pk_us]
      · rw [pk_us]
  · exact absurd a1 hb
end PAPER

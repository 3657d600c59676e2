/-! ===== what is done: the same ===== -/
theorem up_selfR (R : Nat → wRec) (i : Nat) : va_up R i (R i) = R := by
  funext j
  by_cases e : j = i
  · subst e
    rw [va_up_self]
  · rw [va_up_ne _ _ e]
section DONE
variable {τ π σ η α φ : wRec} {R I : Nat → wRec} {k : Int64} {μ : wRec} {r : Int64}
theorem e_type (h : allR τ π σ η α φ R I k μ r) (x : Int32) : typeV τ x = mtypeV μ x ∧ allR (typeT τ x) π σ η α φ R I k (mtypeF μ x) r := by
  obtain ⟨h1, h2, h3, h4, h5, h6, h7⟩ := h
  have e : lnM μ = lnT τ := by unfold lnM lnT; rw [h1.2.1]
  have hl := h1.2.2.2
  unfold typeV mtypeV typeT mtypeF addT
  rw [e]
  by_cases z : inB x 0 255
  · rw [if_pos z, if_pos z, if_pos z, if_pos z]
    by_cases y : lnT τ = 200
    · rw [if_neg (by omega), if_pos y, if_neg (by omega), if_pos y]
      exact ⟨rfl, h1, h2, h3, h4, h5, h6, h7⟩
    · rw [if_pos (by omega), if_neg y, if_pos (by omega), if_neg y]
      refine ⟨rfl, ⟨?_, rfl, ?_, ?_⟩, h2, h3, h4, h5, h6, h7⟩
      · show upd (τ 0) (lnT τ) x = upd (μ 0) (lnT τ) x
        rw [h1.1]
      · show nI (lnT τ + 1) = nI (nI (lnT τ + 1)).toNatClampNeg
        rw [nI_cl (by omega)]
      · show (nI (lnT τ + 1)).toNatClampNeg ≤ 200
        rw [nI_cl (by omega)]
        omega
  · rw [if_neg z, if_neg z, if_neg z, if_neg z]
    exact ⟨rfl, h1, h2, h3, h4, h5, h6, h7⟩
theorem e_clear (h : allR τ π σ η α φ R I k μ r) : τ 1 0 = μ 1 0 ∧ allR (emptyT τ) π σ η α φ R I k (mclearF μ) r := by
  obtain ⟨h1, h2, h3, h4, h5, h6, h7⟩ := h
  exact ⟨h1.2.1, ⟨h1.1, rfl, rfl, show (0 : Nat) ≤ 200 by omega⟩, h2, h3, h4, h5, h6, h7⟩
theorem e_forget (h : allR τ π σ η α φ R I k μ r) : φ 0 0 = μ 14 0 ∧ allR τ π σ η α (dropF φ) R I k (mfgF μ) r := by
  obtain ⟨h1, h2, h3, h4, h5, h6, h7⟩ := h
  exact ⟨h6.1, h1, h2, h3, h4, h5, ⟨rfl, ⟨rfl, show (0 : Nat) ≤ 5 by omega, fun i hi => absurd hi (Nat.not_lt_zero i)⟩, fun i hi => absurd hi (Nat.not_lt_zero i)⟩, h7⟩
theorem e_found (h : allR τ π σ η α φ R I k μ r) (w s x : Int32) : foundV π φ w s x = mfoV μ w s x ∧ allR τ π σ η α (foundF π φ w s x) R I k (mfoF μ w s x) r := by
  have hw := isW_iff h.2.1 w
  have hx := isW_iff h.2.1 x
  have hs := isS_iff s
  have hok : fdOK π w s x ↔ mfoOK μ w s x := ⟨fun q => ⟨hw.mp q.1.1, hs.mp q.1.2, q.2.imp id hx.mp⟩, fun q => ⟨⟨hw.mpr q.1, hs.mpr q.2.1⟩, q.2.2.imp id hx.mpr⟩⟩
  obtain ⟨h1, h2, h3, h4, h5, h6, h7⟩ := h
  have e := fd_n h6
  have h5' := h6.2.1.2.1
  unfold foundV mfoV foundF mfoF addF
  rw [e]
  by_cases z : mfoOK μ w s x
  · rw [if_pos z, if_pos (hok.mpr z), if_pos (hok.mpr z)]
    have sx := sM_ix z.2.1
    by_cases y : nF φ = 5
    · rw [if_neg (show ¬ nF φ < 5 by omega), if_pos y, if_neg (show ¬ nF φ < 5 by omega), if_neg (show ¬ (mfoOK μ w s x ∧ ¬ nF φ = 5) from fun q => q.2 y)]
      exact ⟨rfl, h1, h2, h3, h4, h5, h6, h7⟩
    · rw [if_pos (show nF φ < 5 by omega), if_neg y, if_pos (show nF φ < 5 by omega), if_pos (show mfoOK μ w s x ∧ ¬ nF φ = 5 from ⟨z, y⟩)]
      refine ⟨rfl, h1, h2, h3, h4, h5, ?_, h7⟩
      generalize hv : (if x = -1 then (-9 : Int32) else x) = v
      generalize hm : nF φ = m at *
      have en : nF (va_up (va_up (va_up (va_up φ 1 (upd (φ 1) m w)) 2 (upd (φ 2) m (nI (tn s)))) 3 (upd (φ 3) m v)) 0 (fun _ => nI (m + 1))) = m + 1 := by
        show (nI (m + 1)).toNatClampNeg = m + 1
        exact nI_cl (by omega)
      refine ⟨rfl, ⟨?_, ?_, fun i hi => ?_⟩, fun i hi => ?_⟩
      · rw [en]; rfl
      · rw [en]; omega
      · rw [en] at hi
        show ixOK (upd (φ 2) m (nI (tn s)) i) 5
        by_cases e2 : i = m
        · subst e2
          rw [pk_us]
          exact ix_nI sx.2 (by omega)
        · rw [pk_un e2]
          exact h6.2.1.2.2 i (by omega)
      · rw [en] at hi
        show upd (φ 1) m w i = upd (upd (upd (μ 15) (3 * m) w) (3 * m + 1) s) (3 * m + 2) v (3 * i) ∧ upd (φ 2) m (nI (tn s)) i = upd (upd (upd (μ 15) (3 * m) w) (3 * m + 1) s) (3 * m + 2) v (3 * i + 1) ∧ upd (φ 3) m v i = upd (upd (upd (μ 15) (3 * m) w) (3 * m + 1) s) (3 * m + 2) v (3 * i + 2)
        by_cases e2 : i = m
        · subst e2
          refine ⟨?_, ?_, ?_⟩
          · rw [pk_us, pk_un (by omega), pk_un (by omega), pk_us]
          · rw [pk_us, pk_un (by omega), pk_us]
            exact sx.1.symm
          · rw [pk_us, pk_us]
        · have g := h6.2.2 i (by omega)
          refine ⟨?_, ?_, ?_⟩
          · rw [pk_un e2, pk_un (by omega), pk_un (by omega), pk_un (by omega)]; exact g.1
          · rw [pk_un e2, pk_un (by omega), pk_un (by omega), pk_un (by omega)]; exact g.2.1
          · rw [pk_un e2, pk_un (by omega), pk_un (by omega), pk_un (by omega)]; exact g.2.2
  · rw [if_neg z, if_neg (fun q => z (hok.mp q)), if_neg (fun q => z (hok.mp q)), if_neg (fun q => z q.1)]
    exact ⟨rfl, h1, h2, h3, h4, h5, h6, h7⟩
theorem e_mayBe (h : allR τ π σ η α φ R I k μ r) (w s : Int32) : mayBeV π φ w s = mmbV μ w s := by
  have hw := isW_iff h.2.1 w
  have hs := isS_iff s
  unfold mayBeV mmbV
  by_cases z : isWM μ w ∧ isSM s
  · rw [if_pos z, if_pos ⟨hw.mpr z.1, hs.mpr z.2⟩]
    exact mb_eq h.2.1 h.2.2.2.2.2.1 (wr_ix h.2.1.2.1.n (hw.mpr z.1)).2 (sM_ix z.2).2 10
  · rw [if_neg z, if_neg (fun y => z ⟨hw.mp y.1, hs.mp y.2⟩)]
theorem e_rate (h : allR τ π σ η α φ R I k μ r) (d w : Int32) : rateV π σ d w = mraV μ d w ∧ rateK π k d w = mraR μ r d w := by
  have hf := all_f h
  have hA := all_A h
  have hw := isW_iff h.2.1 w
  have hd : (0 ≤ d.toInt ∧ d.toInt < (6 : Nat)) ↔ inB d 0 5 := (rg_iff (by omega) d).trans (in_iff (n := 6) (by omega) d).symm
  have hok : ratOK π d w ↔ mraOK μ d w := ⟨fun q => ⟨hd.mp q.2, hw.mp q.1⟩, fun q => ⟨hw.mpr q.2, hd.mpr q.1⟩⟩
  have h7 := h.2.2.2.2.2.2
  have w6 := h.2.1.2.1.2.1
  unfold rateV mraV rateK mraR
  by_cases z : mraOK μ d w
  · rw [if_pos z, if_pos (hok.mpr z), if_pos z, if_pos (hok.mpr z)]
    have wx := wr_ix h.2.1.2.1.n (hw.mpr z.2)
    have wl := wx.2
    have g := h.2.1.2.2.2 _ wx.2
    have hk := ((in_iff (n := 6) (by omega) d).mp z.1).2
    have eO : bcF (obL (σ 8) w (nQ σ)) = owM μ w (qM μ) := by rw [bc_ob _ _ hA.1.2, af_n hf, ow_eq hf w _ (Nat.le_refl _)]
    have eW : lwL (σ 8) (σ 5) w (nQ σ) = wdM μ w (qM μ) := by rw [af_n hf, wd_eq hf w _ (Nat.le_refl _)]
    have eL : σ 4 (tn w) = μ 8 (4 + w.toNatClampNeg) := hf.2.1 _ (show w.toNatClampNeg < 6 by omega)
    unfold ratK mraJ ratA mraA
    rw [eO, eW, eL, g.1.1, h7]
    unfold tn
    generalize d.toNatClampNeg = j at *
    have a2 : ∀ a b c : Int64, a + b + c = a + (b + c) := Int64.add_assoc
    rcases (show j = 0 ∨ j = 1 ∨ j = 2 ∨ j = 3 ∨ j = 4 ∨ j = 5 by omega) with rfl | rfl | rfl | rfl | rfl | rfl
    · exact ⟨by first | (rw [if_pos rfl]; done) | (rw [if_pos rfl, if_pos rfl]; done), by first | (rw [if_pos rfl]; done) | (rw [if_pos rfl, if_pos rfl]; done)⟩
    · exact ⟨rfl, by show r + 10 + 1 = r + 11; rw [a2]; rfl⟩
    · exact ⟨rfl, by show r + 100 + 1 = r + 101; rw [a2]; rfl⟩
    · exact ⟨rfl, by show r + 1000 + 10 + 1 = r + 1011; rw [a2, a2]; rfl⟩
    · exact ⟨rfl, by show r + 10000 + 100 + 1 = r + 10101; rw [a2, a2]; rfl⟩
    · exact ⟨rfl, by show r + 100000 + 1 = r + 100001; rw [a2]; rfl⟩
  · rw [if_neg z, if_neg (fun q => z (hok.mp q)), if_neg z, if_neg (fun q => z (hok.mp q))]
    exact ⟨rfl, h7⟩
/-- what can be undone -/
theorem hi_rem (h : allR τ π σ η α φ R I k μ r) : hiR π (remF η) (va_up R (nX η) σ) (nsF μ) := by
  have hU := all_U h
  obtain ⟨h1, h2, h3, ⟨hH, h10, hj⟩, h5, h6, h7⟩ := h
  obtain ⟨⟨ek, hk⟩, ex, hx⟩ := hH
  have eu : uM μ = nK η := by unfold uM nK; rw [h10]
  have nk : nK (remF η) = min (nK η + 1) 10 := by
    show (nI (min (nK η + 1) 10)).toNatClampNeg = _
    exact nI_cl (by omega)
  have nx : nX (remF η) = (nX η + 1) % 10 := by
    show (nI ((nX η + 1) % 10)).toNatClampNeg = _
    exact nI_cl (by omega)
  refine ⟨⟨⟨by rw [nk]; rfl, by rw [nk]; omega⟩, by rw [nx]; rfl, by rw [nx]; omega⟩, ?_, fun j hjn => ?_⟩
  · show nI (min (nK η + 1) 10) = nI (nsU μ + 1)
    rw [nsU, eu]
    by_cases z : nK η = 10
    · rw [if_pos z, z]
      rfl
    · rw [if_neg z, Nat.min_eq_left (by omega)]
  · rw [nk] at hjn
    rw [nk, nx]
    have e9 : ∀ i, nsF μ 9 i = nsR μ 46 i := fun i => by rw [nsF, va_up_ne _ _ (by decide), va_up_self]
    have e8 : nsA μ 8 = μ 8 := nsA_of μ (by decide) (by decide)
    by_cases z : nK η = 10
    · have eU : nsU μ = 9 := by rw [nsU, eu, if_pos z]
      by_cases y : j = 9
      · subst y
        rw [show ((nX η + 1) % 10 + 10 - min (nK η + 1) 10 + 9) % 10 = nX η by omega, va_up_self]
        refine st_ext h3 (fun i hi => ?_)
        rw [e9, nsR, eU, if_pos (by omega), e8, show 46 * 9 + i - 46 * 9 = i by omega]
      · have hne : ((nX η + 1) % 10 + 10 - min (nK η + 1) 10 + j) % 10 ≠ nX η := by omega
        rw [va_up_ne _ _ hne]
        have := hj (j + 1) (by omega)
        rw [show (nX η + 10 - nK η + (j + 1)) % 10 = ((nX η + 1) % 10 + 10 - min (nK η + 1) 10 + j) % 10 by omega] at this
        refine st_ext this (fun i hi => ?_)
        rw [e9, nsR, eU, if_neg (by omega), nsA, eu, if_pos z, va_up_ne _ _ (by decide), va_up_self, if_pos (by omega)]
        congr 1
        omega
    · have eU : nsU μ = nK η := by rw [nsU, eu, if_neg z]
      have e9A : nsA μ 9 = μ 9 := by rw [nsA, eu, if_neg z]
      by_cases y : j = nK η
      · subst y
        rw [show ((nX η + 1) % 10 + 10 - min (nK η + 1) 10 + nK η) % 10 = nX η by omega, va_up_self]
        refine st_ext h3 (fun i hi => ?_)
        rw [e9, nsR, eU, if_pos (by omega), e8, show 46 * nK η + i - 46 * nK η = i by omega]
      · have hne : ((nX η + 1) % 10 + 10 - min (nK η + 1) 10 + j) % 10 ≠ nX η := by omega
        rw [va_up_ne _ _ hne]
        have := hj j (by omega)
        rw [show (nX η + 10 - nK η + j) % 10 = ((nX η + 1) % 10 + 10 - min (nK η + 1) 10 + j) % 10 by omega] at this
        refine st_ext this (fun i hi => ?_)
        rw [e9, nsR, eU, if_neg (by omega), e9A]
/-- all behind a deed: what was is noted, what is done is the same -/
theorem all_done (h : allR τ π σ η α φ R I k μ r) {σ' ν : wRec} (hs : stR π σ' (ν 8)) (e : ∀ j, j ≠ 8 → j ≠ 11 → ν j = nsF μ j) : allR τ π σ' (remF η) α φ (va_up R (nX η) σ) I k ν r := by
  have hh := hi_rem h
  obtain ⟨h1, h2, h3, h4, h5, h6, h7⟩ := h
  have z : ∀ j, j ≠ 8 ∧ j ≠ 11 ∧ j ≠ 9 ∧ j ≠ 10 → ν j = μ j := fun j q => (e j q.1 q.2.1).trans (nsF_of μ q.2.2.1 q.2.2.2)
  exact ⟨tx_of h1 (z 0 (by decide)) (z 1 (by decide)), pg_of h2 (z 7 (by decide)), hs, hi_of hh (e 9 (by decide) (by decide)) (e 10 (by decide) (by decide)), al_of h5 (z 17 (by decide)), fd_of h6 (z 14 (by decide)) (z 15 (by decide)), h7⟩
theorem ns7 (hp : pgR π (μ 7)) : pgR π (nsF μ 7) := pg_of hp (nsF_of μ (by decide) (by decide))
theorem ns8 (hf : afR σ (μ 8)) : afR σ (nsF μ 8) := by rw [nsF_of μ (by decide) (by decide)]; exact hf
theorem e_writes (h : allR τ π σ η α φ R I k μ r) (w s : Int32) : writesV π σ w s = mwtV μ w s ∧ allR τ π (writesA π σ w s) (writesH π σ η w s) α φ (va_up R (nX η) (writesR π σ (R (nX η)) w s)) I k (mwtF μ w s) r := by
  have hw := isW_iff h.2.1 w
  have hs := isS_iff s
  have hl := all_l h w
  have hf := all_f h
  have hA := all_A h
  have eq := af_n hf
  have h6 := hA.1.2
  have hok : wrtOK π σ w s ↔ mwtOK μ w s := by
    unfold wrtOK mwtOK
    rw [hw, hs, hl, eq]
    exact ⟨fun q => ⟨q.1, q.2.1, by omega⟩, fun q => ⟨q.1, q.2.1, by omega⟩⟩
  have hv : writesV π σ w s = mwtV μ w s := by
    unfold writesV mwtV
    by_cases z : isWM μ w ∧ isSM s
    · rw [if_pos z, if_pos ⟨hw.mpr z.1, hs.mpr z.2⟩]
      by_cases y : laidM μ w
      · rw [if_pos y, if_pos (hl.mpr y)]
      · rw [if_neg y, if_neg (fun q => y (hl.mp q)), eq]
        by_cases x : nQ σ = 6
        · rw [if_pos x, if_neg (by omega)]
        · rw [if_neg x, if_pos (by omega)]
    · rw [if_neg z, if_neg (fun y => z ⟨hw.mp y.1, hs.mp y.2⟩)]
  refine ⟨hv, ?_⟩
  unfold writesA writesH writesR mwtF
  by_cases z : mwtOK μ w s
  · rw [if_pos z, if_pos (hok.mpr z), if_pos (hok.mpr z), if_pos (hok.mpr z)]
    have sx := sM_ix z.1.2
    have wx := wr_ix h.2.1.2.1.n (hw.mpr z.1.1)
    have q6 := (hok.mpr z).2.2
    obtain ⟨d, h1, h2, h3⟩ := h.2.2.1
    have hb := be_R (ns7 h.2.1) (ns8 hf) q6 w sx.2
    have e8 : va_up (nsF μ) 8 (upd (nsF μ 8) 1 (nI (nQ σ + 1))) = mwtA μ := by rw [mwtA, eq]
    rw [e8] at hb
    rw [eq]
    refine all_done h ⟨d, h1, be_W (pg_W h.2.1) h2 q6 wx sx.2, hb⟩ (fun j j8 _ => ?_)
    rw [prF_of _ _ _ _ j8, mwtA, va_up_ne _ _ j8]
  · rw [if_neg z, if_neg (fun q => z (hok.mp q)), if_neg (fun q => z (hok.mp q)), if_neg (fun q => z (hok.mp q)), up_selfR]
    exact h
theorem e_day (h : allR τ π σ η α φ R I k μ r) : dayV π σ = mdV μ ∧ allR τ π (dayAA π σ) (dayH σ η) α φ (va_up R (nX η) (dayR σ (R (nX η)))) I k (mdF μ) r := by
  have hf := all_f h
  have hA := all_A h
  obtain ⟨d, h1, h2, h3⟩ := h.2.2.1
  have hc : σ 0 0 < 999 ↔ ¬ μ 8 0 = 999 := by
    rw [← h3.1.1, h2.2.1]
    have e1 : nI d < 999 ↔ d < 999 := nI_ltI (a := d) (b := 999) (by omega) (by omega)
    have e2 : nI d = 999 ↔ d = 999 := nI_eq (a := d) (b := 999) (by omega) (by omega)
    rw [e1, e2]
    omega
  have hP := pass_R (ns7 h.2.1) (ns8 hf) hA
  unfold dayV mdV dayAA dayH dayR mdF
  by_cases z : μ 8 0 = 999
  · rw [if_pos z, if_neg (fun q => hc.mp q z), if_neg (fun q => hc.mp q z), if_neg (fun q => hc.mp q z), if_neg (fun q => hc.mp q z), if_pos z, up_selfR]
    exact ⟨rfl, h⟩
  · have c := hc.mpr z
    rw [if_neg z, if_pos c, if_pos c, if_pos c, if_pos c, if_neg z]
    have hd : d < 999 := by
      have := c
      rw [h2.2.1] at this
      exact (nI_ltI (a := d) (b := 999) (by omega) (by omega)).mp this
    exact ⟨hP.2, all_done h ⟨d + 1, by omega, pass_W (pg_W h.2.1) h2, hP.1⟩ (fun j j8 j11 => gyS_of _ j8 j11 _)⟩
theorem e_lays (h : allR τ π σ η α φ R I k μ r) (w : Int32) : laysV π σ w = mldV μ w ∧ allR τ π (laysA π σ w) (laysH π σ η w) α φ (va_up R (nX η) (laysR π σ (R (nX η)) w)) I k (mldF μ w) r := by
  have hw := isW_iff h.2.1 w
  have hl := all_l h w
  have hf := all_f h
  have hA := all_A h
  obtain ⟨d, h1, h2, h3⟩ := h.2.2.1
  unfold laysV mldV laysA laysH laysR mldF
  by_cases z : isWM μ w
  · have wx := wr_ix h.2.1.2.1.n (hw.mpr z)
    rw [if_pos z, if_pos (hw.mpr z)]
    by_cases y : laidM μ w
    · have n1 : ¬ layOK π σ w := fun q => q.2 (hl.mpr y)
      rw [if_pos y, if_pos (hl.mpr y), if_neg n1, if_neg n1, if_neg n1, if_neg (fun q => q.2 y), up_selfR]
      exact ⟨rfl, h⟩
    · have ok : layOK π σ w := ⟨hw.mpr z, fun q => y (hl.mp q)⟩
      rw [if_neg y, if_neg ok.2, if_pos ok, if_pos ok, if_pos ok, if_pos ⟨z, y⟩]
      have hL := lay_R (ns7 h.2.1) (ns8 hf) hA (tn w)
      have ew : nI (tn w) = w := wx.1.symm
      rw [ew, nsF_q] at hL
      exact ⟨hL.2, all_done h ⟨d, h1, lay_W (pg_W h.2.1) h2 wx.2, hL.1⟩ (fun j j8 _ => ldS_of _ _ j8 _)⟩
  · have n1 : ¬ layOK π σ w := fun q => z (hw.mp q.1)
    rw [if_neg z, if_neg (fun y => z (hw.mp y)), if_neg n1, if_neg n1, if_neg n1, if_neg (fun q => z q.1), up_selfR]
    exact ⟨rfl, h⟩
theorem e_undo (h : allR τ π σ η α φ R I k μ r) : undoV η = unV μ ∧ allR τ π (undoA η σ (R ((nX η + 9) % 10))) (undoH η) α φ R I k (unF μ) r := by
  obtain ⟨h1, h2, h3, ⟨⟨⟨ek, hk⟩, ex, hx⟩, h10, hj⟩, h5, h6, h7⟩ := h
  have eu : uM μ = nK η := by unfold uM nK; rw [h10]
  have hz : η 1 0 = 0 ↔ nK η = 0 := by
    rw [ek]
    exact nI_eq (a := nK η) (b := 0) (by omega) (by omega)
  unfold undoV unV undoA undoH unF
  rw [eu]
  by_cases z : nK η = 0
  · rw [if_pos z, if_pos (hz.mpr z), if_pos (hz.mpr z), if_pos (hz.mpr z), if_pos z]
    exact ⟨rfl, h1, h2, h3, ⟨⟨⟨ek, hk⟩, ex, hx⟩, h10, hj⟩, h5, h6, h7⟩
  · have z' : ¬ η 1 0 = 0 := fun q => z (hz.mp q)
    have e1 : nI (nK η) - 1 = nI (nK η - 1) := pk_sub (a := nK η) (b := 1) (by omega)
    rw [if_neg z, if_neg z', if_neg z', if_neg z', if_neg z]
    have nk : nK (recF η) = nK η - 1 := by
      show (nI (nK η) - 1).toNatClampNeg = _
      rw [e1]
      exact nI_cl (by omega)
    have nx : nX (recF η) = (nX η + 9) % 10 := by
      show (nI ((nX η + 9) % 10)).toNatClampNeg = _
      exact nI_cl (by omega)
    refine ⟨e1, h1, h2, ?_, ⟨⟨⟨?_, ?_⟩, by rw [nx]; rfl, by rw [nx]; omega⟩, ?_, fun j hjn => ?_⟩, h5, h6, h7⟩
    · have := hj (nK η - 1) (by omega)
      rw [show (nX η + 10 - nK η + (nK η - 1)) % 10 = (nX η + 9) % 10 by omega] at this
      refine st_ext this (fun i hi => ?_)
      rw [va_up_self, if_pos hi]
    · rw [nk]
      exact e1
    · rw [nk]
      omega
    · exact e1
    · rw [nk] at hjn
      rw [nk, nx, show ((nX η + 9) % 10 + 10 - (nK η - 1) + j) % 10 = (nX η + 10 - nK η + j) % 10 by omega]
      exact hj j (by omega)
/-- images -/
theorem kept_put : ∀ b, b < 4 → ∀ i, i < 2 → ∀ j, j < 2 → ((((nI b ||| ((1 : Int32) <<< (nI i &&& 31))) >>> (nI j &&& 31)) &&& 1 = 1) ↔ ((nI b >>> (nI j &&& 31)) &&& 1 = 1 ∨ j = i)) := by decide +kernel
theorem kept_4 : ∀ b, b < 4 → ∀ i, i < 2 → nI b ||| ((1 : Int32) <<< (nI i &&& 31)) = nI (setB b i) ∧ setB b i < 4 := by decide +kernel
theorem e_keep (h : allR τ π σ η α φ R I k μ r) {i : Nat} (hi : i < 2) : σ 0 0 = mkeV μ (nI i) ∧ allR τ π σ η (putF α i) φ R (va_up I i σ) k (mkeF μ (nI i)) r := by
  have ei : (nI i).toNatClampNeg = i := nI_cl (by omega)
  have z : inB (nI i) 0 1 := (in_iff (n := 2) (by omega) (nI i)).mpr (ix_nI hi (by omega))
  obtain ⟨h1, h2, h3, h4, ⟨⟨b, hb, eb⟩, h5⟩, h6, h7⟩ := h
  unfold mkeV mkeF
  rw [if_pos z, if_pos z, ei]
  refine ⟨by obtain ⟨d, g1, g2, g3⟩ := h3; exact g3.1.1, h1, h2, h3, h4, ⟨⟨setB b i, (kept_4 b hb i hi).2, ?_⟩, fun j hj => ?_⟩, h6, h7⟩
  · show α 1 0 ||| ((1 : Int32) <<< (nI i &&& 31)) = _
    rw [eb]
    exact (kept_4 b hb i hi).1
  · have hk : keptB (putF α i) j ↔ keptB α j ∨ j = i := by
      show (((α 1 0 ||| ((1 : Int32) <<< (nI i &&& 31))) >>> (nI j &&& 31)) &&& 1 = 1) ↔ (((α 1 0 >>> (nI j &&& 31)) &&& 1 = 1) ∨ j = i)
      rw [eb]
      exact kept_put b hb i hi j hj
    have e17 : va_up μ 17 (kpR μ i 46) 17 = kpR μ i 46 := va_up_self _ _ _
    rw [hk, e17]
    by_cases e : j = i
    · subst e
      have e0 : kpR μ j 46 (47 * j) = 1 := by rw [kpR, if_neg (by omega), pk_us]
      refine ⟨⟨fun _ => by rw [e0]; decide, fun _ => Or.inr rfl⟩, fun _ => ?_⟩
      rw [va_up_self]
      refine st_ext h3 (fun i hi => ?_)
      rw [kpR, if_pos (by omega), show 47 * j + 1 + i - (47 * j + 1) = i by omega]
    · have e0 : ∀ i', i' < 47 → kpR μ i 46 (47 * j + i') = μ 17 (47 * j + i') := fun i' hi' => by rw [kpR, if_neg (by omega), pk_un (by omega)]
      have e00 := e0 0 (by omega)
      rw [Nat.add_zero] at e00
      rw [e00, va_up_ne _ _ e]
      refine ⟨⟨fun q => (h5 j hj).1.mp (q.resolve_right e), fun q => Or.inl ((h5 j hj).1.mpr q)⟩, fun q => st_ext ((h5 j hj).2 (q.resolve_right e)) (fun i' hi' => ?_)⟩
      have := e0 (1 + i') (by omega)
      rw [← Nat.add_assoc] at this
      exact this.symm
theorem e_back (h : allR τ π σ η α φ R I k μ r) {i : Nat} (hi : i < 2) : backV α (I i) i = mbaV μ (nI i) ∧ allR τ π (backA α σ (I i) i) (backH α η i) α φ R I k (mbaF μ (nI i)) r := by
  have ei : (nI i).toNatClampNeg = i := nI_cl (by omega)
  have z : inB (nI i) 0 1 := (in_iff (n := 2) (by omega) (nI i)).mpr (ix_nI hi (by omega))
  obtain ⟨h1, h2, h3, h4, h5, h6, h7⟩ := h
  have hk := (h5.2 i hi).1
  unfold backV mbaV backA backH mbaF
  rw [if_pos z, ei]
  by_cases y : keptB α i
  · have hs := (h5.2 i hi).2 y
    rw [if_pos y, if_pos y, if_pos y, if_neg (hk.mp y), if_pos ⟨z, hk.mp y⟩]
    refine ⟨?_, h1, h2, ?_, ⟨⟨⟨rfl, show (0 : Nat) ≤ 10 by omega⟩, h4.1.2⟩, rfl, fun j hj => absurd hj (Nat.not_lt_zero j)⟩, h5, h6, h7⟩
    · obtain ⟨d, g1, g2, g3⟩ := hs
      exact g3.1.1
    · refine st_ext hs (fun j hj => ?_)
      rw [va_up_ne _ _ (by decide), va_up_self, if_pos hj]
  · have y' : μ 17 (47 * i) = 0 := Decidable.byContradiction (fun q => y (hk.mpr q))
    rw [if_neg y, if_neg y, if_neg y, if_pos y', if_neg (fun q => q.2 y')]
    exact ⟨rfl, h1, h2, h3, h4, h5, h6, h7⟩
end DONE

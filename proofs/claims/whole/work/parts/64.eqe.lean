/-! ===== late first, letters, peace: the same ===== -/
def fstL (P : Nat → Bool) : Nat → Int32
  | 0 => -9
  | q + 1 => if fstL P q = -9 ∧ P q = true then nI q else fstL P q
theorem fst_stay {P : Nat → Bool} {a : Nat} (h : fstL P a ≠ -9) : ∀ m, fstL P (a + m) = fstL P a
  | 0 => rfl
  | m + 1 => by
    have ih := fst_stay h m
    show fstL P (a + m + 1) = _
    rw [fstL, if_neg (fun q => h (by rw [← ih]; exact q.1)), ih]
abbrev nlB (σ : wRec) (t : Int32) (j : Nat) : Bool := decide (σ 8 j ≠ -9 ∧ σ 0 0 - σ 7 j = t)
theorem fn_eq (σ : wRec) (t : Int32) : ∀ n q, q + n ≤ 6 → fstL (nlB σ t) q = -9 → fnL σ t n q = fstL (nlB σ t) (q + n)
  | 0, q, _, h => h.symm
  | n + 1, q, hn, h => by
    rw [fnL]
    by_cases z : σ 8 q ≠ -9 ∧ σ 0 0 - σ 7 q = t
    · have e : fstL (nlB σ t) (q + 1) = nI q := by rw [fstL, if_pos ⟨h, decide_eq_true z⟩]
      rw [if_pos z, show q + (n + 1) = q + 1 + n by omega, fst_stay (by rw [e]; exact nI_ne9 (by omega)) n, e]
    · have e : fstL (nlB σ t) (q + 1) = -9 := by rw [fstL, if_neg (fun k => z (of_decide_eq_true k.2)), h]
      rw [if_neg z, fn_eq σ t n (q + 1) (by omega) e, show q + 1 + n = q + (n + 1) by omega]
theorem nl_iff {π σ : wRec} (hp : pnW π) (ht : ∃ t, 1 ≤ t ∧ t ≤ 20 ∧ π 1 0 = nI t) {q : Nat} (hq : q < nQ σ) : (passF π σ 8 q ≠ -9 ∧ passF π σ 0 0 - passF π σ 7 q = π 1 0) ↔ (dyU π σ q 8 q ≠ -9 ∧ dyU π σ q 9 q ≠ 0 ∧ dyU π σ q 0 0 - dyU π σ q 7 q = π 1 0) := by
  have p8 : passF π σ 8 q = dayT π (dyU π σ q) q 8 q := ps_cell π σ (k := 3) (by omega) hq
  have p7 : passF π σ 7 q = dayT π (dyU π σ q) q 7 q := ps_cell π σ (k := 2) (by omega) hq
  have p0 : passF π σ 0 0 = dyU π σ q 0 0 := by rw [passF, dA_r π _ 0 (by omega), dyU, dA_r π _ 0 (by omega)]
  rw [p8, p7, p0]
  unfold dayT
  by_cases z : dyU π σ q 8 q = -9
  · rw [if_pos z]
    exact ⟨fun k => absurd z k.1, fun k => absurd z k.1⟩
  · rw [if_neg z]
    by_cases z2 : dyU π σ q 9 q = 0
    · rw [if_pos z2]
      refine ⟨fun k => ?_, fun k => absurd z2 k.2.1⟩
      have e7 : printF π (dyU π σ q) q (dyU π σ q 8 q) (onS π (dyU π σ q) q).toNatClampNeg 7 q = dyU π σ q 0 0 := by
        show upd (dyU π σ q 7) q (dyU π σ q 0 0) q = _
        rw [pk_us]
      have k2 := k.2
      rw [e7, Int32.sub_self] at k2
      obtain ⟨t, t1, t2, et⟩ := ht
      rw [et] at k2
      exact absurd k2.symm (nI_ne0 (by omega) (by omega))
    · rw [if_neg z2]
      split
      · exact ⟨fun k => ⟨k.1, z2, k.2⟩, fun k => ⟨k.1, k.2.2⟩⟩
      · exact ⟨fun k => ⟨k.1, z2, k.2⟩, fun k => ⟨k.1, k.2.2⟩⟩
theorem new_A {π σ μ : wRec} (hp : pgR π (μ 7)) (h : afR σ (μ 8)) (hw : wfA π σ) : ∀ q, q ≤ nQ σ → gyS μ q 11 0 = fstL (nlB (passF π σ) (π 1 0)) q
  | 0, _ => rfl
  | q + 1, hq => by
    have ih := new_A hp h hw q (by omega)
    have i1 := (gs_R hp h hw q (by omega)).1
    have e0 : nQ (tickF (workA σ (nW π))) = nQ σ := nQ_of (workA_row σ _ 2 (by decide))
    have e1 : nQ (dyU π σ q) = nQ σ := (nQ_of (dayA_2 π _ q)).trans e0
    have a2 : dyU π σ q 7 q = gyS μ q 8 (10 + 6 * q + 2) := i1.2.2 q 2 (by omega) (show q < nQ _ by rw [e1]; omega)
    have a3 : dyU π σ q 8 q = gyS μ q 8 (10 + 6 * q + 3) := i1.2.2 q 3 (by omega) (show q < nQ _ by rw [e1]; omega)
    have a4 : dyU π σ q 9 q = gyS μ q 8 (10 + 6 * q + 4) := i1.2.2 q 4 (by omega) (show q < nQ _ by rw [e1]; omega)
    have e7 : gyS μ q 7 = μ 7 := gyS_of μ (by decide) (by decide) q
    have hn := nl_iff (pg_W hp) hp.2.2.1 (σ := σ) (q := q) (by omega)
    rw [gyS, fstL, gyT, atV, atV, atV, atV, ← a2, ← a3, ← a4, e7, ← ih]
    by_cases z : dyU π σ q 8 q = -9
    · rw [if_pos z, if_neg (fun k => absurd z (hn.mp (of_decide_eq_true k.2)).1)]
    · rw [if_neg z]
      by_cases z2 : dyU π σ q 9 q = 0
      · rw [if_pos z2, prF_of _ _ _ _ (by decide), if_neg (fun k => absurd z2 (hn.mp (of_decide_eq_true k.2)).2.1)]
      · rw [if_neg z2]
        have hc : dyU π σ q 7 q + μ 7 1 = gyS μ q 8 0 ↔ dyU π σ q 0 0 - dyU π σ q 7 q = π 1 0 := by
          rw [← hp.1.2, ← i1.1.1]
          exact (sub_iff _ _ _).symm
        by_cases z3 : dyU π σ q 0 0 - dyU π σ q 7 q = π 1 0
        · rw [if_pos (hc.mpr z3), ltM, va_up_self]
          by_cases y : gyS μ q 11 0 = -9
          · rw [if_pos y, if_pos ⟨y, decide_eq_true (hn.mpr ⟨z, z2, z3⟩)⟩]
          · rw [if_neg y, if_neg (fun k => y k.1)]
        · rw [if_neg (fun k => z3 (hc.mp k)), if_neg (fun k => z3 (hn.mp (of_decide_eq_true k.2)).2.2)]
theorem new_eq {π σ μ : wRec} (hp : pgR π (μ 7)) (h : afR σ (μ 8)) (hw : wfA π σ) : gyS μ (qM μ) 11 0 = lfQ π (passF π σ) := by
  have n1 : nQ (passF π σ) = nQ σ := nQ_of (pass_2 π σ)
  have h6 := hw.1.2
  rw [af_n h, new_A hp h hw _ (Nat.le_refl _), lfQ, n1, fn_eq _ _ (nQ σ) 0 (by omega) rfl, Nat.zero_add]
theorem lf_eq {π σ μ : wRec} (hp : pgR π (μ 7)) (h : afR σ (μ 8)) (hw : wfA π σ) (x : Int32) : ∀ f m, gyN (lf0 μ) m 11 0 = -9 → lfL π x f (passI π σ m) (m + 1) = if gyN (lf0 μ) (lfN μ f m) 11 0 = -9 then -9 else if x = 0 then nI (lfN μ f m) else atV (gyN (lf0 μ) (lfN μ f m)) (gyN (lf0 μ) (lfN μ f m) 11 0).toNatClampNeg 3
  | 0, m, h0 => by rw [lfL, lfN, if_pos h0]
  | f + 1, m, h0 => by
    have e7 : lf0 μ 7 = μ 7 := by rw [lf0, va_up_ne _ _ (by decide), asF, va_up_ne _ _ (by decide)]
    have e8 : lf0 μ 8 = μ 8 := by rw [lf0, va_up_ne _ _ (by decide), asF, va_up_ne _ _ (by decide)]
    have hp0 : pgR π (lf0 μ 7) := by rw [e7]; exact hp
    have h00 : afR σ (lf0 μ 8) := by rw [e8]; exact h
    have em : afR (passI π σ m) (gyN (lf0 μ) m 8) := gN_R hp0 h00 hw m
    have pm : pgR π (gyN (lf0 μ) m 7) := pg_of hp0 (gyN_of (lf0 μ) (by decide) (by decide) m)
    have wm := passI_wf hp.2.1 hw m
    have ne : gyN (lf0 μ) (m + 1) 11 0 = lfQ π (passI π σ (m + 1)) := new_eq pm em wm
    have eN : lfN μ (f + 1) m = lfN μ f (m + 1) := by rw [lfN, if_pos h0]
    rw [lfL, eN]
    by_cases z : lfQ π (passF π (passI π σ m)) = -9
    · rw [if_pos z]
      exact lf_eq hp h hw x f (m + 1) (by rw [ne]; exact z)
    · have z' : ¬ gyN (lf0 μ) (m + 1) 11 0 = -9 := by rw [ne]; exact z
      have eF : lfN μ f (m + 1) = m + 1 := by
        cases f with
        | zero => rfl
        | succ f => rw [lfN, if_neg z']
      rw [if_neg z, eF, if_neg z']
      by_cases hx : x = 0
      · rw [if_pos hx, if_pos hx]
      · rw [if_neg hx, if_neg hx]
        have hi : ixOK (gyN (lf0 μ) (m + 1) 11 0) (qM (gyN (lf0 μ) m)) := (gyS_11 (gyN (lf0 μ) m) (qM (gyN (lf0 μ) m)) (by rw [af_n em]; exact wm.1.2)).resolve_left z'
        have e1 : afR (passI π σ (m + 1)) (gyN (lf0 μ) (m + 1) 8) := gN_R hp0 h00 hw (m + 1)
        have hl : (gyN (lf0 μ) (m + 1) 11 0).toNatClampNeg < nQ (passI π σ (m + 1)) := by
          have := hi.2
          rw [af_n em, nQ_of (passI_2 π σ m)] at this
          rw [nQ_of (passI_2 π σ (m + 1))]
          exact this
        have a3 : passI π σ (m + 1) 8 (gyN (lf0 μ) (m + 1) 11 0).toNatClampNeg = gyN (lf0 μ) (m + 1) 8 (10 + 6 * (gyN (lf0 μ) (m + 1) 11 0).toNatClampNeg + 3) := e1.2.2 _ 3 (by omega) hl
        rw [atV, ← a3, ne]
        rfl
theorem late_eq {π σ μ : wRec} (hp : pgR π (μ 7)) (h : afR σ (μ 8)) (hw : wfA π σ) (x : Int32) : lateFirstV π σ x = mlfV μ x := by
  have e := lf_eq hp h hw x 200 0 rfl
  have hb : (0 ≤ x ∧ x ≤ 1) ↔ inB x 0 1 := Iff.rfl
  rw [lateFirstV, mlfV]
  by_cases z : 0 ≤ x ∧ x ≤ 1
  · rw [if_pos z, if_pos z]
    exact e
  · rw [if_neg z, if_neg z]
/-- letters -/
theorem ml_S {π μ : wRec} (hp : pgR π (μ 7)) {w x laid : Int32} (hw : ixOK w (nW π)) (hx : ixOK x 5) : ∀ k, (∀ j, j < k → crX π laid w x.toNatClampNeg j ≠ -9) → mlS μ w x laid k = ((crA π laid w x.toNatClampNeg k).1, nI (crA π laid w x.toNatClampNeg k).2)
  | 0, _ => by rw [mlS, crA, ← hx.1]
  | k + 1, h => by
    have ih := ml_S hp hw hx k (fun j hj => h j (by omega))
    have ok := cr_ok hp.2.1 hw hx.2 k (fun j hj => h j (by omega))
    have hk := h k (by omega)
    have ec : (nI (crA π laid w x.toNatClampNeg k).2).toNatClampNeg = (crA π laid w x.toNatClampNeg k).2 := nI_cl (by have := ok.2; omega)
    have em : mnF μ (mlS μ w x laid k).1 (mlS μ w x laid k).2.toNatClampNeg laid = crX π laid w x.toNatClampNeg k := by
      rw [ih, ec]
      exact mn_eq hp _ ok.2 _
    have ho : ixOK (crX π laid w x.toNatClampNeg k) (nW π) := (answer_ok hp.2.1 (crA π laid w x.toNatClampNeg k).1 (crA π laid w x.toNatClampNeg k).2 laid).resolve_left hk
    rw [mlS, em, ih]
    refine Prod.ext rfl ?_
    show anM μ (crX π laid w x.toNatClampNeg k).toNatClampNeg (nI (crA π laid w x.toNatClampNeg k).2) = nI (crS π laid (crA π laid w x.toNatClampNeg k)).2
    rw [an_eq hp ho.2 (ix_nI ok.2 (by omega)), ec]
    exact (crS_ok hp.2.1 ok.2 hk).1
theorem ml_M {π μ : wRec} (hp : pgR π (μ 7)) {w x laid : Int32} (hw : ixOK w (nW π)) (hx : ixOK x 5) {k : Nat} (h : ∀ j, j < k → crX π laid w x.toNatClampNeg j ≠ -9) : mlM μ w x laid k = crX π laid w x.toNatClampNeg k := by
  have ok := cr_ok hp.2.1 hw hx.2 k h
  rw [mlM, ml_S hp hw hx k h]
  show mnF μ (crA π laid w x.toNatClampNeg k).1 (nI (crA π laid w x.toNatClampNeg k).2).toNatClampNeg laid = _
  rw [nI_cl (by have := ok.2; omega)]
  exact mn_eq hp _ ok.2 _
theorem mlN_all {μ : wRec} {w x laid : Int32} (h : ∀ k, mlM μ w x laid k ≠ -9) : ∀ f i, mlN μ w x laid f i = i + f
  | 0, i => rfl
  | f + 1, i => by rw [mlN, if_neg (h i), mlN_all h f (i + 1)]; omega
theorem mlN_at {μ : wRec} {w x laid : Int32} {k : Nat} (hk : mlM μ w x laid k = -9) (h : ∀ j, j < k → mlM μ w x laid j ≠ -9) : ∀ f i, i ≤ k → k < i + f → mlN μ w x laid f i = k
  | 0, i, h1, h2 => by omega
  | f + 1, i, h1, h2 => by
    rw [mlN]
    by_cases e : i = k
    · subst e
      rw [if_pos hk]
    · rw [if_neg (h i (by omega))]
      exact mlN_at hk h f (i + 1) (by omega) (by omega)
theorem let_eq {π μ : wRec} (hp : pgR π (μ 7)) {w x laid : Int32} (hw : ixOK w (nW π)) (hx : ixOK x 5) : (mlV μ w x laid = -9 ∧ crF π laid w x.toNatClampNeg 30 0 = (-9, -9)) ∨ (mlV μ w x laid ≠ -9 ∧ mlV μ w x laid = (crF π laid w x.toNatClampNeg 30 0).1 ∧ mlF μ w x laid 13 0 = (crF π laid w x.toNatClampNeg 30 0).2) := by
  rcases crF_sp π laid w x.toNatClampNeg 30 0 with ⟨h1, h2⟩ | ⟨k, h1, h2, h3, h4, h5⟩
  · have hr := cr_round hp.2.1 (laid := laid) hw hx.2 (fun k hk => h2 k (by omega) (by omega))
    have hN := mlN_all (μ := μ) (w := w) (x := x) (laid := laid) (fun k => by rw [ml_M hp hw hx (fun j _ => hr j)]; exact hr k) 31 0
    refine Or.inl ⟨?_, h1⟩
    rw [mlV, hN]
    rfl
  · have hN := mlN_at (μ := μ) (w := w) (x := x) (laid := laid) (k := k) (by rw [ml_M hp hw hx (fun j hj => h4 j (by omega) hj)]; exact h3) (fun j hj => by rw [ml_M hp hw hx (fun i hi => h4 i (by omega) (by omega))]; exact h4 j (by omega) hj) 31 0 (by omega) (by omega)
    have eV : mlV μ w x laid = nI (k + 1) := by rw [mlV, hN, if_neg (by omega)]
    refine Or.inr ⟨by rw [eV]; exact nI_ne9 (by omega), by rw [eV, h5], ?_⟩
    rw [mlF, hN, if_neg (by omega), mlR, va_up_self, ml_S hp hw hx k (fun j hj => h4 j (by omega) hj), h5]
theorem hl_eq {π μ : wRec} (hp : pgR π (μ 7)) {w x laid : Int32} (hw : ixOK w (nW π)) (hx : ixOK x 5) : hlwB π laid w x.toNatClampNeg ↔ (¬ mlV μ w x laid = -9 ∧ mlF μ w x laid 13 0 = w) := by
  rcases let_eq hp (laid := laid) hw hx with ⟨h1, h2⟩ | ⟨h1, h2, h3⟩
  · rw [hlwB, h2]
    exact ⟨fun k => absurd k.symm (ix_ne9 hw (by have := hp.2.1.2.1; omega)), fun k => absurd h1 k.1⟩
  · rw [hlwB, h3]
    exact ⟨fun k => ⟨h1, k⟩, fun k => k.2⟩

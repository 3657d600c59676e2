/-! ===== a day: what stands, how a quarrel goes on ===== -/
theorem la_cell (τ : wRec) {q j k : Nat} (hk : k < 6) (h : j ≠ q) : lateF τ q (5 + k) j = τ (5 + k) j := by
  rcases (show k = 0 ∨ k = 1 ∨ k = 2 ∨ k = 3 ∨ k = 4 ∨ k = 5 by omega) with rfl | rfl | rfl | rfl | rfl | rfl
  · rfl
  · rfl
  · rfl
  · rfl
  · rfl
  · exact pk_un h
theorem dT_cell (π τ : wRec) {q j k : Nat} (hk : k < 6) (h : j ≠ q) : dayT π τ q (5 + k) j = τ (5 + k) j := by
  unfold dayT
  split
  · rfl
  · split
    · exact pr_cell π τ _ _ hk h
    · split
      · exact la_cell τ hk h
      · rfl
theorem dT_r (π τ : wRec) (q r : Nat) (hr : r = 0 ∨ r = 2 ∨ r = 3) : dayT π τ q r = τ r := by
  rcases hr with rfl | rfl | rfl
  · unfold dayT
    split
    · rfl
    · split
      · rfl
      · split <;> rfl
  · exact dayT_2 π τ q
  · unfold dayT
    split
    · rfl
    · split
      · rfl
      · split <;> rfl
theorem dA_r (π τ : wRec) (r : Nat) (hr : r = 0 ∨ r = 2 ∨ r = 3) : ∀ i, dayA π τ i r = τ r
  | 0 => rfl
  | i + 1 => by rw [dayA, dT_r π _ i r hr, dA_r π τ r hr i]
theorem dA_lo (π τ : wRec) {q k : Nat} (hk : k < 6) : ∀ i, i ≤ q → dayA π τ i (5 + k) q = τ (5 + k) q
  | 0, _ => rfl
  | i + 1, h => by rw [dayA, dT_cell π _ hk (by omega), dA_lo π τ hk i (by omega)]
theorem dA_hi (π τ : wRec) {q k : Nat} (hk : k < 6) : ∀ i, q < i → dayA π τ i (5 + k) q = dayT π (dayA π τ q) q (5 + k) q
  | 0, h => absurd h (Nat.not_lt_zero q)
  | i + 1, h => by
    by_cases e : q = i
    · subst e
      rfl
    · rw [dayA, dT_cell π _ hk (by omega), dA_hi π τ hk i (by omega)]
theorem od_owes (ow pd : Nat → Int32) (w : Int32) : ∀ n, n ≤ 6 → odL ow pd w n ≠ -9 → ow (odL ow pd w n).toNatClampNeg = w
  | 0, _, h => absurd rfl h
  | n + 1, hn, h => by
    rw [odL] at h ⊢
    by_cases z : ow n = w ∧ (odL ow pd w n = -9 ∨ pd n < pd (odL ow pd w n).toNatClampNeg)
    · rw [if_pos z, nI_cl (by omega)]
      exact z.1
    · rw [if_neg z] at h ⊢
      exact od_owes ow pd w n (by omega) h
theorem wA_9 {σ : wRec} (h6 : nQ σ ≤ 6) (q : Nat) : ∀ i, i ≤ 6 → workA σ i 9 q = σ 9 q ∨ ((∃ w, w < i ∧ σ 8 q = nI w) ∧ workA σ i 9 q = σ 9 q - 1)
  | 0, _ => Or.inl rfl
  | i + 1, hi => by
    have ih := wA_9 h6 q i (by omega)
    have up : workA σ i 9 q = σ 9 q ∨ ((∃ w, w < i + 1 ∧ σ 8 q = nI w) ∧ workA σ i 9 q = σ 9 q - 1) := ih.imp id (fun ⟨⟨w, h1, h2⟩, h3⟩ => ⟨⟨w, by omega, h2⟩, h3⟩)
    have n1 : nQ (workA σ i) = nQ σ := nQ_of (workA_row σ i 2 (by decide))
    rw [workA, workS]
    by_cases z : workQ (workA σ i) i = -9
    · rw [if_pos z]
      exact up
    · rw [if_neg z, va_up_self]
      by_cases e : q = (workQ (workA σ i) i).toNatClampNeg
      · have ho : workA σ i 8 (workQ (workA σ i) i).toNatClampNeg = nI i := od_owes _ _ _ _ (by rw [n1]; exact h6) z
        rw [← e, workA_row σ i 8 (by decide)] at ho
        rw [← e, pk_us]
        rcases ih with h | ⟨⟨w, h1, h2⟩, -⟩
        · rw [h]
          exact Or.inr ⟨⟨i, by omega, ho⟩, rfl⟩
        · rw [h2] at ho
          have := (nI_eq (a := w) (b := i) (by omega) (by omega)).mp ho
          omega
      · rw [pk_un e]
        exact up
theorem quW_5 {π σ τ : wRec} {d d' q : Nat} (h : quW π σ d q) (hd : d ≤ d') (e : ∀ k, k < 5 → τ (5 + k) q = σ (5 + k) q) (e3 : τ 3 0 = σ 3 0) : quW π τ d' q := by
  have e0 : τ 5 q = σ 5 q := e 0 (by omega)
  have e1 : τ 6 q = σ 6 q := e 1 (by omega)
  have e2 : τ 7 q = σ 7 q := e 2 (by omega)
  have e4 : τ 8 q = σ 8 q := e 3 (by omega)
  have e5 : τ 9 q = σ 9 q := e 4 (by omega)
  unfold quW
  rw [e0, e1, e2, e4, e5, e3]
  obtain ⟨h1, h2, h3, ⟨p, hp, h4⟩, h5⟩ := h
  exact ⟨h1, h2, h3, ⟨p, by omega, h4⟩, h5⟩
theorem la_cell5 (τ : wRec) {q j k : Nat} (hk : k < 5) : lateF τ q (5 + k) j = τ (5 + k) j := by
  rcases (show k = 0 ∨ k = 1 ∨ k = 2 ∨ k = 3 ∨ k = 4 by omega) with rfl | rfl | rfl | rfl | rfl <;> rfl
abbrev uQ (σ : wRec) (q : Nat) : Int32 × Nat := (σ 5 q, (σ 6 q).toNatClampNeg)
/-- the state in which quarrel q is looked at, on a day -/
abbrev dyU (π σ : wRec) (q : Nat) : wRec := dayA π (tickF (workA σ (nW π))) q
theorem dy_cell (π σ : wRec) {q k : Nat} (hk : k < 6) (h4 : k ≠ 4) : dyU π σ q (5 + k) q = σ (5 + k) q := by
  rw [dyU, dA_lo π _ hk q (Nat.le_refl _), tickF, va_up_ne _ _ (by omega), workA_row σ _ _ (by omega)]
theorem dy_9 (π σ : wRec) (q : Nat) : dyU π σ q 9 q = workA σ (nW π) 9 q := dA_lo π (tickF (workA σ (nW π))) (k := 4) (by omega) q (Nat.le_refl _)
theorem dy_3 (π σ : wRec) (q : Nat) : dyU π σ q 3 = σ 3 := by
  rw [dyU, dA_r π _ 3 (by omega), tickF, va_up_ne _ _ (by omega), workA_row σ _ _ (by omega)]
theorem dy_0 {π σ : wRec} {d : Nat} (h : σ 0 0 = nI d) (q : Nat) : dyU π σ q 0 0 = nI (d + 1) := by
  rw [dyU, dA_r π _ 0 (by omega), tickF, va_up_self, workA_row σ _ _ (by omega), h, nI_succ]
theorem ps_cell (π σ : wRec) {q k : Nat} (hk : k < 6) (hq : q < nQ σ) : passF π σ (5 + k) q = dayT π (dyU π σ q) q (5 + k) q := dA_hi π _ hk _ hq
theorem ps_r (π σ : wRec) (r : Nat) (hr : r = 2 ∨ r = 3) : passF π σ r = σ r := by
  rw [passF, dA_r π _ r (by omega), tickF, va_up_ne _ _ (by omega), workA_row σ _ _ (by omega)]
theorem pass_q {π σ : wRec} (hp : pnW π) {d : Nat} (h : afW π σ d) {q : Nat} (hq : q < nQ σ) : quW π (passF π σ) (d + 1) q ∧ (uQ (passF π σ) q = uQ σ q ∨ (σ 8 q ≠ -9 ∧ uQ (passF π σ) q = crS π (σ 3 0) (uQ σ q))) := by
  have g := h.2.2.2 q hq
  have h6 := h.1.2
  have w6 := hp.1.2.1
  have c0 : dyU π σ q 5 q = σ 5 q := dy_cell π σ (k := 0) (by omega) (by omega)
  have c1 : dyU π σ q 6 q = σ 6 q := dy_cell π σ (k := 1) (by omega) (by omega)
  have c3 : dyU π σ q 8 q = σ 8 q := dy_cell π σ (k := 3) (by omega) (by omega)
  have c9 := dy_9 π σ q
  have hA := afW_A hp.1 h
  have e0 : nQ (tickF (workA σ (nW π))) = nQ σ := nQ_of (workA_row σ _ 2 (by decide))
  have e1 : nQ (dyU π σ q) = nQ σ := (nQ_of (dayA_2 π _ q)).trans e0
  have wf1 : wfA π (dyU π σ q) := dayA_wf hp.1 (tick_wf (workA_wf hA (nW π))) q (by rw [e0]; omega)
  have p3 : passF π σ 3 0 = dayT π (dyU π σ q) q 3 0 := by
    rw [ps_r π σ 3 (by omega), dT_r π _ q 3 (by omega), dy_3]
  have p5 : passF π σ 5 q = dayT π (dyU π σ q) q 5 q := ps_cell π σ (k := 0) (by omega) hq
  have p6 : passF π σ 6 q = dayT π (dyU π σ q) q 6 q := ps_cell π σ (k := 1) (by omega) hq
  suffices hs : quW π (dayT π (dyU π σ q) q) (d + 1) q ∧ (uQ (dayT π (dyU π σ q) q) q = uQ σ q ∨ (σ 8 q ≠ -9 ∧ uQ (dayT π (dyU π σ q) q) q = crS π (σ 3 0) (uQ σ q))) by
    refine ⟨quW_5 hs.1 (Nat.le_refl _) (fun k hk => ps_cell π σ (by omega) hq) p3, ?_⟩
    rw [uQ, p5, p6]
    exact hs.2
  have w9 := wA_9 h6 q (nW π) w6
  have ue : uQ (dyU π σ q) q = uQ σ q := by rw [uQ, c0, c1]
  unfold dayT
  by_cases z : dyU π σ q 8 q = -9
  · rw [if_pos z]
    refine ⟨quW_5 g (by omega) (fun k hk => ?_) (by rw [dy_3]), Or.inl ue⟩
    by_cases k4 : k = 4
    · subst k4
      show dyU π σ q 9 q = σ 9 q
      rw [c9]
      rcases w9 with e | ⟨⟨w, hw, e⟩, -⟩
      · exact e
      · rw [c3, e] at z
        exact absurd z (nI_ne9 (by omega))
    · exact dy_cell π σ (by omega) k4
  · rw [if_neg z]
    by_cases z2 : dyU π σ q 9 q = 0
    · rw [if_pos z2]
      have ho := ((wf1.2 q (by rw [e1]; exact hq)).2).resolve_left z
      have hon := onS_ok hp.1 wf1 (by rw [e1]; exact hq) z
      refine ⟨pr_W hp ho hon.2 (dy_0 h.2.1 q), Or.inr ⟨by rw [← c3]; exact z, ?_⟩⟩
      have u5 : printF π (dyU π σ q) q (dyU π σ q 8 q) (onS π (dyU π σ q) q).toNatClampNeg 5 q = dyU π σ q 8 q := by
        show upd (dyU π σ q 5) q (dyU π σ q 8 q) q = _
        rw [pk_us]
      have u6 : printF π (dyU π σ q) q (dyU π σ q 8 q) (onS π (dyU π σ q) q).toNatClampNeg 6 q = nI (onS π (dyU π σ q) q).toNatClampNeg := by
        show upd (dyU π σ q 6) q _ q = _
        rw [pk_us]
      rw [uQ, u5, u6, nI_cl (by have := hon.2; omega), onS, c1, c3, crS, uQ, ← g.2.2.1]
    · rw [if_neg z2]
      have gz : quW π (dyU π σ q) (d + 1) q := by
        obtain ⟨g1, g2, g3, ⟨p, hpd, g4⟩, g5⟩ := g
        have c2 : dyU π σ q 7 q = σ 7 q := dy_cell π σ (k := 2) (by omega) (by omega)
        refine ⟨by rw [c0]; exact g1, by rw [c1]; exact g2, by rw [c3, c0, c1, dy_3]; exact g3, ⟨p, by omega, by rw [c2]; exact g4⟩, ?_⟩
        rw [c3] at z ⊢
        refine Or.inr ⟨z, ?_⟩
        rcases g5 with ⟨e, -⟩ | ⟨-, k, k1, k2, e⟩
        · exact absurd e z
        · rcases w9 with e' | ⟨-, e'⟩
          · exact ⟨k, k1, k2, by rw [c9, e', e]⟩
          · refine ⟨k - 1, ?_, by omega, ?_⟩
            · have hk0 : k ≠ 1 := fun k0 => z2 (by rw [c9, e', e, k0]; rfl)
              omega
            · rw [c9, e', e]
              exact pk_sub (a := k) (b := 1) k1
      split
      · exact ⟨quW_5 gz (Nat.le_refl _) (fun k hk => la_cell5 _ hk) rfl, Or.inl ue⟩
      · exact ⟨gz, Or.inl ue⟩
theorem pass_W {π σ : wRec} (hp : pnW π) {d : Nat} (h : afW π σ d) : afW π (passF π σ) (d + 1) := by
  have n1 : nQ (passF π σ) = nQ σ := nQ_of (pass_2 π σ)
  refine ⟨?_, ?_, ?_, fun q hq => (pass_q hp h (by rw [n1] at hq; exact hq)).1⟩
  · unfold wfQ
    rw [n1, pass_2]
    exact h.1
  · exact dy_0 h.2.1 (nQ σ)
  · rw [ps_r π σ 3 (by omega)]
    exact h.2.2.1
theorem pI_W {π σ : wRec} (hp : pnW π) {d : Nat} (h : afW π σ d) : ∀ n, afW π (passI π σ n) (d + n) ∧ passI π σ n 3 = σ 3
  | 0 => ⟨h, rfl⟩
  | n + 1 => by
    have ih := pI_W hp h n
    exact ⟨pass_W hp ih.1, by rw [passI, ps_r π _ 3 (by omega), ih.2]⟩
theorem pI_u {π σ : wRec} (hp : pnW π) {d : Nat} (h : afW π σ d) {q : Nat} (hq : q < nQ σ) : ∀ n, ∃ k, uQ (passI π σ n) q = crA π (σ 3 0) (σ 5 q) (σ 6 q).toNatClampNeg k
  | 0 => ⟨0, rfl⟩
  | n + 1 => by
    obtain ⟨k, ek⟩ := pI_u hp h hq n
    have ih := pI_W hp h n
    have n1 : nQ (passI π σ n) = nQ σ := nQ_of (passI_2 π σ n)
    rcases (pass_q hp ih.1 (q := q) (by rw [n1]; exact hq)).2 with e | ⟨-, e⟩
    · exact ⟨k, by rw [passI, e, ek]⟩
    · exact ⟨k + 1, by rw [passI, e, ek, ih.2]; rfl⟩
/-- pigeons -/
theorem php : ∀ (n : Nat) (f : Nat → Nat), (∀ i, i ≤ n → f i < n) → ∃ i j, i < j ∧ j ≤ n ∧ f i = f j
  | 0, f, h => absurd (h 0 (Nat.le_refl _)) (Nat.not_lt_zero _)
  | n + 1, f, h => by
    by_cases z : ∃ i, i ≤ n ∧ f i = f (n + 1)
    · obtain ⟨i, hi, e⟩ := z
      exact ⟨i, n + 1, by omega, Nat.le_refl _, e⟩
    · have hm := h (n + 1) (Nat.le_refl _)
      have hg : ∀ i, i ≤ n → (if f i < f (n + 1) then f i else f i - 1) < n := fun i hi => by
        have h1 := h i (by omega)
        have h2 : f i ≠ f (n + 1) := fun e => z ⟨i, hi, e⟩
        split <;> omega
      obtain ⟨i, j, hij, hj, e⟩ := php n (fun i => if f i < f (n + 1) then f i else f i - 1) hg
      refine ⟨i, j, hij, by omega, ?_⟩
      have h1 : f i ≠ f (n + 1) := fun e => z ⟨i, by omega, e⟩
      have h2 : f j ≠ f (n + 1) := fun e => z ⟨j, hj, e⟩
      have e' : (if f i < f (n + 1) then f i else f i - 1) = if f j < f (n + 1) then f j else f j - 1 := e
      split at e' <;> split at e' <;> omega
theorem cr_per {π : wRec} {laid w : Int32} {s i j : Nat} (h : crA π laid w s i = crA π laid w s j) : ∀ t, crA π laid w s (i + t) = crA π laid w s (j + t)
  | 0 => h
  | t + 1 => by
    show crS π laid (crA π laid w s (i + t)) = crS π laid (crA π laid w s (j + t))
    rw [cr_per h t]
theorem cr_ok {π : wRec} (hp : wfP π) {laid w : Int32} {s : Nat} (hw : ixOK w (nW π)) (hs : s < 5) : ∀ K, (∀ j, j < K → crX π laid w s j ≠ -9) → ixOK (crA π laid w s K).1 (nW π) ∧ (crA π laid w s K).2 < 5
  | 0, _ => ⟨hw, hs⟩
  | K + 1, h => by
    have ih := cr_ok hp hw hs K (fun j hj => h j (by omega))
    have hx := h K (by omega)
    have h1 := (answer_ok hp (crA π laid w s K).1 (crA π laid w s K).2 laid).resolve_left hx
    have h2 := crS_ok hp (laid := laid) (w := (crA π laid w s K).1) ih.2 hx
    exact ⟨h1, h2.2⟩
theorem cr_round {π : wRec} (hp : wfP π) {laid w : Int32} {s : Nat} (hw : ixOK w (nW π)) (hs : s < 5) (h : ∀ k, k < 30 → crX π laid w s k ≠ -9) (K : Nat) : crX π laid w s K ≠ -9 := by
  induction K using Nat.strongRecOn with
  | ind K ih =>
    by_cases z : K < 30
    · exact h K z
    · have hf : ∀ i, i ≤ 30 → 5 * (crA π laid w s i).1.toNatClampNeg + (crA π laid w s i).2 < 30 := fun i hi => by
        have h1 := cr_ok hp hw hs i (fun j hj => ih j (by omega))
        have h2 := h1.1.2
        have h3 := h1.2
        have h4 := hp.2.1
        omega
      obtain ⟨i, j, hij, hj, e⟩ := php 30 (fun i => 5 * (crA π laid w s i).1.toNatClampNeg + (crA π laid w s i).2) hf
      have hi1 := cr_ok hp hw hs i (fun j hj => ih j (by omega))
      have hj1 := cr_ok hp hw hs j (fun j hj => ih j (by omega))
      have e' : 5 * (crA π laid w s i).1.toNatClampNeg + (crA π laid w s i).2 = 5 * (crA π laid w s j).1.toNatClampNeg + (crA π laid w s j).2 := e
      have hi2 := hi1.2
      have hj2 := hj1.2
      have ea : crA π laid w s i = crA π laid w s j := by
        refine Prod.ext ?_ (by omega)
        rw [hi1.1.1, hj1.1.1, show (crA π laid w s i).1.toNatClampNeg = (crA π laid w s j).1.toNatClampNeg by omega]
      have hper := cr_per ea (K - j)
      rw [show j + (K - j) = K by omega] at hper
      have hlt := ih (i + (K - j)) (by omega)
      unfold crX at hlt ⊢
      rw [hper] at hlt
      exact hlt
theorem crF_sp (π : wRec) (laid w : Int32) (s : Nat) : ∀ f n, (crF π laid w s f n = (-9, -9) ∧ ∀ k, n ≤ k → k < n + f → crX π laid w s k ≠ -9) ∨ ∃ k, n ≤ k ∧ k < n + f ∧ crX π laid w s k = -9 ∧ (∀ j, n ≤ j → j < k → crX π laid w s j ≠ -9) ∧ crF π laid w s f n = (nI (k + 1), (crA π laid w s k).1)
  | 0, n => Or.inl ⟨rfl, fun k h1 h2 => by omega⟩
  | f + 1, n => by
    rw [crF]
    by_cases z : crX π laid w s n = -9
    · rw [if_pos z]
      exact Or.inr ⟨n, Nat.le_refl _, by omega, z, fun j h1 h2 => by omega, rfl⟩
    · rw [if_neg z]
      rcases crF_sp π laid w s f (n + 1) with ⟨h1, h2⟩ | ⟨k, h1, h2, h3, h4, h5⟩
      · refine Or.inl ⟨h1, fun k hk hk2 => ?_⟩
        by_cases e : k = n
        · subst e
          exact z
        · exact h2 k (by omega) (by omega)
      · refine Or.inr ⟨k, by omega, by omega, h3, fun j hj hj2 => ?_, h5⟩
        by_cases e : j = n
        · subst e
          exact z
        · exact h4 j (by omega) hj2
/-- ends -/
theorem dc_eq {π σ μ : wRec} (hp : pgR π (μ 7)) (h : afR σ (μ 8)) (hw : wfA π σ) {q : Nat} (hq : q < nQ σ) : ∀ f n, dcL π q (f + 1) (passI π σ n) n = if atV (gyN μ (clN μ q f n)) q 3 = -9 then nI (clN μ q f n) else -9
  | 0, n => by
    have a3 : passI π σ n 8 q = gyN μ n 8 (10 + 6 * q + 3) := (gN_R hp h hw n).2.2 q 3 (by omega) (show q < nQ _ by rw [nQ_of (passI_2 π σ n)]; exact hq)
    rw [dcL, clN, atV, ← a3]
    rfl
  | f + 1, n => by
    have a3 : passI π σ n 8 q = gyN μ n 8 (10 + 6 * q + 3) := (gN_R hp h hw n).2.2 q 3 (by omega) (show q < nQ _ by rw [nQ_of (passI_2 π σ n)]; exact hq)
    rw [dcL]
    by_cases z : passI π σ n 8 q = -9
    · have ec : clN μ q (f + 1) n = n := by rw [clN, atV, ← a3, if_pos z]
      rw [if_pos z, ec, atV, ← a3, if_pos z]
    · have ec : clN μ q (f + 1) n = clN μ q f (n + 1) := by rw [clN, atV, ← a3, if_neg z]
      rw [if_neg z, ec]
      exact dc_eq hp h hw hq f (n + 1)
theorem ends_eq {π σ μ : wRec} {d : Nat} (hp : pgR π (μ 7)) (h : afR σ (μ 8)) (hw : afW π σ d) {q : Nat} (hq : q < nQ σ) : dtcV π σ q = clV μ q := by
  have hA := afW_A hp.2.1 hw
  have e := dc_eq hp h hA hq 400 0
  have e' : dcL π q 401 σ 0 = clV μ q := e
  rw [dtcV]
  by_cases z : (crU π σ q).1 = -9
  · rw [if_pos z]
    rcases crF_sp π (σ 3 0) (σ 5 q) (σ 6 q).toNatClampNeg 30 0 with ⟨h1, h2⟩ | ⟨k, h1, h2, h3, h4, h5⟩
    · have g := hw.2.2.2 q hq
      have hr := cr_round hp.2.1 (laid := σ 3 0) g.1 g.2.1.2 (fun k hk => h2 k (by omega) (by omega))
      have hn : ∀ n, passI π σ n 8 q ≠ -9 := fun n => by
        obtain ⟨k, ek⟩ := pI_u (pg_W hp) hw hq n
        have gn := (pI_W (pg_W hp) hw n).1.2.2.2 q (by rw [nQ_of (passI_2 π σ n)]; exact hq)
        rw [gn.2.2.1, (pI_W (pg_W hp) hw n).2]
        have := hr k
        rw [crX, ← ek] at this
        exact this
      rw [clV, if_neg]
      have a3 : passI π σ (clN μ q 400 0) 8 q = gyN μ (clN μ q 400 0) 8 (10 + 6 * q + 3) := (gN_R hp h hA _).2.2 q 3 (by omega) (show q < nQ _ by rw [nQ_of (passI_2 π σ _)]; exact hq)
      rw [atV, ← a3]
      exact hn _
    · rw [crU, h5] at z
      exact absurd z (nI_ne9 (by omega))
  · rw [if_neg z]
    exact e'

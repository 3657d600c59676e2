/-! ===== the two sides: what is the same of both ===== -/
def pgR (π : wRec) (f : Nat → Int32) : Prop := (π 0 0 = f 0 ∧ π 1 0 = f 1) ∧ wfP π ∧ (∃ t, 1 ≤ t ∧ t ≤ 20 ∧ π 1 0 = nI t) ∧ ∀ w, w < nW π → (π 2 w = f (3 + 7 * w) ∧ π 3 w = f (3 + 7 * w + 1)) ∧ (∃ p, 1 ≤ p ∧ p ≤ 9 ∧ π 2 w = nI p) ∧ ∀ s, s < 5 → π (5 + w) s = f (3 + 7 * w + 2 + s)
def afG (P : Nat → Nat → Prop) (σ : wRec) (f : Nat → Int32) : Prop := (σ 0 0 = f 0 ∧ σ 2 0 = f 1 ∧ σ 3 0 = f 2 ∧ σ 1 0 = f 3) ∧ (∀ w, w < 6 → σ 4 w = f (4 + w)) ∧ ∀ q k, k < 6 → P q k → σ (5 + k) q = f (10 + 6 * q + k)
def afR (σ : wRec) (f : Nat → Int32) : Prop := afG (fun q _ => q < nQ σ) σ f
theorem pg_n {π μ : wRec} (h : pgR π (μ 7)) : nM μ = nW π := by unfold nM nW; rw [h.1.1]
theorem af_n {P : Nat → Nat → Prop} {σ μ : wRec} (h : afG P σ (μ 8)) : qM μ = nQ σ := by unfold qM nQ; rw [h.1.2.1]
theorem mn_eqL {π μ : wRec} (h : pgR π (μ 7)) (w : Int32) {s : Nat} (hs : s < 5) (laid : Int32) : ∀ x, x ≤ nW π → mnL μ w s laid x = (ansL π w s laid x).1 ∧ ((ansL π w s laid x).1 = -9 → (ansL π w s laid x).2 = 0) ∧ ((ansL π w s laid x).1 ≠ -9 → (ansL π w s laid x).2 = nrM μ (ansL π w s laid x).1.toNatClampNeg s ∧ 0 < (ansL π w s laid x).2)
  | 0, _ => ⟨rfl, fun _ => rfl, fun h => absurd rfl h⟩
  | x + 1, hx => by
    obtain ⟨i1, i2, i3⟩ := mn_eqL h w hs laid x (by omega)
    have h6 := h.2.1.2.1
    have hn : π (5 + x) s = nrM μ x s := (h.2.2.2 x (by omega)).2.2 s hs
    have hc : ((((nI x ≠ w ∧ (laid >>> (nI x &&& 31)) &&& 1 = 0) ∧ 0 < nrM μ x s) ∧ (mnL μ w s laid x = -9 ∨ nrM μ (mnL μ w s laid x).toNatClampNeg s < nrM μ x s)) ↔ ((nI x ≠ w ∧ (laid >>> (nI x &&& 31)) &&& 1 = 0) ∧ (ansL π w s laid x).2 < π (5 + x) s)) := by
      rw [i1, hn]
      by_cases e : (ansL π w s laid x).1 = -9
      · rw [i2 e]
        exact ⟨fun q => q.1, fun q => ⟨q, Or.inl e⟩⟩
      · obtain ⟨j1, j2⟩ := i3 e
        rw [← j1]
        exact ⟨fun q => ⟨q.1.1, q.2.elim (fun z => absurd z e) id⟩, fun q => ⟨⟨q.1, Int32.lt_trans j2 q.2⟩, Or.inr q.2⟩⟩
    rw [mnL, ansL]
    by_cases hb : (nI x ≠ w ∧ (laid >>> (nI x &&& 31)) &&& 1 = 0) ∧ (ansL π w s laid x).2 < π (5 + x) s
    · rw [if_pos (hc.mpr hb), if_pos hb]
      have ec : (nI x).toNatClampNeg = x := nI_cl (by omega)
      refine ⟨rfl, fun e => absurd e (nI_ne9 (by omega)), fun _ => ⟨?_, ?_⟩⟩
      · show π (5 + x) s = nrM μ (nI x).toNatClampNeg s
        rw [ec]
        exact hn
      · show 0 < π (5 + x) s
        rw [hn]
        exact (hc.mpr hb).1.2
    · rw [if_neg (fun q => hb (hc.mp q)), if_neg hb]
      exact ⟨i1, i2, i3⟩
theorem mn_eq {π μ : wRec} (h : pgR π (μ 7)) (w : Int32) {s : Nat} (hs : s < 5) (laid : Int32) : mnF μ w s laid = answererF π w s laid := by
  rw [mnF, pg_n h]
  exact (mn_eqL h w hs laid (nW π) (Nat.le_refl _)).1
theorem an_eq {π μ : wRec} (h : pgR π (μ 7)) {w : Nat} (hw : w < nW π) {x : Int32} (hx : ixOK x 5) : anM μ w x = onF π w x.toNatClampNeg := by
  rw [anM, onF, ← (h.2.2.2 w hw).1.2, ← hx.1]
theorem afG_mono {P P' : Nat → Nat → Prop} {σ : wRec} {f : Nat → Int32} (h : afG P σ f) (hm : ∀ q k, k < 6 → P' q k → P q k) : afG P' σ f := ⟨h.1, h.2.1, fun q k hk hq => h.2.2 q k hk (hm q k hk hq)⟩
theorem af_set {P : Nat → Nat → Prop} {σ : wRec} {f : Nat → Int32} (h : afG P σ f) (q0 k0 : Nat) (hk : k0 < 6) (v : Int32) : afG (fun q k => P q k ∨ (q = q0 ∧ k = k0)) (va_up σ (5 + k0) (upd (σ (5 + k0)) q0 v)) (upd f (10 + 6 * q0 + k0) v) := by
  obtain ⟨⟨h0, h1, h2, h3⟩, h4, h5⟩ := h
  refine ⟨⟨?_, ?_, ?_, ?_⟩, fun w hw => ?_, fun q k hk2 hq => ?_⟩
  · rw [va_up_ne _ _ (by omega), pk_un (by omega)]; exact h0
  · rw [va_up_ne _ _ (by omega), pk_un (by omega)]; exact h1
  · rw [va_up_ne _ _ (by omega), pk_un (by omega)]; exact h2
  · rw [va_up_ne _ _ (by omega), pk_un (by omega)]; exact h3
  · rw [va_up_ne _ _ (by omega), pk_un (by omega)]; exact h4 w hw
  · by_cases e : k = k0
    · subst e
      rw [va_up_self]
      by_cases e2 : q = q0
      · subst e2
        rw [pk_us, pk_us]
      · rw [pk_un e2, pk_un (by omega)]
        exact h5 q k hk2 (hq.resolve_right (fun z => e2 z.1))
    · rw [va_up_ne _ _ (by omega), pk_un (by omega)]
      exact h5 q k hk2 (hq.resolve_right (fun z => e z.2))
theorem af_day {P : Nat → Nat → Prop} {σ : wRec} {f : Nat → Int32} (h : afG P σ f) (v : Int32) : afG P (va_up σ 0 (fun _ => v)) (upd f 0 v) := by
  obtain ⟨⟨h0, h1, h2, h3⟩, h4, h5⟩ := h
  refine ⟨⟨rfl, h1, h2, h3⟩, fun w hw => ?_, fun q k hk2 hq => ?_⟩
  · rw [va_up_ne _ _ (by omega), pk_un (by omega)]; exact h4 w hw
  · rw [va_up_ne _ _ (by omega), pk_un (by omega)]; exact h5 q k hk2 hq
theorem af_let {P : Nat → Nat → Prop} {σ : wRec} {f : Nat → Int32} (h : afG P σ f) (v : Int32) : afG P (va_up σ 1 (fun _ => v)) (upd f 3 v) := by
  obtain ⟨⟨h0, h1, h2, h3⟩, h4, h5⟩ := h
  refine ⟨⟨h0, h1, h2, rfl⟩, fun w hw => ?_, fun q k hk2 hq => ?_⟩
  · rw [va_up_ne _ _ (by omega), pk_un (by omega)]; exact h4 w hw
  · rw [va_up_ne _ _ (by omega), pk_un (by omega)]; exact h5 q k hk2 hq
theorem af_quar {P : Nat → Nat → Prop} {σ : wRec} {f : Nat → Int32} (h : afG P σ f) (v : Int32) : afG P (va_up σ 2 (fun _ => v)) (upd f 1 v) := by
  obtain ⟨⟨h0, h1, h2, h3⟩, h4, h5⟩ := h
  refine ⟨⟨h0, rfl, h2, h3⟩, fun w hw => ?_, fun q k hk2 hq => ?_⟩
  · rw [va_up_ne _ _ (by omega), pk_un (by omega)]; exact h4 w hw
  · rw [va_up_ne _ _ (by omega), pk_un (by omega)]; exact h5 q k hk2 hq
theorem af_laid {P : Nat → Nat → Prop} {σ : wRec} {f : Nat → Int32} (h : afG P σ f) (v : Int32) : afG P (va_up σ 3 (fun _ => v)) (upd f 2 v) := by
  obtain ⟨⟨h0, h1, h2, h3⟩, h4, h5⟩ := h
  refine ⟨⟨h0, h1, rfl, h3⟩, fun w hw => ?_, fun q k hk2 hq => ?_⟩
  · rw [va_up_ne _ _ (by omega), pk_un (by omega)]; exact h4 w hw
  · rw [va_up_ne _ _ (by omega), pk_un (by omega)]; exact h5 q k hk2 hq
theorem af_late {P : Nat → Nat → Prop} {σ : wRec} {f : Nat → Int32} (h : afG P σ f) {w0 : Nat} (hw0 : w0 < 6) (v : Int32) : afG P (va_up σ 4 (upd (σ 4) w0 v)) (upd f (4 + w0) v) := by
  obtain ⟨⟨h0, h1, h2, h3⟩, h4, h5⟩ := h
  refine ⟨⟨?_, ?_, ?_, ?_⟩, fun w hw => ?_, fun q k hk2 hq => ?_⟩
  · rw [va_up_ne _ _ (by omega), pk_un (by omega)]; exact h0
  · rw [va_up_ne _ _ (by omega), pk_un (by omega)]; exact h1
  · rw [va_up_ne _ _ (by omega), pk_un (by omega)]; exact h2
  · rw [va_up_ne _ _ (by omega), pk_un (by omega)]; exact h3
  · rw [va_up_self]
    by_cases e : w = w0
    · subst e
      rw [pk_us, pk_us]
    · rw [pk_un e, pk_un (by omega)]
      exact h4 w hw
  · rw [va_up_ne _ _ (by omega), pk_un (by omega)]; exact h5 q k hk2 hq
theorem af_ext {σ : wRec} {f g : Nat → Int32} (h : afR σ f) (hq6 : nQ σ ≤ 6) (e : ∀ k, k < 46 → f k = g k) : afR σ g := by
  obtain ⟨⟨h0, h1, h2, h3⟩, h4, h5⟩ := h
  refine ⟨⟨?_, ?_, ?_, ?_⟩, fun w hw => ?_, fun q k hk2 hq => ?_⟩
  · rw [← e _ (by omega)]; exact h0
  · rw [← e _ (by omega)]; exact h1
  · rw [← e _ (by omega)]; exact h2
  · rw [← e _ (by omega)]; exact h3
  · rw [← e _ (by omega)]; exact h4 w hw
  · have hq' : q < nQ σ := hq
    rw [← e _ (by omega)]; exact h5 q k hk2 hq
theorem ch_G {P : Nat → Nat → Prop} {π σ μ : wRec} (hp : pgR π (μ 7)) (h : afG P σ (μ 8)) {q : Nat} (hq0 : P q 0) (hq1 : P q 1) (hs : ixOK (σ 6 q) 5) : afG (fun j k => (P j k ∨ (j = q ∧ k = 3)) ∨ (j = q ∧ k = 4)) (chargeF π σ q) (mnsF μ q 8) := by
  have a0 : σ 5 q = μ 8 (10 + 6 * q) := h.2.2 q 0 (by omega) hq0
  have a1 : σ 6 q = μ 8 (10 + 6 * q + 1) := h.2.2 q 1 (by omega) hq1
  have e : mnsV μ q = chargeW π σ q := by
    rw [mnsV, chargeW, ← a0, ← a1, ← h.1.2.2.1]
    exact mn_eq hp _ hs.2 _
  have e2 : (if chargeW π σ q = -9 then (0 : Int32) else μ 7 (3 + 7 * (chargeW π σ q).toNatClampNeg)) = if chargeW π σ q = -9 then 0 else π 2 (chargeW π σ q).toNatClampNeg := by
    by_cases z : chargeW π σ q = -9
    · rw [if_pos z, if_pos z]
    · rw [if_neg z, if_neg z]
      exact ((hp.2.2.2 _ ((answer_ok hp.2.1 _ _ _).resolve_left z).2).1.1).symm
  rw [mnsF, va_up_self, e, e2]
  exact af_set (af_set h q 3 (by omega) _) q 4 (by omega) _
theorem pr_G {P : Nat → Nat → Prop} {π σ μ : wRec} (hp : pgR π (μ 7)) (h : afG P σ (μ 8)) (q : Nat) (w : Int32) {s : Nat} (hs : s < 5) : afG (fun j k => P j k ∨ j = q) (printF π σ q w s) (prF μ q w s 8) := by
  have h0 : afG (fun j k => (((P j k ∨ (j = q ∧ k = 0)) ∨ (j = q ∧ k = 1)) ∨ (j = q ∧ k = 2)) ∨ (j = q ∧ k = 5)) (print0 σ q w s) (prS μ q w s 8) := by
    rw [prS, va_up_self, ← h.1.1, ← h.1.2.2.2]
    exact af_let (af_set (af_set (af_set (af_set h q 0 (by omega) w) q 1 (by omega) (nI s)) q 2 (by omega) _) q 5 (by omega) 0) _
  refine afG_mono (ch_G (μ := prS μ q w s) (q := q) (by rw [prS, va_up_ne _ _ (by decide)]; exact hp) h0 (Or.inl (Or.inl (Or.inl (Or.inr ⟨rfl, rfl⟩)))) (Or.inl (Or.inl (Or.inr ⟨rfl, rfl⟩))) ?_) (fun j k hk hj => ?_)
  · show ixOK (upd (σ 6) q (nI s) q) 5
    rw [pk_us]
    exact ix_nI hs (by omega)
  · rcases hj with hj | hj
    · exact Or.inl (Or.inl (Or.inl (Or.inl (Or.inl (Or.inl hj)))))
    · rcases (show k = 0 ∨ k = 1 ∨ k = 2 ∨ k = 3 ∨ k = 4 ∨ k = 5 by omega) with e | e | e | e | e | e
      · exact Or.inl (Or.inl (Or.inl (Or.inl (Or.inl (Or.inr ⟨hj, e⟩)))))
      · exact Or.inl (Or.inl (Or.inl (Or.inl (Or.inr ⟨hj, e⟩))))
      · exact Or.inl (Or.inl (Or.inl (Or.inr ⟨hj, e⟩)))
      · exact Or.inl (Or.inr ⟨hj, e⟩)
      · exact Or.inr ⟨hj, e⟩
      · exact Or.inl (Or.inl (Or.inr ⟨hj, e⟩))
theorem ch_R {π σ μ : wRec} (hp : pgR π (μ 7)) (h : afR σ (μ 8)) {q : Nat} (hq : q < nQ σ) (hs : ixOK (σ 6 q) 5) : afR (chargeF π σ q) (mnsF μ q 8) := afG_mono (ch_G hp h hq hq hs) (fun _ _ _ hj => Or.inl (Or.inl hj))
theorem pr_R {π σ μ : wRec} (hp : pgR π (μ 7)) (h : afR σ (μ 8)) (q : Nat) (w : Int32) {s : Nat} (hs : s < 5) : afR (printF π σ q w s) (prF μ q w s 8) := afG_mono (pr_G hp h q w hs) (fun _ _ _ hj => Or.inl hj)
theorem be_R {π σ μ : wRec} (hp : pgR π (μ 7)) (h : afR σ (μ 8)) (hq : nQ σ < 6) (w : Int32) {s : Nat} (hs : s < 5) : afR (beginF π σ w s) (prF (va_up μ 8 (upd (μ 8) 1 (nI (nQ σ + 1)))) (nQ σ) w s 8) := by
  have h1 : afG (fun j _ => j < nQ σ) (va_up σ 2 (fun _ => nI (nQ σ + 1))) (va_up μ 8 (upd (μ 8) 1 (nI (nQ σ + 1))) 8) := by
    rw [va_up_self]
    exact af_quar h _
  refine afG_mono (pr_G (μ := va_up μ 8 (upd (μ 8) 1 (nI (nQ σ + 1)))) (by rw [va_up_ne _ _ (by decide)]; exact hp) h1 (nQ σ) w hs) (fun j k hk hj => ?_)
  have e : nQ (beginF π σ w s) = nQ σ + 1 := by
    show (nI (nQ σ + 1)).toNatClampNeg = nQ σ + 1
    exact nI_cl (by omega)
  have hj' : j < nQ (beginF π σ w s) := hj
  rw [e] at hj'
  rcases (show j < nQ σ ∨ j = nQ σ by omega) with z | z
  · exact Or.inl z
  · exact Or.inr z
theorem wo_eq {σ μ : wRec} (h : afR σ (μ 8)) (h6 : nQ σ ≤ 6) (w : Int32) : ∀ x, x ≤ nQ σ → woM μ w x = odL (σ 8) (σ 7) w x
  | 0, _ => rfl
  | x + 1, hx => by
    have ih := wo_eq h h6 w x (by omega)
    have a3 : σ 8 x = μ 8 (10 + 6 * x + 3) := h.2.2 x 3 (by omega) (show x < nQ σ by omega)
    have a2 : σ 7 x = μ 8 (10 + 6 * x + 2) := h.2.2 x 2 (by omega) (show x < nQ σ by omega)
    rw [woM, odL, ih, atV, atV, atV, ← a3, ← a2]
    rcases od_ok (σ 8) (σ 7) w x (by omega) with e | e
    · rw [e]
      simp
    · have hl := e.2
      have a4 : σ 7 (odL (σ 8) (σ 7) w x).toNatClampNeg = μ 8 (10 + 6 * (odL (σ 8) (σ 7) w x).toNatClampNeg + 2) := h.2.2 _ 2 (by omega) (show _ < nQ σ by omega)
      rw [← a4]
theorem gw_R {σ μ : wRec} (h : afR σ (μ 8)) (h6 : nQ σ ≤ 6) : ∀ i, afR (workA σ i) (gwS μ i 8)
  | 0 => h
  | i + 1 => by
    have ih := gw_R h h6 i
    have n1 : nQ (workA σ i) = nQ σ := nQ_of (workA_row σ i 2 (by decide))
    have e : woM (gwS μ i) (nI i) (qM (gwS μ i)) = workQ (workA σ i) i := by
      rw [af_n ih, workQ]
      exact wo_eq ih (by rw [n1]; exact h6) _ _ (Nat.le_refl _)
    rw [workA, gwS, e, workS]
    by_cases z : workQ (workA σ i) i = -9
    · rw [if_pos z, if_pos z]
      exact ih
    · rw [if_neg z, if_neg z, va_up_self]
      have hx := (od_ok (workA σ i 8) (workA σ i 7) (nI i) (nQ (workA σ i)) (by rw [n1]; exact h6)).resolve_left z
      have a4 : workA σ i 9 (workQ (workA σ i) i).toNatClampNeg = gwS μ i 8 (10 + 6 * (workQ (workA σ i) i).toNatClampNeg + 4) := ih.2.2 _ 4 (by omega) hx.2
      rw [← a4]
      exact afG_mono (af_set ih _ 4 (by omega) _) (fun _ _ _ hj => Or.inl hj)
theorem ti_R {σ μ : wRec} {n : Nat} (h : afR σ (μ 8)) (h6 : nQ σ ≤ 6) (hn : nM μ = n) : afR (tickF (workA σ n)) (gy0 μ 8) := by
  subst hn
  have h1 := gw_R h h6 (nM μ)
  rw [gy0, va_up_ne _ _ (by decide), va_up_self, ← h1.1.1]
  exact af_day h1 _
theorem sub_iff (a b c : Int32) : a - b = c ↔ b + c = a := by
  constructor
  · intro h
    rw [← h, Int32.add_comm, Int32.sub_add_cancel]
  · intro h
    rw [← h, Int32.add_comm, Int32.add_sub_cancel]
theorem la_R {π τ ν : wRec} (hp : wfP π) (h : afR τ (ν 8)) {q : Nat} (hq : q < nQ τ) (ho : ixOK (τ 8 q) (nW π)) : afR (lateF τ q) (ltM ν q 8) := by
  have a3 : τ 8 q = ν 8 (10 + 6 * q + 3) := h.2.2 q 3 (by omega) hq
  have h6 := hp.2.1
  have hl := ho.2
  rw [ltM, va_up_ne _ _ (by decide), va_up_self, atV, ← a3, ← h.2.1 _ (by omega)]
  exact afG_mono (af_late (af_set h q 5 (by omega) 1) (w0 := (τ 8 q).toNatClampNeg) (by omega) _) (fun _ _ _ hj => Or.inl hj)
theorem gt_R {π τ ν : wRec} (hp : pgR π (ν 7)) (h : afR τ (ν 8)) (hw : wfA π τ) {q : Nat} (hq : q < nQ τ) : afR (dayT π τ q) (gyT ν q 8) := by
  have a1 : τ 6 q = ν 8 (10 + 6 * q + 1) := h.2.2 q 1 (by omega) hq
  have a2 : τ 7 q = ν 8 (10 + 6 * q + 2) := h.2.2 q 2 (by omega) hq
  have a3 : τ 8 q = ν 8 (10 + 6 * q + 3) := h.2.2 q 3 (by omega) hq
  have a4 : τ 9 q = ν 8 (10 + 6 * q + 4) := h.2.2 q 4 (by omega) hq
  unfold dayT gyT atV
  rw [← a1, ← a2, ← a3, ← a4]
  by_cases z : τ 8 q = -9
  · rw [if_pos z, if_pos z]
    exact h
  · have ho := ((hw.2 q hq).2).resolve_left z
    have hon := onS_ok hp.2.1 hw hq z
    rw [if_neg z, if_neg z]
    by_cases z2 : τ 9 q = 0
    · rw [if_pos z2, if_pos z2, an_eq hp ho.2 (hw.2 q hq).1]
      exact pr_R hp h q _ hon.2
    · rw [if_neg z2, if_neg z2]
      have hc : τ 7 q + ν 7 1 = ν 8 0 ↔ τ 0 0 - τ 7 q = π 1 0 := by
        rw [← hp.1.2, ← h.1.1]
        exact (sub_iff _ _ _).symm
      by_cases z3 : τ 0 0 - τ 7 q = π 1 0
      · rw [if_pos z3, if_pos (hc.mpr z3)]
        exact la_R hp.2.1 h hq ho
      · rw [if_neg z3, if_neg (fun e => z3 (hc.mp e))]
        exact h
theorem pg_of {π μ ν : wRec} (h : pgR π (μ 7)) (e : ν 7 = μ 7) : pgR π (ν 7) := by rw [e]; exact h
theorem gs_R {π σ μ : wRec} (hp : pgR π (μ 7)) (h : afR σ (μ 8)) (hw : wfA π σ) : ∀ q, q ≤ nQ σ → afR (dayA π (tickF (workA σ (nW π))) q) (gyS μ q 8) ∧ dayN π (tickF (workA σ (nW π))) q = gyC μ q
  | 0, _ => ⟨ti_R h hw.1.2 (pg_n hp), rfl⟩
  | q + 1, hq => by
    obtain ⟨i1, i2⟩ := gs_R hp h hw q (by omega)
    have e0 : nQ (tickF (workA σ (nW π))) = nQ σ := nQ_of (workA_row σ _ 2 (by decide))
    have e1 : nQ (dayA π (tickF (workA σ (nW π))) q) = nQ σ := (nQ_of (dayA_2 π _ q)).trans e0
    have e7 : gyS μ q 7 = μ 7 := gyS_of μ (by decide) (by decide) q
    have w1 := dayA_wf hp.2.1 (tick_wf (workA_wf hw (nW π))) q (by rw [e0]; omega)
    refine ⟨gt_R (pg_of hp e7) i1 w1 (by rw [e1]; omega), ?_⟩
    have a3 : dayA π (tickF (workA σ (nW π))) q 8 q = gyS μ q 8 (10 + 6 * q + 3) := i1.2.2 q 3 (by omega) (show q < nQ _ by rw [e1]; omega)
    have a4 : dayA π (tickF (workA σ (nW π))) q 9 q = gyS μ q 8 (10 + 6 * q + 4) := i1.2.2 q 4 (by omega) (show q < nQ _ by rw [e1]; omega)
    rw [dayN, gyC, atV, atV, ← a3, ← a4, i2]
theorem pass_R {π σ μ : wRec} (hp : pgR π (μ 7)) (h : afR σ (μ 8)) (hw : wfA π σ) : afR (passF π σ) (gyS μ (qM μ) 8) ∧ passN π σ = gyC μ (qM μ) := by
  rw [af_n h]
  exact gs_R hp h hw (nQ σ) (Nat.le_refl _)
theorem wfG_R {π σ μ : wRec} (hp : pgR π (μ 7)) (h : afR σ (μ 8)) (hw : wfA π σ) : wfG μ := by
  have en := pg_n hp
  have eq := af_n h
  refine ⟨⟨⟨?_, ?_⟩, fun w hw2 => ?_⟩, ⟨?_, ?_⟩, fun q hq => ?_, fun q hq => ?_⟩
  · rw [en, ← hp.1.1]; exact hp.2.1.1
  · rw [en]; exact hp.2.1.2.1
  · rw [en] at hw2
    rw [← (hp.2.2.2 w hw2).1.2]
    exact hp.2.1.2.2 w hw2
  · rw [eq, ← h.1.2.1]; exact hw.1.1
  · rw [eq]; exact hw.1.2
  · rw [eq] at hq
    have a1 : σ 6 q = μ 8 (10 + 6 * q + 1) := h.2.2 q 1 (by omega) hq
    rw [← a1]
    exact (hw.2 q hq).1
  · rw [eq] at hq
    have a3 : σ 8 q = μ 8 (10 + 6 * q + 3) := h.2.2 q 3 (by omega) hq
    rw [atV, ← a3, en]
    exact (hw.2 q hq).2

/-! ===== keeps: the earliest due first, the same ===== -/
abbrev nbit (j q : Nat) : Prop := j / 2 ^ q % 2 = 1
theorem clr_bit' : ∀ j, j < 64 → ∀ p, p < 6 → ∀ q, q < 6 → (¬ j / 2 ^ p % 2 = 1 ∨ (clr j p / 2 ^ q % 2 = 1 ↔ (j / 2 ^ q % 2 = 1 ∧ ¬ q = p))) := by decide +kernel
theorem clr_bit (j : Nat) (hj : j < 64) (p : Nat) (hp : p < 6) (q : Nat) (hq : q < 6) (h : nbit j p) : nbit (clr j p) q ↔ nbit j q ∧ q ≠ p := (clr_bit' j hj p hp q hq).resolve_left (fun k => k h)
def wuN (P K : Nat → Nat) (j lp : Nat) : Nat → Nat
  | 0 => 0
  | q + 1 => if nbit j q ∧ P q ≤ lp then wuN P K j lp q + K q else wuN P K j lp q
theorem wuN_clr {P K : Nat → Nat} {j lp p : Nat} (hj : j < 64) (hp : p < 6) (hb : nbit j p) (hl : P p ≤ lp) : ∀ n, n ≤ 6 → wuN P K j lp n = wuN P K (clr j p) lp n + if p < n then K p else 0
  | 0, _ => by rw [if_neg (Nat.not_lt_zero p)]; rfl
  | n + 1, h => by
    have ih := wuN_clr (K := K) hj hp hb hl n (by omega)
    have hc := clr_bit j hj p hp n (by omega) hb
    rw [wuN, wuN]
    by_cases e : n = p
    · subst e
      rw [if_pos ⟨hb, hl⟩, if_neg (fun k => (hc.mp k.1).2 rfl), ih, if_neg (Nat.lt_irrefl n), if_pos (by omega)]
      omega
    · have e2 : (if p < n + 1 then K p else 0) = if p < n then K p else 0 := by
        by_cases z : p < n
        · rw [if_pos z, if_pos (by omega)]
        · rw [if_neg z, if_neg (by omega)]
      rw [e2]
      by_cases z : nbit j n ∧ P n ≤ lp
      · rw [if_pos z, if_pos ⟨hc.mpr ⟨z.1, e⟩, z.2⟩, ih]
        omega
      · rw [if_neg z, if_neg (fun k => z ⟨(hc.mp k.1).1, k.2⟩), ih]
theorem wuN_0 (P K : Nat → Nat) (j lp : Nat) : ∀ n, wuN P K j lp n = 0 ∨ ∃ q, q < n ∧ nbit j q ∧ P q ≤ lp
  | 0 => Or.inl rfl
  | n + 1 => by
    rw [wuN]
    by_cases z : nbit j n ∧ P n ≤ lp
    · exact Or.inr ⟨n, by omega, z⟩
    · rw [if_neg z]
      exact (wuN_0 P K j lp n).imp id (fun ⟨q, h1, h2⟩ => ⟨q, by omega, h2⟩)
theorem wuN_le {P K : Nat → Nat} (j lp : Nat) {N : Nat} (hK : ∀ q, q < N → K q ≤ 9) : ∀ n, n ≤ N → wuN P K j lp n ≤ 9 * n
  | 0, _ => Nat.le_refl _
  | n + 1, h => by
    have ih := wuN_le (P := P) j lp hK n (by omega)
    have := hK n (by omega)
    rw [wuN]
    split <;> omega
theorem itF_min (μ : wRec) (left : Int32) : ∀ x, x ≤ 6 → itF μ left x ≠ -9 → ∀ q, q < x → bitB left q → ¬ atV μ q 2 < atV μ (itF μ left x).toNatClampNeg 2
  | 0, _, h => absurd rfl h
  | x + 1, hx, h => by
    intro q hq hb
    have ih := itF_min μ left x (by omega)
    have ec : (nI x).toNatClampNeg = x := nI_cl (by omega)
    rw [itF] at h ⊢
    by_cases z : bitB left x ∧ (itF μ left x = -9 ∨ atV μ x 2 < atV μ (itF μ left x).toNatClampNeg 2)
    · rw [if_pos z, ec]
      by_cases e : q = x
      · subst e
        exact Int32.lt_irrefl
      · rcases z.2 with z2 | z2
        · rcases itF_ix μ left x (by omega) with ⟨-, g⟩ | ⟨g, -⟩
          · exact absurd hb (g q (by omega))
          · exact absurd z2 (ix_ne9 g (by omega))
        · exact fun k => ih (fun e9 => by
            rcases itF_ix μ left x (by omega) with ⟨-, g⟩ | ⟨g, -⟩
            · exact g q (by omega) hb
            · exact ix_ne9 g (by omega) e9) q (by omega) hb (Int32.lt_trans k z2)
    · rw [if_neg z] at h ⊢
      by_cases e : q = x
      · subst e
        exact fun k => z ⟨hb, Or.inr k⟩
      · exact ih h q (by omega) hb
/-- the model's order of work -/
theorem it_eq {μ : wRec} (hQ : wfQM μ) {P K : Nat → Nat} {t : Nat} (ht : t ≤ 20) (et : μ 7 1 = nI t) (hP : ∀ q, q < qM μ → P q ≤ 999 ∧ atV μ q 2 = nI (P q)) (hK : ∀ q, q < qM μ → K q ≤ 9 ∧ atV μ q 4 = nI (K q)) : ∀ f j v, j < f → j < 2 ^ qM μ → v + 9 * j ≤ 2000 → (itL μ f j (nI v) = true ↔ ∀ q, q < qM μ → nbit j q → v + wuN P K j (P q) (qM μ) ≤ P q + t)
  | 0, j, v, hf, _, _ => absurd hf (Nat.not_lt_zero j)
  | f + 1, j, v, hf, hj, hv => by
    have h64 := itQ_64 hQ hj
    have h6 := hQ.2
    rw [itL]
    by_cases z : j = 0
    · rw [if_pos z]
      subst z
      refine ⟨fun _ q hq hb => ?_, fun _ => rfl⟩
      have : (0 : Nat) / 2 ^ q % 2 = 1 := hb
      rw [Nat.zero_div] at this
      omega
    · rw [if_neg z]
      obtain ⟨hx, hb⟩ := itQ_ok hQ hj z
      have hlt := itQ_lt hQ hj z
      have hmin := itF_min μ (nI j) (qM μ) h6 (ix_ne9 hx (by omega))
      have hx2 := hx.2
      generalize hp0 : (itQ μ j).toNatClampNeg = p at *
      have hpb : nbit j p := (bit_nI j h64 p (by omega)).mp hb
      have hmin' : ∀ q, q < qM μ → nbit j q → P p ≤ P q := fun q hq hbq => by
        have h1 := hmin q hq ((bit_nI j h64 q (by omega)).mpr hbq)
        rw [(hP q hq).2, (hP p hx2).2] at h1
        have h2 := (hP q hq).1
        have h3 := (hP p hx2).1
        exact Nat.not_lt.mp (fun k => h1 ((nI_ltI (by omega) (by omega)).mpr k))
      have hKp := (hK p hx2).1
      have hPp := (hP p hx2).1
      have hsum : ∀ q, q < qM μ → nbit j q → wuN P K j (P q) (qM μ) = wuN P K (clr j p) (P q) (qM μ) + K p := fun q hq hbq => by
        rw [wuN_clr h64 (by omega) hpb (hmin' q hq hbq) (qM μ) h6, if_pos hx2]
      have ec : (atV μ p 2 + μ 7 1 < nI v + atV μ p 4) ↔ P p + t < v + K p := by
        rw [(hP p hx2).2, (hK p hx2).2, et, nI_add, nI_add, nI_ltI (by omega) (by omega)]
      have ev : nI v + atV μ p 4 = nI (v + K p) := by rw [(hK p hx2).2, nI_add]
      have ih := it_eq hQ ht et hP hK f (clr j p) (v + K p) (by omega) (by omega) (by omega)
      by_cases hc : P p + t < v + K p
      · rw [if_pos (ec.mpr hc)]
        refine ⟨fun k => (by cases k), fun k => ?_⟩
        have h1 := k p hx2 hpb
        rw [hsum p hx2 hpb] at h1
        omega
      · rw [if_neg (fun k => hc (ec.mp k)), ev, ih]
        constructor
        · intro k q hq hbq
          rw [hsum q hq hbq]
          by_cases e : q = p
          · subst e
            rcases wuN_0 P K (clr j q) (P q) (qM μ) with e0 | ⟨q', h1, h2, h3⟩
            · rw [e0]
              omega
            · have h4 := k q' h1 h2
              have h5 := hmin' q' h1 ((clr_bit j h64 q (by omega) q' (by omega) hpb).mp h2).1
              rw [show P q' = P q by omega] at h4
              omega
          · have h4 := k q hq ((clr_bit j h64 p (by omega) q (by omega) hpb).mpr ⟨hbq, e⟩)
            omega
        · intro k q hq hbq
          have hbq' := ((clr_bit j h64 p (by omega) q (by omega) hpb).mp hbq).1
          have h4 := k q hq hbq'
          rw [hsum q hq hbq'] at h4
          omega
theorem wu_eq {σ : wRec} {P K : Nat → Nat} {N lp j : Nat} (hj : j < 64) (h6 : N ≤ 6) (hlp : lp ≤ 999) (hP : ∀ q, q < N → P q ≤ 999 ∧ σ 7 q = nI (P q)) (hK : ∀ q, q < N → K q ≤ 9 ∧ σ 9 q = nI (K q)) : ∀ n, n ≤ N → wuL σ (nI j) (nI lp) n = nI (wuN P K j lp n)
  | 0, _ => rfl
  | n + 1, h => by
    have ih := wu_eq hj h6 hlp hP hK n (by omega)
    have hc : ((nI j >>> (nI n &&& 31)) &&& 1 = 1 ∧ σ 7 n ≤ nI lp) ↔ (nbit j n ∧ P n ≤ lp) := by
      have h1 := (hP n (by omega)).1
      rw [(hP n (by omega)).2, nI_leI (by omega) (by omega)]
      exact and_congr (bit_nI j hj n (by omega)) Iff.rfl
    rw [wuL, wuN, ih]
    by_cases z : nbit j n ∧ P n ≤ lp
    · rw [if_pos (hc.mpr z), if_pos z, (hK n (by omega)).2, nI_add]
    · rw [if_neg (fun k => z (hc.mp k)), if_neg z]
theorem ck_eq {π σ μ : wRec} {d : Nat} (hp : pgR π (μ 7)) (h : afR σ (μ 8)) (hw : afW π σ d) (hd : d ≤ 999) {s : Nat} (hs : s < 2 ^ nQ σ) : ckAll σ (nI s) (π 1 0) ↔ itB μ s := by
  have h6 := hw.1.2
  have eq := af_n h
  have hQ : wfQM μ := ⟨by rw [eq, ← h.1.2.1]; exact hw.1.1, by rw [eq]; exact h6⟩
  obtain ⟨t, t1, t2, et⟩ := hp.2.2.1
  have h64 : s < 64 := Nat.lt_of_lt_of_le hs (Nat.pow_le_pow_right (by omega) h6)
  have hP : ∀ q, q < nQ σ → (σ 7 q).toNatClampNeg ≤ 999 ∧ σ 7 q = nI (σ 7 q).toNatClampNeg := fun q hq => by
    obtain ⟨p, p1, p2⟩ := (hw.2.2.2 q hq).2.2.2.1
    have e : (nI p).toNatClampNeg = p := nI_clamp (by omega)
    rw [p2, e]
    exact ⟨by omega, rfl⟩
  have hK : ∀ q, q < nQ σ → (σ 9 q).toNatClampNeg ≤ 9 ∧ σ 9 q = nI (σ 9 q).toNatClampNeg := fun q hq => by
    rcases (hw.2.2.2 q hq).2.2.2.2 with ⟨-, e0⟩ | ⟨-, k, k1, k2, e0⟩
    · rw [e0]
      exact ⟨by decide, rfl⟩
    · have e : (nI k).toNatClampNeg = k := nI_clamp (by omega)
      rw [e0, e]
      exact ⟨k2, rfl⟩
  have hm := it_eq hQ (P := fun q => (σ 7 q).toNatClampNeg) (K := fun q => (σ 9 q).toNatClampNeg) (t := t) t2 (by rw [← hp.1.2]; exact et) (fun q hq => by
    rw [eq] at hq
    have a2 : σ 7 q = μ 8 (10 + 6 * q + 2) := h.2.2 q 2 (by omega) hq
    exact ⟨(hP q hq).1, by rw [atV, ← a2]; exact (hP q hq).2⟩) (fun q hq => by
    rw [eq] at hq
    have a4 : σ 9 q = μ 8 (10 + 6 * q + 4) := h.2.2 q 4 (by omega) hq
    exact ⟨(hK q hq).1, by rw [atV, ← a4]; exact (hK q hq).2⟩) 64 s d h64 (by rw [eq]; exact hs) (by omega)
  rw [itB, ← h.1.1, hw.2.1, hm, eq]
  refine forall_congr' (fun q => forall_congr' (fun hq => ?_))
  have hlp := (hP q hq).1
  have e1 : wuL σ (nI s) (σ 7 q) (nQ σ) = nI (wuN (fun q => (σ 7 q).toNatClampNeg) (fun q => (σ 9 q).toNatClampNeg) s (σ 7 q).toNatClampNeg (nQ σ)) := by
    have := wu_eq (lp := (σ 7 q).toNatClampNeg) h64 h6 hlp hP hK (nQ σ) (Nat.le_refl _)
    rw [← (hP q hq).2] at this
    exact this
  have hle := wuN_le (P := fun q => (σ 7 q).toNatClampNeg) s (σ 7 q).toNatClampNeg (fun q hq => (hK q hq).1) (nQ σ) (Nat.le_refl _)
  have e2 : σ 0 0 + wuL σ (nI s) (σ 7 q) (nQ σ) ≤ σ 7 q + π 1 0 ↔ d + wuN (fun q => (σ 7 q).toNatClampNeg) (fun q => (σ 9 q).toNatClampNeg) s (σ 7 q).toNatClampNeg (nQ σ) ≤ (σ 7 q).toNatClampNeg + t := by
    rw [e1, hw.2.1, et, nI_add]
    conv => lhs; rhs; rw [(hP q hq).2, nI_add]
    exact nI_leI (by omega) (by omega)
  unfold ckOK
  rw [e2]
  exact imp_congr (bit_nI s h64 q (by omega)) Iff.rfl
theorem sub_le' : ∀ s, s < 64 → ∀ o, o < 64 → s &&& o = s → s ≤ o := by decide +kernel
theorem kp_eq {π σ μ : wRec} {d : Nat} (hp : pgR π (μ 7)) (h : afR σ (μ 8)) (hw : afW π σ d) (hd : d ≤ 999) {o : Nat} (ho : o < 2 ^ nQ σ) : ∀ s, s ≤ o + 1 → kpL σ (π 1 0) (nI o) s = mkpL μ o s
  | 0, _ => rfl
  | s + 1, hs => by
    have h64 : s < 64 := Nat.lt_of_le_of_lt (show s ≤ o by omega) (Nat.lt_of_lt_of_le ho (Nat.pow_le_pow_right (by omega) hw.1.2))
    rw [kpL, mkpL, kp_eq hp h hw hd ho s (by omega), bc_nI s h64]
    have hc := ck_eq hp h hw hd (s := s) (by omega)
    by_cases z : (nI s &&& (nI o ^^^ (-1)) = 0 ∧ ¬ nI (pcT s) ≤ mkpL μ o s) ∧ itB μ s
    · rw [if_pos z, if_pos ⟨z.1, hc.mpr z.2⟩]
    · rw [if_neg z, if_neg (fun k => z ⟨k.1, hc.mp k.2⟩)]
theorem kp_hi (σ : wRec) (t : Int32) {o : Nat} (ho : o < 64) : ∀ m, o + 1 + m ≤ 64 → kpL σ t (nI o) (o + 1 + m) = kpL σ t (nI o) (o + 1)
  | 0, _ => rfl
  | m + 1, h => by
    show kpL σ t (nI o) (o + 1 + m + 1) = _
    rw [kpL, if_neg (fun k => ?_), kp_hi σ t ho m (by omega)]
    have h1 := (sub_N (o + 1 + m) (by omega) o ho).mp k.1.1
    have h2 := sub_le' (o + 1 + m) (by omega) o ho h1
    omega
theorem keeps_eq {π σ μ : wRec} {d : Nat} (hp : pgR π (μ 7)) (h : afR σ (μ 8)) (hw : afW π σ d) (hd : d ≤ 999) (w : Int32) : kpL σ (π 1 0) (obL (σ 8) w (nQ σ)) 64 = mkpL μ (oM μ w) (oM μ w + 1) := by
  have h6 := hw.1.2
  have eo : mkoL μ w (qM μ) = nI (obN (σ 8) w (nQ σ)) := by rw [af_n h, mko_eq h w _ (Nat.le_refl _), obL_N _ _ _ h6]
  have ho := ob_64 (σ 8) w h6
  have e2 : oM μ w = obN (σ 8) w (nQ σ) := by rw [oM, eo]; exact nI_cl (by omega)
  rw [e2, obL_N _ _ _ h6, ← kp_eq hp h hw hd (obN_lt _ _ _) _ (Nat.le_refl _)]
  have := kp_hi σ (π 1 0) ho (63 - obN (σ 8) w (nQ σ)) (by omega)
  rw [show obN (σ 8) w (nQ σ) + 1 + (63 - obN (σ 8) w (nQ σ)) = 64 by omega] at this
  exact this

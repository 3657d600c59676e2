/-! ===== what was found, most, titles: the same ===== -/
def fdR (φ μ : wRec) : Prop := φ 0 0 = μ 14 0 ∧ wfF φ ∧ ∀ i, i < nF φ → φ 1 i = μ 15 (3 * i) ∧ φ 2 i = μ 15 (3 * i + 1) ∧ φ 3 i = μ 15 (3 * i + 2)
theorem fd_n {φ μ : wRec} (h : fdR φ μ) : fM μ = nF φ := by unfold fM nF; rw [h.1]
theorem fd_W {φ μ : wRec} (h : fdR φ μ) : wfFM μ ∧ wfFS μ := by
  refine ⟨⟨?_, ?_⟩, fun f hf => ?_⟩
  · rw [fd_n h, ← h.1]; exact h.2.1.1
  · rw [fd_n h]; exact h.2.1.2.1
  · rw [fd_n h] at hf
    rw [← (h.2.2 f hf).2.1]
    exact h.2.1.2.2 f hf
theorem pg_setN {π μ : wRec} (hp : pgR π (μ 7)) {w s : Nat} (hw : w < nW π) (hs : s < 5) (v : Int32) : pgR (setN π w s v) (mmbN μ (3 + 7 * w + 2 + s) v 7) := by
  have e0 : nW (setN π w s v) = nW π := by unfold nW; rw [setN_row (by omega)]
  rw [mmbN, va_up_self]
  refine ⟨⟨?_, ?_⟩, setN_wf hp.2.1 w s v, ?_, fun x hx => ⟨⟨?_, ?_⟩, ?_, fun r hr => ?_⟩⟩
  · rw [setN_row (by omega), pk_un (by omega)]; exact hp.1.1
  · rw [setN_row (by omega), pk_un (by omega)]; exact hp.1.2
  · rw [setN_row (by omega)]; exact hp.2.2.1
  · rw [e0] at hx
    rw [setN_row (by omega), pk_un (by omega)]; exact (hp.2.2.2 x hx).1.1
  · rw [e0] at hx
    rw [setN_row (by omega), pk_un (by omega)]; exact (hp.2.2.2 x hx).1.2
  · rw [e0] at hx
    rw [setN_row (by omega)]; exact (hp.2.2.2 x hx).2.1
  · rw [e0] at hx
    unfold setN
    by_cases e : x = w
    · subst e
      rw [if_pos rfl]
      by_cases e2 : r = s
      · subst e2
        rw [pk_us, pk_us]
      · rw [pk_un e2, pk_un (by omega)]
        exact (hp.2.2.2 x hx).2.2 r hr
    · rw [if_neg (by omega), pk_un (by omega)]
      exact (hp.2.2.2 x hx).2.2 r hr
theorem ms_iff (ν : wRec) : ∀ n, msL ν n ≠ 0 ↔ ∀ f, f < n → moOK ν f
  | 0 => ⟨fun _ f hf => absurd hf (Nat.not_lt_zero f), fun _ => show (1 : Int32) ≠ 0 by decide⟩
  | n + 1 => by
    have ih := ms_iff ν n
    rw [msL]
    by_cases z : msL ν n = 0
    · rw [if_pos z]
      exact ⟨fun k => absurd rfl k, fun k => absurd z (ih.mpr (fun f hf => k f (by omega)))⟩
    · rw [if_neg z]
      by_cases y : moOK ν n
      · rw [if_pos y]
        refine ⟨fun _ f hf => ?_, fun _ => by decide⟩
        by_cases e : f = n
        · subst e
          exact y
        · exact ih.mp z f (by omega)
      · rw [if_neg y]
        exact ⟨fun k => absurd rfl k, fun k => absurd (k n (by omega)) y⟩
theorem so_eq {π φ μ : wRec} (hp : pgR π (μ 7)) (hf : fdR φ μ) {w s : Nat} (hw : w < nW π) (hs : s < 5) (v : Int32) : soAll (setN π w s v) φ ↔ msL (mmbN μ (3 + 7 * w + 2 + s) v) (fM μ) ≠ 0 := by
  have hp' := pg_setN hp hw hs v
  rw [ms_iff, fd_n hf]
  refine forall_congr' (fun i => forall_congr' (fun hi => ?_))
  have h15 : mmbN μ (3 + 7 * w + 2 + s) v 15 = μ 15 := mmbN_of μ _ _ (by decide)
  have hc := hf.2.2 i hi
  unfold soOK moOK
  rw [h15, ← hc.1, ← hc.2.1, ← hc.2.2, mn_eq hp' _ (hf.2.1.2.2 i hi).2]
theorem mb_eq {π φ μ : wRec} (hp : pgR π (μ 7)) (hf : fdR φ μ) {w s : Nat} (hw : w < nW π) (hs : s < 5) : ∀ v, mbL π φ w s v = mmbL μ (3 + 7 * w + 2 + s) v
  | 0 => rfl
  | v + 1 => by
    have hc := so_eq hp hf hw hs (nI v)
    rw [mbL, mmbL, mb_eq hp hf hw hs v]
    by_cases z : msL (mmbN μ (3 + 7 * w + 2 + s) (nI v)) (fM μ) = 0
    · rw [if_pos z, if_neg (fun k => hc.mp k z)]
      simp
    · rw [if_neg z, if_pos (hc.mpr z)]
theorem mo_eq {σ μ : wRec} (h : afR σ (μ 8)) : ∀ w, w ≤ 6 → mmoL μ w = (moL σ w).1 ∧ ((moL σ w).1 = -9 → (moL σ w).2 = 0) ∧ ((moL σ w).1 ≠ -9 → (moL σ w).2 = lwL (σ 8) (σ 5) (moL σ w).1 (nQ σ) ∧ 0 < (moL σ w).2)
  | 0, _ => ⟨rfl, fun _ => rfl, fun h => absurd rfl h⟩
  | w + 1, hw => by
    obtain ⟨i1, i2, i3⟩ := mo_eq h w (by omega)
    have ew : ∀ x, wdM μ x (qM μ) = lwL (σ 8) (σ 5) x (nQ σ) := fun x => by rw [af_n h]; exact wd_eq h x _ (Nat.le_refl _)
    have hc : (0 < wdM μ (nI w) (qM μ) ∧ (mmoL μ w = -9 ∨ wdM μ (mmoL μ w) (qM μ) < wdM μ (nI w) (qM μ))) ↔ ¬ lwL (σ 8) (σ 5) (nI w) (nQ σ) ≤ (moL σ w).2 := by
      rw [ew, ew, i1, Int32.not_le]
      by_cases e : (moL σ w).1 = -9
      · rw [i2 e]
        exact ⟨fun k => k.1, fun k => ⟨k, Or.inl e⟩⟩
      · obtain ⟨j1, j2⟩ := i3 e
        rw [← j1]
        exact ⟨fun k => k.2.resolve_left e, fun k => ⟨Int32.lt_trans j2 k, Or.inr k⟩⟩
    rw [mmoL, moL]
    by_cases z : lwL (σ 8) (σ 5) (nI w) (nQ σ) ≤ (moL σ w).2
    · rw [if_pos z, if_neg (fun k => hc.mp k z)]
      exact ⟨i1, i2, i3⟩
    · rw [if_neg z, if_pos (hc.mpr z)]
      refine ⟨rfl, fun e => absurd e (nI_ne9 (by omega)), fun _ => ⟨rfl, ?_⟩⟩
      have := (hc.mpr z).1
      rw [ew] at this
      exact this
theorem ti_eq {π μ : wRec} (hp : pgR π (μ 7)) {a b : Nat} (ha : a < nW π) (hb : b < nW π) : ∀ s, s ≤ 5 → tiL π a b s = mtiL μ a b s
  | 0, _ => rfl
  | s + 1, hs => by
    have h1 : π (5 + a) s = nrM μ a s := (hp.2.2.2 a ha).2.2 s (by omega)
    have h2 : π (5 + b) s = nrM μ b s := (hp.2.2.2 b hb).2.2 s (by omega)
    rw [tiL, mtiL, ti_eq hp ha hb s (by omega), h1, h2]
    split
    · rfl
    · simp
theorem bn_eq {π σ μ : wRec} (hp : pgR π (μ 7)) (e3 : σ 3 0 = μ 8 2) (w : Int32) : ∀ s, s ≤ 5 → bnL π (σ 3 0) w s = mbnL μ w s
  | 0, _ => rfl
  | s + 1, hs => by
    rw [bnL, mbnL, bn_eq hp e3 w s (by omega), mn_eq hp w (by omega), e3]
    split
    · rfl
    · simp
/-- who there is -/
theorem wr_iff {n : Nat} (hn : n ≤ 6) (x : Int32) : (0 ≤ x ∧ x < nI n) ↔ inB x 0 (nI n - 1) := by
  have e : (nI n - 1).toInt = (n : Int) - 1 := by
    have := pk_sub_toInt (a := n) (b := 1) (by omega) (by omega)
    exact this
  unfold inB
  rw [Int32.lt_iff_toInt_lt, Int32.le_iff_toInt_le (x := x), e, nI_toInt (by omega)]
  constructor
  · intro k
    exact ⟨k.1, by omega⟩
  · intro k
    exact ⟨k.1, by omega⟩
theorem isW_iff {π μ : wRec} (hp : pgR π (μ 7)) (w : Int32) : isWr π w ↔ isWM μ w := by
  have h6 := hp.2.1.2.1
  unfold isWr isWM
  rw [← hp.1.1, hp.2.1.1]
  exact wr_iff h6 w
theorem isQ_iff {P : Nat → Nat → Prop} {σ μ : wRec} (h : afG P σ (μ 8)) (hq : wfQ σ) (q : Int32) : isQu σ q ↔ isQM μ q := by
  unfold isQu isQM
  rw [← h.1.2.1, hq.1]
  exact wr_iff hq.2 q
theorem isS_iff (s : Int32) : isSb s ↔ isSM s := wr_iff (n := 5) (by omega) s
theorem lt_2 (x : Int32) : (0 ≤ x ∧ x < 2) ↔ inB x 0 1 := wr_iff (n := 2) (by omega) x

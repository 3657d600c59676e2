/-! ===== what holds of affairs that stand ===== -/
def wkOK (o w : Int32) : Prop := (o = -9 ∧ w = 0) ∨ (o ≠ -9 ∧ ∃ k, 1 ≤ k ∧ k ≤ 9 ∧ w = nI k)
def quW (π σ : wRec) (d q : Nat) : Prop := ixOK (σ 5 q) (nW π) ∧ ixOK (σ 6 q) 5 ∧ σ 8 q = answererF π (σ 5 q) (σ 6 q).toNatClampNeg (σ 3 0) ∧ (∃ p, p ≤ d ∧ σ 7 q = nI p) ∧ wkOK (σ 8 q) (σ 9 q)
def afW (π σ : wRec) (d : Nat) : Prop := wfQ σ ∧ σ 0 0 = nI d ∧ (∃ l, l < 2 ^ nW π ∧ σ 3 0 = nI l) ∧ ∀ q, q < nQ σ → quW π σ d q
def pnW (π : wRec) : Prop := wfP π ∧ ∀ w, w < nW π → ∃ p, 1 ≤ p ∧ p ≤ 9 ∧ π 2 w = nI p
theorem pg_W {π : wRec} {f : Nat → Int32} (h : pgR π f) : pnW π := ⟨h.2.1, fun w hw => (h.2.2.2 w hw).2.1⟩
theorem afW_A {π σ : wRec} {d : Nat} (hp : wfP π) (h : afW π σ d) : wfA π σ := ⟨h.1, fun q hq => ⟨(h.2.2.2 q hq).2.1, by rw [(h.2.2.2 q hq).2.2.1]; exact answer_ok hp _ _ _⟩⟩
theorem ch_W {π σ : wRec} (hp : pnW π) {d q : Nat} (h5 : ixOK (σ 5 q) (nW π)) (h6 : ixOK (σ 6 q) 5) (h7 : ∃ p, p ≤ d ∧ σ 7 q = nI p) : quW π (chargeF π σ q) d q := by
  refine ⟨h5, h6, ?_, h7, ?_⟩
  · show upd (σ 8) q (chargeW π σ q) q = answererF π (σ 5 q) (σ 6 q).toNatClampNeg (σ 3 0)
    rw [pk_us]
    rfl
  · show wkOK (upd (σ 8) q (chargeW π σ q) q) (upd (σ 9) q (if chargeW π σ q = -9 then 0 else π 2 (chargeW π σ q).toNatClampNeg) q)
    rw [pk_us, pk_us]
    by_cases z : chargeW π σ q = -9
    · rw [if_pos z]
      exact Or.inl ⟨z, rfl⟩
    · rw [if_neg z]
      exact Or.inr ⟨z, hp.2 _ ((answer_ok hp.1 _ _ _).resolve_left z).2⟩
theorem ch_cell (π σ : wRec) {q j k : Nat} (hk : k < 6) (h : j ≠ q) : chargeF π σ q (5 + k) j = σ (5 + k) j := by
  rcases (show k = 0 ∨ k = 1 ∨ k = 2 ∨ k = 3 ∨ k = 4 ∨ k = 5 by omega) with rfl | rfl | rfl | rfl | rfl | rfl
  · rfl
  · rfl
  · rfl
  · exact pk_un h
  · exact pk_un h
  · rfl
theorem p0_cell (σ : wRec) (w : Int32) (s : Nat) {q j k : Nat} (hk : k < 6) (h : j ≠ q) : print0 σ q w s (5 + k) j = σ (5 + k) j := by
  rcases (show k = 0 ∨ k = 1 ∨ k = 2 ∨ k = 3 ∨ k = 4 ∨ k = 5 by omega) with rfl | rfl | rfl | rfl | rfl | rfl
  · exact pk_un h
  · exact pk_un h
  · exact pk_un h
  · rfl
  · rfl
  · exact pk_un h
theorem pr_cell (π σ : wRec) (w : Int32) (s : Nat) {q j k : Nat} (hk : k < 6) (h : j ≠ q) : printF π σ q w s (5 + k) j = σ (5 + k) j := (ch_cell π _ hk h).trans (p0_cell σ w s hk h)
theorem quW_of {π σ τ : wRec} {d d' q : Nat} (h : quW π σ d q) (hd : d ≤ d') (e : ∀ k, k < 6 → τ (5 + k) q = σ (5 + k) q) (e3 : τ 3 0 = σ 3 0) : quW π τ d' q := by
  have e0 : τ 5 q = σ 5 q := e 0 (by omega)
  have e1 : τ 6 q = σ 6 q := e 1 (by omega)
  have e2 : τ 7 q = σ 7 q := e 2 (by omega)
  have e4 : τ 8 q = σ 8 q := e 3 (by omega)
  have e5 : τ 9 q = σ 9 q := e 4 (by omega)
  unfold quW
  rw [e0, e1, e2, e4, e5, e3]
  obtain ⟨h1, h2, h3, ⟨p, hp, h4⟩, h5⟩ := h
  exact ⟨h1, h2, h3, ⟨p, by omega, h4⟩, h5⟩
theorem pr_W {π σ : wRec} (hp : pnW π) {d q : Nat} {w : Int32} {s : Nat} (hw : ixOK w (nW π)) (hs : s < 5) (h0 : σ 0 0 = nI d) : quW π (printF π σ q w s) d q := by
  refine ch_W hp ?_ ?_ ⟨d, Nat.le_refl _, ?_⟩
  · show ixOK (upd (σ 5) q w q) (nW π)
    rw [pk_us]
    exact hw
  · show ixOK (upd (σ 6) q (nI s) q) 5
    rw [pk_us]
    exact ix_nI hs (by omega)
  · show upd (σ 7) q (σ 0 0) q = nI d
    rw [pk_us]
    exact h0
theorem be_W {π σ : wRec} (hp : pnW π) {d : Nat} (h : afW π σ d) (hq : nQ σ < 6) {w : Int32} {s : Nat} (hw : ixOK w (nW π)) (hs : s < 5) : afW π (beginF π σ w s) d := by
  have e : nQ (beginF π σ w s) = nQ σ + 1 := by
    show (nI (nQ σ + 1)).toNatClampNeg = nQ σ + 1
    exact nI_cl (by omega)
  refine ⟨⟨by rw [e]; rfl, by rw [e]; omega⟩, h.2.1, h.2.2.1, fun q hq2 => ?_⟩
  rw [e] at hq2
  by_cases z : q = nQ σ
  · subst z
    exact pr_W hp hw hs h.2.1
  · refine quW_of (h.2.2.2 q (by omega)) (Nat.le_refl _) (fun k hk => ?_) rfl
    rw [beginF, pr_cell _ _ _ _ hk z, va_up_ne _ _ (by omega)]
/-- who is meant, told by what it is -/
abbrev cand (w laid : Int32) (x : Nat) : Prop := nI x ≠ w ∧ (laid >>> (nI x &&& 31)) &&& 1 = 0
def ansSp (π : wRec) (w : Int32) (s : Nat) (laid : Int32) (n : Nat) (r : Int32 × Int32) : Prop :=
  (r = (-9, 0) ∧ ∀ x, x < n → cand w laid x → ¬ 0 < π (5 + x) s) ∨ ∃ y, y < n ∧ cand w laid y ∧ 0 < π (5 + y) s ∧ r = (nI y, π (5 + y) s) ∧ (∀ x, x < y → cand w laid x → π (5 + x) s < π (5 + y) s) ∧ ∀ x, x < n → cand w laid x → ¬ π (5 + y) s < π (5 + x) s
theorem ans_sp (π : wRec) (w : Int32) (s : Nat) (laid : Int32) : ∀ n, ansSp π w s laid n (ansL π w s laid n)
  | 0 => Or.inl ⟨rfl, fun x hx => absurd hx (Nat.not_lt_zero x)⟩
  | n + 1 => by
    have ih := ans_sp π w s laid n
    rw [ansL]
    by_cases hc : (nI n ≠ w ∧ (laid >>> (nI n &&& 31)) &&& 1 = 0) ∧ (ansL π w s laid n).2 < π (5 + n) s
    · rw [if_pos hc]
      rcases ih with ⟨e, h1⟩ | ⟨y, hy, hcy, h0, e, h1, h2⟩
      · rw [e] at hc
        refine Or.inr ⟨n, by omega, hc.1, hc.2, rfl, fun x hx hcx => ?_, fun x hx hcx => ?_⟩
        · exact Int32.lt_of_le_of_lt (Int32.not_lt.mp (h1 x hx hcx)) hc.2
        · by_cases z : x = n
          · subst z
            exact Int32.lt_irrefl
          · exact fun q => h1 x (by omega) hcx (Int32.lt_trans hc.2 q)
      · rw [e] at hc
        refine Or.inr ⟨n, by omega, hc.1, Int32.lt_trans h0 hc.2, rfl, fun x hx hcx => ?_, fun x hx hcx => ?_⟩
        · exact Int32.lt_of_le_of_lt (Int32.not_lt.mp (h2 x hx hcx)) hc.2
        · by_cases z : x = n
          · subst z
            exact Int32.lt_irrefl
          · exact fun q => h2 x (by omega) hcx (Int32.lt_trans hc.2 q)
    · rw [if_neg hc]
      rcases ih with ⟨e, h1⟩ | ⟨y, hy, hcy, h0, e, h1, h2⟩
      · refine Or.inl ⟨e, fun x hx hcx => ?_⟩
        by_cases z : x = n
        · subst z
          rw [e] at hc
          exact fun q => hc ⟨hcx, q⟩
        · exact h1 x (by omega) hcx
      · refine Or.inr ⟨y, by omega, hcy, h0, e, h1, fun x hx hcx => ?_⟩
        by_cases z : x = n
        · subst z
          rw [e] at hc
          exact fun q => hc ⟨hcx, q⟩
        · exact h2 x (by omega) hcx
theorem ans_un {π : wRec} {w : Int32} {s : Nat} {laid : Int32} {n : Nat} {r r' : Int32 × Int32} (h : ansSp π w s laid n r) (h' : ansSp π w s laid n r') : r = r' := by
  rcases h with ⟨e, h1⟩ | ⟨y, hy, hcy, h0, e, h1, h2⟩
  · rcases h' with ⟨e', h1'⟩ | ⟨y', hy', hcy', h0', e', h1', h2'⟩
    · rw [e, e']
    · exact absurd h0' (h1 y' hy' hcy')
  · rcases h' with ⟨e', h1'⟩ | ⟨y', hy', hcy', h0', e', h1', h2'⟩
    · exact absurd h0 (h1' y hy hcy)
    · rcases Nat.lt_trichotomy y y' with z | z | z
      · exact absurd (h1' y z hcy) (h2 y' hy' hcy')
      · subst z
        rw [e, e']
      · exact absurd (h1 y' z hcy') (h2' y hy hcy)
def setB (l w : Nat) : Nat := if l / 2 ^ w % 2 = 1 then l else l + 2 ^ w
theorem setB_eq : ∀ l, l < 64 → ∀ w, w < 6 → nI l ||| ((1 : Int32) <<< (nI w &&& 31)) = nI (setB l w) := by decide +kernel
theorem setB_lt : ∀ n, n < 7 → ∀ l, l < 2 ^ n → ∀ w, w < n → setB l w < 2 ^ n := by decide +kernel
theorem setB_bit : ∀ l, l < 64 → ∀ w, w < 6 → ∀ x, x < 6 → (((nI (setB l w) >>> (nI x &&& 31)) &&& 1 = 0) ↔ (((nI l >>> (nI x &&& 31)) &&& 1 = 0) ∧ x ≠ w)) := by decide +kernel
theorem p64 {π : wRec} (hp : wfP π) {l : Nat} (h : l < 2 ^ nW π) : l < 64 := Nat.lt_of_lt_of_le h (Nat.pow_le_pow_right (by omega) hp.2.1)
/-- one who is not meant may lay down the pen: nothing changes -/
theorem ans_lay {π : wRec} (hp : wfP π) {w : Int32} {s l y : Nat} (hl : l < 64) (hy : y < 6) (h : answererF π w s (nI l) ≠ nI y) : answererF π w s (nI (setB l y)) = answererF π w s (nI l) := by
  have h6 := hp.2.1
  have h1 := ans_sp π w s (nI l) (nW π)
  have h2 := ans_sp π w s (nI (setB l y)) (nW π)
  have hcd : ∀ x, x < nW π → (cand w (nI (setB l y)) x ↔ cand w (nI l) x ∧ x ≠ y) := fun x hx => by
    unfold cand
    rw [setB_bit l hl y hy x (by omega)]
    exact ⟨fun q => ⟨⟨q.1, q.2.1⟩, q.2.2⟩, fun q => ⟨q.1.1, q.1.2, q.2⟩⟩
  have h3 : ansSp π w s (nI (setB l y)) (nW π) (ansL π w s (nI l) (nW π)) := by
    rcases h1 with ⟨e, h1⟩ | ⟨z, hz, hcz, h0, e, h1, h4⟩
    · exact Or.inl ⟨e, fun x hx hc => h1 x hx ((hcd x hx).mp hc).1⟩
    · have hne : z ≠ y := fun q => by
        apply h
        rw [answererF, e, q]
      exact Or.inr ⟨z, hz, (hcd z hz).mpr ⟨hcz, hne⟩, h0, e, fun x hx hc => h1 x hx ((hcd x (by omega)).mp hc).1, fun x hx hc => h4 x hx ((hcd x hx).mp hc).1⟩
  rw [answererF, answererF, ans_un h2 h3]
theorem lay_W {π σ : wRec} (hp : pnW π) {d w : Nat} (h : afW π σ d) (hw : w < nW π) : afW π (layF π σ w) d := by
  have h6 := h.1.2
  have hw6 := hp.1.2.1
  obtain ⟨l, hl, el⟩ := h.2.2.1
  have h64 := p64 hp.1 hl
  have e3 : ∀ i, layL π σ w i 3 0 = nI (setB l w) := fun i => by
    induction i with
    | zero =>
      show σ 3 0 ||| ((1 : Int32) <<< (nI w &&& 31)) = nI (setB l w)
      rw [el, setB_eq l h64 w (by omega)]
    | succ i ih =>
      rw [layL]
      split
      · exact ih
      · exact ih
  have e0 : ∀ i, layL π σ w i 0 0 = nI d := fun i => by
    induction i with
    | zero => exact h.2.1
    | succ i ih =>
      rw [layL]
      split
      · exact ih
      · exact ih
  have lo : ∀ i q k, k < 6 → i ≤ q → layL π σ w i (5 + k) q = σ (5 + k) q := fun i => by
    induction i with
    | zero =>
      intro q k hk _
      show va_up σ 3 _ (5 + k) q = _
      rw [va_up_ne _ _ (by omega)]
    | succ i ih =>
      intro q k hk hq
      rw [layL]
      split
      · rw [ch_cell π _ hk (by omega)]
        exact ih q k hk (by omega)
      · exact ih q k hk (by omega)
  have n1 : ∀ i, nQ (layL π σ w i) = nQ σ := fun i => nQ_of (layL_2 π σ w i)
  have key : ∀ i, i ≤ nQ σ → ∀ q, q < i → quW π (layL π σ w i) d q := fun i => by
    induction i with
    | zero =>
      intro _ q hq
      exact absurd hq (Nat.not_lt_zero q)
    | succ i ih =>
      intro hi q hq
      have hb : ((layB σ w >>> (nI i &&& 31)) &&& 1 = 1) ↔ σ 8 i = nI w := ob_bit (σ 8) (nI w) h6 (by omega)
      have g := h.2.2.2 i (by omega)
      have c0 : layL π σ w i 5 i = σ 5 i := lo i i 0 (by omega) (Nat.le_refl _)
      have c1 : layL π σ w i 6 i = σ 6 i := lo i i 1 (by omega) (Nat.le_refl _)
      have c2 : layL π σ w i 7 i = σ 7 i := lo i i 2 (by omega) (Nat.le_refl _)
      have c3 : layL π σ w i 8 i = σ 8 i := lo i i 3 (by omega) (Nat.le_refl _)
      have c4 : layL π σ w i 9 i = σ 9 i := lo i i 4 (by omega) (Nat.le_refl _)
      rw [layL]
      by_cases z : σ 8 i = nI w
      · rw [if_pos (hb.mpr z)]
        by_cases e : q = i
        · subst e
          exact ch_W hp (by rw [c0]; exact g.1) (by rw [c1]; exact g.2.1) (by rw [c2]; exact g.2.2.2.1)
        · exact quW_of (ih (by omega) q (by omega)) (Nat.le_refl _) (fun k hk => ch_cell π _ hk e) rfl
      · rw [if_neg (fun e => z (hb.mp e))]
        by_cases e : q = i
        · subst e
          unfold quW
          rw [c0, c1, c2, c3, c4, e3]
          refine ⟨g.1, g.2.1, ?_, g.2.2.2.1, g.2.2.2.2⟩
          have g3 := g.2.2.1
          rw [el] at g3
          rw [ans_lay hp.1 h64 (by omega) (by rw [← g3]; exact z)]
          exact g3
        · exact ih (by omega) q (by omega)
  refine ⟨?_, e0 _, ⟨setB l w, setB_lt _ (by omega) l hl w hw, e3 _⟩, fun q hq => key _ (Nat.le_refl _) q (by rw [layF, n1] at hq; exact hq)⟩
  unfold wfQ
  rw [layF, n1, layL_2]
  exact h.1
theorem lI_W {π σ : wRec} (hp : pnW π) {d : Nat} (h : afW π σ d) (set : Int32) : ∀ w, w ≤ nW π → afW π (layI π σ set w) d
  | 0, _ => h
  | w + 1, hw => by
    rw [layI]
    split
    · exact lay_W hp (lI_W hp h set w (by omega)) (by omega)
    · exact lI_W hp h set w (by omega)

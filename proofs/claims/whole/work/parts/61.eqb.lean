/-! ===== the two sides: bits, laying down, counts ===== -/
def obN (r : Nat → Int32) (w : Int32) : Nat → Nat
  | 0 => 0
  | q + 1 => if r q = w then obN r w q + 2 ^ q else obN r w q
def obC (r : Nat → Int32) (w : Int32) : Nat → Nat
  | 0 => 0
  | q + 1 => if r q = w then obC r w q + 1 else obC r w q
theorem obN_lt (r : Nat → Int32) (w : Int32) : ∀ n, obN r w n < 2 ^ n
  | 0 => by show 0 < 1; omega
  | n + 1 => by
    have ih := obN_lt r w n
    have hp : 2 ^ (n + 1) = 2 ^ n + 2 ^ n := by rw [Nat.pow_succ]; omega
    rw [obN]
    split <;> omega
theorem obL_N (r : Nat → Int32) (w : Int32) : ∀ n, n ≤ 6 → obL r w n = nI (obN r w n)
  | 0, _ => rfl
  | n + 1, h => by
    rw [obL, obN, obL_N r w n (by omega)]
    split
    · exact or_bit n (by omega) _ (obN_lt r w n)
    · rfl
theorem bits_lo : ∀ n, n < 6 → ∀ o, o < 2 ^ n → ∀ q, q < n → (o + 2 ^ n) / 2 ^ q % 2 = o / 2 ^ q % 2 := by decide +kernel
theorem bits_hi : ∀ n, n < 6 → ∀ o, o < 2 ^ n → (o + 2 ^ n) / 2 ^ n % 2 = 1 ∧ o / 2 ^ n % 2 = 0 := by decide +kernel
theorem pcT_hi : ∀ n, n < 6 → ∀ o, o < 2 ^ n → pcT (o + 2 ^ n) = pcT o + 1 := by decide +kernel
theorem obN_bit (r : Nat → Int32) (w : Int32) : ∀ n, n ≤ 6 → ∀ q, q < n → (obN r w n / 2 ^ q % 2 = 1 ↔ r q = w)
  | 0, _, q, hq => absurd hq (Nat.not_lt_zero q)
  | n + 1, h, q, hq => by
    have hl := obN_lt r w n
    rw [obN]
    by_cases e : q = n
    · subst e
      have hb := bits_hi q (by omega) _ hl
      split
      · rename_i z
        exact ⟨fun _ => z, fun _ => hb.1⟩
      · rename_i z
        exact ⟨fun k => by omega, fun k => absurd k z⟩
    · have ih := obN_bit r w n (by omega) q (by omega)
      split
      · rw [bits_lo n (by omega) _ hl q (by omega)]
        exact ih
      · exact ih
theorem obC_T (r : Nat → Int32) (w : Int32) : ∀ n, n ≤ 6 → pcT (obN r w n) = obC r w n
  | 0, _ => show pcT 0 = 0 by decide
  | n + 1, h => by
    have ih := obC_T r w n (by omega)
    rw [obN, obC]
    split
    · rw [pcT_hi n (by omega) _ (obN_lt r w n), ih]
    · exact ih
theorem bc_nI : ∀ j, j < 64 → bcF (nI j) = nI (pcT j) := by decide +kernel
theorem ob_64 (r : Nat → Int32) (w : Int32) {n : Nat} (h : n ≤ 6) : obN r w n < 64 := Nat.lt_of_lt_of_le (obN_lt r w n) (Nat.pow_le_pow_right (by omega) h)
theorem bc_ob (r : Nat → Int32) (w : Int32) {n : Nat} (h : n ≤ 6) : bcF (obL r w n) = nI (obC r w n) := by
  rw [obL_N r w n h, bc_nI _ (ob_64 r w h), obC_T r w n h]
theorem ob_bit (r : Nat → Int32) (w : Int32) {n q : Nat} (h : n ≤ 6) (hq : q < n) : bitB (obL r w n) q ↔ r q = w := by
  rw [obL_N r w n h, bit_nI _ (ob_64 r w h) q (by omega)]
  exact obN_bit r w n h q hq
/-- counts -/
theorem ow_eq {σ μ : wRec} (h : afR σ (μ 8)) (w : Int32) : ∀ n, n ≤ nQ σ → owM μ w n = nI (obC (σ 8) w n)
  | 0, _ => rfl
  | n + 1, hn => by
    have a3 : σ 8 n = μ 8 (10 + 6 * n + 3) := h.2.2 n 3 (by omega) (show n < nQ σ by omega)
    rw [owM, obC, ow_eq h w n (by omega), atV, ← a3]
    split
    · rw [nI_succ]
    · simp
theorem wd_eq {σ μ : wRec} (h : afR σ (μ 8)) (w : Int32) : ∀ n, n ≤ nQ σ → wdM μ w n = lwL (σ 8) (σ 5) w n
  | 0, _ => rfl
  | n + 1, hn => by
    have a3 : σ 8 n = μ 8 (10 + 6 * n + 3) := h.2.2 n 3 (by omega) (show n < nQ σ by omega)
    have a0 : σ 5 n = μ 8 (10 + 6 * n + 0) := h.2.2 n 0 (by omega) (show n < nQ σ by omega)
    rw [wdM, lwL, wd_eq h w n (by omega), atV, atV, ← a3, ← a0]
    split
    · rfl
    · simp
theorem mko_eq {σ μ : wRec} (h : afR σ (μ 8)) (w : Int32) : ∀ n, n ≤ nQ σ → mkoL μ w n = obL (σ 8) w n
  | 0, _ => rfl
  | n + 1, hn => by
    have a3 : σ 8 n = μ 8 (10 + 6 * n + 3) := h.2.2 n 3 (by omega) (show n < nQ σ by omega)
    rw [mkoL, obL, mko_eq h w n (by omega), atV, ← a3]
    split
    · rfl
    · simp
theorem nw_eq {σ μ : wRec} (h : afR σ (μ 8)) : ∀ n, n ≤ nQ σ → nwM μ n = obL (σ 8) (-9) n
  | 0, _ => rfl
  | n + 1, hn => by
    have a3 : σ 8 n = μ 8 (10 + 6 * n + 3) := h.2.2 n 3 (by omega) (show n < nQ σ by omega)
    rw [nwM, obL, nw_eq h n (by omega), atV, ← a3]
    split
    · rfl
    · simp
/-- laying down -/
theorem layL_8 (π σ : wRec) (w q : Nat) : ∀ i, i ≤ q → layL π σ w i 8 q = σ 8 q
  | 0, _ => rfl
  | i + 1, h => by
    rw [layL]
    split
    · show upd (layL π σ w i 8) i _ q = σ 8 q
      rw [pk_un (by omega)]
      exact layL_8 π σ w q i (by omega)
    · exact layL_8 π σ w q i (by omega)
theorem ld_R {π σ μ : wRec} (hp : pgR π (μ 7)) (h : afR σ (μ 8)) (hw : wfA π σ) (w : Nat) : ∀ q, q ≤ nQ σ → afR (layL π σ w q) (ldS μ (nI w) q 8) ∧ ldC μ (nI w) q = nI (obC (σ 8) (nI w) q)
  | 0, _ => by
    refine ⟨?_, rfl⟩
    rw [ldS, va_up_self, ← h.1.2.2.1]
    exact af_laid h _
  | q + 1, hq => by
    obtain ⟨i1, i2⟩ := ld_R hp h hw w q (by omega)
    have h6 := hw.1.2
    have n1 : nQ (layL π σ w q) = nQ σ := nQ_of (layL_2 π σ w q)
    have a3 : layL π σ w q 8 q = ldS μ (nI w) q 8 (10 + 6 * q + 3) := i1.2.2 q 3 (by omega) (show q < nQ _ by rw [n1]; omega)
    have hb : ((layB σ w >>> (nI q &&& 31)) &&& 1 = 1) ↔ σ 8 q = nI w := ob_bit (σ 8) (nI w) h6 (by omega)
    rw [layL, ldS, ldC, obC, atV, ← a3, layL_8 π σ w q q (Nat.le_refl _)]
    by_cases z : σ 8 q = nI w
    · rw [if_pos (hb.mpr z), if_pos z, if_pos z, if_pos z, i2, nI_succ]
      have wf1 := layL_wf hp.2.1 hw w q
      exact ⟨ch_R (pg_of hp (ldS_of μ _ (by decide) q)) i1 (by rw [n1]; omega) (wf1.2 q (by rw [n1]; omega)).1, rfl⟩
    · rw [if_neg (fun e => z (hb.mp e)), if_neg z, if_neg z, if_neg z]
      exact ⟨i1, i2⟩
theorem lay_R {π σ μ : wRec} (hp : pgR π (μ 7)) (h : afR σ (μ 8)) (hw : wfA π σ) (w : Nat) : afR (layF π σ w) (ldS μ (nI w) (qM μ) 8) ∧ bcF (layB σ w) = ldC μ (nI w) (qM μ) := by
  have h1 := ld_R hp h hw w (nQ σ) (Nat.le_refl _)
  rw [af_n h, h1.2]
  exact ⟨h1.1, bc_ob _ _ hw.1.2⟩
theorem lI_R {π σ μ : wRec} (hp : pgR π (μ 7)) (h : afR σ (μ 8)) (hw : wfA π σ) (set : Int32) : ∀ w, afR (layI π σ set w) (ldI μ set w 8)
  | 0 => h
  | w + 1 => by
    have ih := lI_R hp h hw set w
    rw [layI, ldI]
    by_cases z : (set >>> (nI w &&& 31)) &&& 1 = 1
    · rw [if_pos z, if_pos z]
      exact (lay_R (pg_of hp (ldI_of μ set (by decide) w)) ih (layI_wf hp.2.1 hw set w) w).1
    · rw [if_neg z, if_neg z]
      exact ih
theorem gN_R {π σ μ : wRec} (hp : pgR π (μ 7)) (h : afR σ (μ 8)) (hw : wfA π σ) : ∀ n, afR (passI π σ n) (gyN μ n 8)
  | 0 => h
  | n + 1 => by
    rw [passI, gyN]
    exact (pass_R (pg_of hp (gyN_of μ (by decide) (by decide) n)) (gN_R hp h hw n) (passI_wf hp.2.1 hw n)).1

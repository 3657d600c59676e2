/-! ===== odds: the same ===== -/
def sumN (g : Nat → Nat) : Nat → Nat
  | 0 => 0
  | n + 1 => sumN g n + g n
theorem sum_congr {g g' : Nat → Nat} : ∀ n, (∀ i, i < n → g i = g' i) → sumN g n = sumN g' n
  | 0, _ => rfl
  | n + 1, h => by rw [sumN, sumN, sum_congr n (fun i hi => h i (by omega)), h n (by omega)]
theorem sum_le {g g' : Nat → Nat} : ∀ n, (∀ i, i < n → g i ≤ g' i) → sumN g n ≤ sumN g' n
  | 0, _ => Nat.le_refl _
  | n + 1, h => by
    have h1 := sum_le n (fun i hi => h i (by omega))
    have h2 := h n (by omega)
    rw [sumN, sumN]
    omega
theorem sum_0 {g : Nat → Nat} {a : Nat} (h : ∀ i, a ≤ i → i < 64 → g i = 0) : ∀ m, a + m ≤ 64 → sumN g (a + m) = sumN g a
  | 0, _ => rfl
  | m + 1, hm => by
    show sumN g (a + m) + g (a + m) = _
    rw [h (a + m) (by omega) (by omega), sum_0 h m (by omega)]
    rfl
def wgt (p O i : Nat) : Nat := p ^ pcT i * (10 - p) ^ (pcT O - pcT i)
def gB (p O i : Nat) : Nat := if i &&& O = i then wgt p O i else 0
theorem sB_all : ∀ O, O < 64 → ∀ p, p < 11 → sumN (gB p O) 64 = 10 ^ pcT O := by decide +kernel
def cntB (j : Nat) : Nat → Nat
  | 0 => 0
  | x + 1 => cntB j x + (if nbit j x then 1 else 0)
theorem cnt_T : ∀ n, n < 7 → ∀ j, j < 2 ^ n → cntB j n = pcT j := by decide +kernel
theorem fN_bit : ∀ n, n < 7 → ∀ l, l < 64 → ∀ x, x < 6 → (fN n l / 2 ^ x % 2 = 1 ↔ (x < n ∧ ¬ l / 2 ^ x % 2 = 1)) := by decide +kernel
theorem setB_b : ∀ l, l < 64 → ∀ w, w < 6 → ∀ x, x < 6 → (setB l w / 2 ^ x % 2 = 1 ↔ (l / 2 ^ x % 2 = 1 ∨ x = w)) := by decide +kernel
theorem fN_setB : ∀ n, n < 7 → ∀ l, l < 64 → ∀ w, w < 6 → clr (fN n l) w = fN n (setB l w) := by decide +kernel
theorem fN_2 : ∀ n, n < 7 → ∀ l, l < 64 → fN n l < 2 ^ n := by decide +kernel
theorem sub_pc : ∀ s, s < 64 → ∀ o, o < 64 → (¬ s &&& o = s ∨ pcT s ≤ pcT o) := by decide +kernel
theorem sub_bit : ∀ s, s < 64 → ∀ o, o < 64 → (¬ s &&& o = s ∨ ∀ x, x < 6 → (¬ s / 2 ^ x % 2 = 1 ∨ o / 2 ^ x % 2 = 1)) := by decide +kernel
theorem setB_64 : ∀ l, l < 64 → ∀ w, w < 6 → setB l w < 64 := by decide +kernel
theorem mp_eq {μ : wRec} {w : Int32} {p s O n : Nat} (hO : ∀ x, x < n → (mooX μ w x ↔ nbit O x)) (hs : ∀ x, x < n → nbit s x → nbit O x) (h6 : n ≤ 6) (h64 : s < 64) : ∀ x, x ≤ n → cntB s x ≤ cntB O x ∧ mpN μ w p s x = p ^ cntB s x * (10 - p) ^ (cntB O x - cntB s x)
  | 0, _ => ⟨Nat.le_refl _, rfl⟩
  | x + 1, hx => by
    obtain ⟨i1, i2⟩ := mp_eq (p := p) hO hs h6 h64 x (by omega)
    have hb := bit_nI s h64 x (by omega)
    rw [mpN, cntB, cntB, i2]
    by_cases z : nbit O x
    · rw [if_pos ((hO x (by omega)).mpr z), if_pos z]
      by_cases y : nbit s x
      · rw [if_pos (hb.mpr y), if_pos y]
        refine ⟨by omega, ?_⟩
        rw [show cntB O x + 1 - (cntB s x + 1) = cntB O x - cntB s x by omega, Nat.pow_succ]
        simp only [Nat.mul_assoc, Nat.mul_comm, Nat.mul_left_comm]
      · rw [if_neg (fun k => y (hb.mp k)), if_neg y]
        refine ⟨by omega, ?_⟩
        rw [Nat.add_zero, show cntB O x + 1 - cntB s x = (cntB O x - cntB s x) + 1 by omega, Nat.pow_succ, Nat.mul_assoc]
    · have y : ¬ nbit s x := fun k => z (hs x (by omega) k)
      rw [if_neg (fun k => z ((hO x (by omega)).mp k)), if_neg z, if_neg y]
      exact ⟨by omega, by rw [Nat.add_zero, Nat.add_zero, Nat.mul_one]⟩
/-- what odds are about: the others -/
def oO (π : wRec) (l w : Nat) : Nat := fN (nW π) (setB l w)
section ODDS
variable {π σ μ : wRec} {d l w : Nat}
theorem oth_eq (hp : wfP π) (hl : l < 64) (el : σ 3 0 = nI l) (hw : w < nW π) : othB π σ (nI w) = nI (oO π l w) := by
  have h6 := hp.2.1
  rw [othB, hp.1, el, free_N (nW π) (by omega) l hl, clr_eq _ (fN_lt _ (by omega) l hl) w (by omega), fN_setB _ (by omega) l hl w (by omega)]
  rfl
theorem oO_lt (hp : wfP π) (hl : l < 64) (hw : w < nW π) : oO π l w < 2 ^ nW π ∧ oO π l w < 64 := by
  have h6 := hp.2.1
  have h1 := fN_2 (nW π) (by omega) _ (setB_64 l hl w (by omega))
  exact ⟨h1, p64 hp h1⟩
theorem moX_eq (hp : pgR π (μ 7)) (hl : l < 64) (el : μ 8 2 = nI l) (hw : w < nW π) {x : Nat} (hx : x < nW π) : mooX μ (nI w) x ↔ nbit (oO π l w) x := by
  have h6 := hp.2.1.2.1
  have h1 : laidM μ (nI x) ↔ nbit l x := by
    unfold laidM
    rw [el]
    exact bit_nI l hl x (by omega)
  unfold mooX nbit oO
  rw [h1, fN_bit _ (by omega) _ (setB_64 l hl w (by omega)) x (by omega), setB_b l hl w (by omega) x (by omega), Ne, nI_eq (by omega) (by omega)]
  constructor
  · intro k
    exact ⟨hx, fun q => q.elim k.2 k.1⟩
  · intro k
    exact ⟨fun q => k.2 (Or.inr q), fun q => k.2 (Or.inl q)⟩
theorem moK_eq (hp : pgR π (μ 7)) (hl : l < 64) (el : μ 8 2 = nI l) (hw : w < nW π) {s : Nat} (hs : s < 2 ^ nW π) : mooK μ (nI w) s ↔ s &&& oO π l w = s := by
  have h6 := hp.2.1.2.1
  have h64 := p64 hp.2.1 hs
  unfold mooK oO
  rw [el, setB_eq l hl w (by omega), and_N s h64 _ (setB_64 l hl w (by omega)), fN_sub _ (by omega) _ (setB_64 l hl w (by omega)) s h64]
  exact ⟨fun k => ⟨hs, k⟩, fun k => k.2⟩
theorem moP_eq (hp : pgR π (μ 7)) (hl : l < 64) (el : μ 8 2 = nI l) (hw : w < nW π) {s : Nat} (hs : s < 2 ^ nW π) (hsub : s &&& oO π l w = s) (p : Nat) : mpN μ (nI w) p s (nM μ) = wgt p (oO π l w) s := by
  have h6 := hp.2.1.2.1
  have h64 := p64 hp.2.1 hs
  have ho := oO_lt hp.2.1 hl hw
  have hb := (sub_bit s h64 _ ho.2).resolve_left (fun k => k hsub)
  have h1 := (mp_eq (p := p) (fun x hx => moX_eq hp hl el hw hx) (fun x hx k => (hb x (by omega)).resolve_left (fun q => q k)) h6 h64 (nW π) (Nat.le_refl _)).2
  rw [pg_n hp, h1, cnt_T _ (by omega) s hs, cnt_T _ (by omega) _ ho.1]
  rfl
theorem mb_eqN (hp : pgR π (μ 7)) (hl : l < 64) (el : μ 8 2 = nI l) (hw : w < nW π) (p : Nat) : ∀ s, s ≤ 2 ^ nW π → mbN μ (nI w) p s = sumN (gB p (oO π l w)) s
  | 0, _ => rfl
  | s + 1, hs => by
    rw [mbN, sumN, mb_eqN hp hl el hw p s (by omega), gB]
    have hk := moK_eq hp hl el hw (s := s) (by omega)
    by_cases z : s &&& oO π l w = s
    · rw [if_pos (hk.mpr z), if_pos z, moP_eq hp hl el hw (by omega) z]
    · rw [if_neg (fun k => z (hk.mp k)), if_neg z]
      rfl
theorem sum_hi (hp : wfP π) (hl : l < 64) (hw : w < nW π) {g : Nat → Nat} (hg : ∀ i, ¬ i &&& oO π l w = i → g i = 0) : sumN g 64 = sumN g (2 ^ nW π) := by
  have h6 := hp.2.1
  have p6 : 2 ^ nW π ≤ 64 := Nat.pow_le_pow_right (by omega) h6
  have ho := oO_lt hp hl hw
  have := sum_0 (g := g) (a := 2 ^ nW π) (fun i hi h64 => hg i (fun k => by
    have := sub_le' i h64 _ ho.2 k
    omega)) (64 - 2 ^ nW π) (by omega)
  rw [show 2 ^ nW π + (64 - 2 ^ nW π) = 64 by omega] at this
  exact this
theorem moB_eq (hp : pgR π (μ 7)) (hl : l < 64) (el : μ 8 2 = nI l) (hw : w < nW π) {p2 : Int32} (hp2 : p2.toNatClampNeg < 11) : moB μ (nI w) p2 = 10 ^ pcT (oO π l w) := by
  have ho := oO_lt hp.2.1 hl hw
  rw [moB, pg_n hp, mb_eqN hp hl el hw _ _ (Nat.le_refl _), ← sum_hi hp.2.1 hl hw (fun i hi => by rw [gB, if_neg hi]), sB_all _ ho.2 _ hp2]
abbrev gA (π σ : wRec) (w : Int32) (s p O i : Nat) : Nat := if i &&& O = i ∧ hlwB π (σ 3 0 ||| nI i) w s then wgt p O i else 0
theorem mh_eq (hp : pgR π (μ 7)) (hl : l < 64) (el : μ 8 2 = nI l) (e3 : σ 3 0 = μ 8 2) (hw : w < nW π) {x : Int32} (hx : ixOK x 5) {s : Nat} (hk : mooK μ (nI w) s) : mhlB μ (nI w) x s ↔ hlwB π (σ 3 0 ||| nI s) (nI w) x.toNatClampNeg := by
  have h6 := hp.2.1.2.1
  have hp' : pgR π (moS μ (nI w) x s 7) := pg_of hp (moS_of μ _ _ (by decide) s)
  have h1 := hl_eq hp' (laid := σ 3 0 ||| nI s) (w := nI w) (x := x) (ix_nI hw (by omega)) hx
  rw [h1, mhlB, moS, if_pos hk, e3]
theorem ma_eqN (hp : pgR π (μ 7)) (hl : l < 64) (el : μ 8 2 = nI l) (e3 : σ 3 0 = μ 8 2) (hw : w < nW π) {x : Int32} (hx : ixOK x 5) (p : Nat) : ∀ s, s ≤ 2 ^ nW π → maN μ (nI w) x p s = sumN (gA π σ (nI w) x.toNatClampNeg p (oO π l w)) s
  | 0, _ => rfl
  | s + 1, hs => by
    rw [maN, sumN, ma_eqN hp hl el e3 hw hx p s (by omega), gA]
    have hk := moK_eq hp hl el hw (s := s) (by omega)
    by_cases z : s &&& oO π l w = s
    · have hm := mh_eq (σ := σ) hp hl el e3 hw hx (hk.mpr z)
      rw [if_pos (hk.mpr z)]
      by_cases y : hlwB π (σ 3 0 ||| nI s) (nI w) x.toNatClampNeg
      · rw [if_pos (hm.mpr y), if_pos ⟨z, y⟩, moP_eq hp hl el hw (by omega) z]
      · rw [if_neg (fun k => y (hm.mp k)), if_neg (fun k => y k.2)]
        rfl
    · rw [if_neg (fun k => z (hk.mp k)), if_neg (fun k => z k.1)]
      rfl
theorem moA_eq (hp : pgR π (μ 7)) (hl : l < 64) (el : μ 8 2 = nI l) (e3 : σ 3 0 = μ 8 2) (hw : w < nW π) {x : Int32} (hx : ixOK x 5) (p2 : Int32) : moA μ (nI w) x p2 = sumN (gA π σ (nI w) x.toNatClampNeg p2.toNatClampNeg (oO π l w)) 64 := by
  rw [moA, pg_n hp, ma_eqN hp hl el e3 hw hx _ _ (Nat.le_refl _), sum_hi hp.2.1 hl hw (fun i hi => by rw [gA, if_neg (fun k => hi k.1)])]
theorem moAB (hp : pgR π (μ 7)) (hl : l < 64) (el : μ 8 2 = nI l) (e3 : σ 3 0 = μ 8 2) (hw : w < nW π) {x : Int32} (hx : ixOK x 5) {p2 : Int32} (hp2 : p2.toNatClampNeg < 11) : moA μ (nI w) x p2 ≤ moB μ (nI w) p2 := by
  have ho := oO_lt hp.2.1 hl hw
  rw [moA_eq (σ := σ) hp hl el e3 hw hx, moB_eq hp hl el hw hp2, ← sB_all _ ho.2 _ hp2]
  refine sum_le 64 (fun i hi => ?_)
  unfold gA gB
  by_cases z : i &&& oO π l w = i
  · rw [if_pos z]
    split <;> omega
  · rw [if_neg (fun k => z k.1), if_neg z]
    exact Nat.le_refl _
theorem odds_H (hp : pgR π (μ 7)) (hl : l < 64) (el : μ 8 2 = nI l) (e3 : σ 3 0 = μ 8 2) (hw : w < nW π) {x : Int32} (hx : ixOK x 5) {p2 : Int32} (hp2 : p2.toNatClampNeg < 11) : mooH μ (nI w) x p2 := by
  have h1 := moAB (σ := σ) hp hl el e3 hw hx hp2
  have ho := oO_lt hp.2.1 hl hw
  have h2 := pcT_le _ ho.2
  have h3 : 10 ^ pcT (oO π l w) ≤ 10 ^ 6 := Nat.pow_le_pow_right (by omega) h2
  have h4 : 0 < 10 ^ pcT (oO π l w) := Nat.pow_pos (by omega)
  unfold mooH
  rw [moB_eq hp hl el hw hp2] at h1 ⊢
  omega
theorem cd_eq : ∀ f a b, b < f → a < 2147483648 → b < 2147483648 → cdL f (nI a) (nI b) = nI (Nat.gcd a b)
  | 0, a, b, h, _, _ => absurd h (Nat.not_lt_zero b)
  | f + 1, a, b, h, ha, hb => by
    rw [cdL]
    by_cases z : b = 0
    · subst z
      rw [if_pos (show nI 0 = 0 from rfl), Nat.gcd_zero_right]
    · have h0 : 0 < b := by omega
      rw [if_neg (nI_ne0 h0 hb), pk_rem ha h0 hb, cd_eq f b (a % b) (by have := Nat.mod_lt a h0; omega) hb (by have := Nat.mod_lt a h0; omega), gcd_step]
theorem odU_eq (hp : wfP π) (hl : l < 64) (hw : w < nW π) (W : Int32) (s p : Nat) (hp2 : p < 11) : ∀ i, i ≤ 64 → odU π σ W s (nI p) (nI (oO π l w)) i = nI (sumN (gA π σ W s p (oO π l w)) i)
  | 0, _ => rfl
  | i + 1, hi => by
    have ho := oO_lt hp hl hw
    have hs := sub_N i (by omega) _ ho.2
    rw [odU, sumN, odU_eq hp hl hw W s p hp2 i (by omega), gA]
    by_cases z : i &&& oO π l w = i ∧ hlwB π (σ 3 0 ||| nI i) W s
    · have hpc := (sub_pc i (by omega) _ ho.2).resolve_left (fun k => k z.1)
      have hpo := pcT_le _ ho.2
      rw [if_pos ⟨hs.mpr z.1, z.2⟩, if_pos z, bc_nI i (by omega), bc_nI _ ho.2, pk_sub hpc, tn, tn, nI_cl (by omega), nI_cl (by omega), show (10 : Int32) = nI 10 from rfl, pk_sub (by omega), powF_nat, powF_nat, pk_mul, nI_add]
      rfl
    · rw [if_neg (fun k => z ⟨hs.mp k.1, k.2⟩), if_neg z]
      rfl
theorem odR_eq (hp : pgR π (μ 7)) (hl : l < 64) (el : μ 8 2 = nI l) (e3 : σ 3 0 = μ 8 2) (hw : w < nW π) {x : Int32} (hx : ixOK x 5) {p2 : Int32} (hp0 : p2 = nI p2.toNatClampNeg) (hp2 : p2.toNatClampNeg < 11) (x3 : Int32) : odR π σ (nI w) x.toNatClampNeg p2 (othB π σ (nI w)) x3 = if x3 = 0 then nI (moA μ (nI w) x p2 / Nat.gcd (moA μ (nI w) x p2) (moB μ (nI w) p2)) else nI (moB μ (nI w) p2 / Nat.gcd (moA μ (nI w) x p2) (moB μ (nI w) p2)) := by
  have h6 := hp.2.1.2.1
  have hH := odds_H (σ := σ) hp hl el e3 hw hx hp2
  have ho := oO_lt hp.2.1 hl hw
  have eO := oth_eq hp.2.1 hl (e3.trans el) hw
  have eU : odU π σ (nI w) x.toNatClampNeg p2 (othB π σ (nI w)) 64 = nI (moA μ (nI w) x p2) := by
    rw [eO, moA_eq (σ := σ) hp hl el e3 hw hx]
    have := odU_eq (σ := σ) hp.2.1 hl hw (nI w) x.toNatClampNeg p2.toNatClampNeg hp2 64 (Nat.le_refl _)
    rw [← hp0] at this
    exact this
  have eN : odN (othB π σ (nI w)) = moB μ (nI w) p2 := by
    rw [odN, eO, bc_nI _ ho.2, tn, nI_cl (by have := pcT_le _ ho.2; omega), moB_eq hp hl el hw hp2]
  have eG : odG π σ (nI w) x.toNatClampNeg p2 (othB π σ (nI w)) = nI (Nat.gcd (moA μ (nI w) x p2) (moB μ (nI w) p2)) := by
    rw [odG, eU, eN, cd_eq _ _ _ (by omega) hH.2.2 hH.2.1]
  have g0 : 0 < Nat.gcd (moA μ (nI w) x p2) (moB μ (nI w) p2) := Nat.gcd_pos_of_pos_right _ hH.1
  have g1 : Nat.gcd (moA μ (nI w) x p2) (moB μ (nI w) p2) < 2147483648 := Nat.lt_of_le_of_lt (Nat.gcd_le_right _ hH.1) hH.2.1
  rw [odR, eG, if_neg (nI_ne0 g0 g1), eU, eN]
  by_cases z : x3 = 0
  · rw [if_pos z, if_pos z, pk_div hH.2.2 g0 g1]
  · rw [if_neg z, if_neg z, pk_div hH.2.1 g0 g1]
end ODDS

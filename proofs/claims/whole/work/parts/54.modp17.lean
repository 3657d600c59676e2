/-! ===== LastWordModel: mayBe, peace, as functions ===== -/
def mmbN (μ : wRec) (K : Nat) (v : Int32) : wRec := va_up μ 7 (upd (μ 7) K v)
theorem upd_self (f : Nat → Int32) (k : Nat) : upd f k (f k) = f := by
  funext j
  by_cases h : j = k
  · subst h
    rw [pk_us]
  · rw [pk_un h]
theorem upd_upd (f : Nat → Int32) (k : Nat) (a b : Int32) : upd (upd f k a) k b = upd f k b := by
  funext j
  by_cases h : j = k
  · subst h
    rw [pk_us, pk_us]
  · rw [pk_un h, pk_un h, pk_un h]
theorem mmbN_self (μ : wRec) (K : Nat) : mmbN μ K (μ 7 K) = μ := by
  rw [mmbN, upd_self]
  exact up_self rfl
theorem mmbN_of (μ : wRec) (K : Nat) (v : Int32) {k : Nat} (h : k ≠ 7) : mmbN μ K v k = μ k := va_up_ne _ _ h
theorem mmbN_0 (μ : wRec) {K : Nat} (v : Int32) (h : 0 ≠ K) : mmbN μ K v 7 0 = μ 7 0 := by
  rw [mmbN, va_up_self, pk_un h]
theorem mmbN_W {μ : wRec} (h : wfW μ) {K : Nat} (v : Int32) (hK : 0 ≠ K) : wfW (mmbN μ K v) := by
  unfold wfW nM at *
  rw [mmbN_0 μ v hK]
  exact h
abbrev moOK (ν : wRec) (f : Nat) : Prop := mnF ν (ν 15 (3 * f)) (ν 15 (3 * f + 1)).toNatClampNeg 0 = ν 15 (3 * f + 2)
def msL (ν : wRec) : Nat → Int32
  | 0 => 1
  | f + 1 => if msL ν f = 0 then 0 else if moOK ν f then 1 else 0
def wfFS (μ : wRec) : Prop := ∀ f, f < fM μ → ixOK (μ 15 (3 * f + 1)) 5
def mmbL (μ : wRec) (K : Nat) : Nat → Int32
  | 0 => 0
  | v + 1 => mmbL μ K v ||| (if msL (mmbN μ K (nI v)) (fM μ) = 0 then 0 else (1 : Int32) <<< (nI v &&& 31))
abbrev mmbK (w s : Int32) : Nat := 3 + 7 * w.toNatClampNeg + 2 + s.toNatClampNeg
def mmbV (μ : wRec) (w s : Int32) : Int32 := if isWM μ w ∧ isSM s then mmbL μ (mmbK w s) 10 else -1
/-- peace -/
theorem gyT_of (ν : wRec) (q : Nat) {k : Nat} (h : k ≠ 8) (h2 : k ≠ 11) : gyT ν q k = ν k := by
  unfold gyT
  split
  · rfl
  · split
    · exact prF_of _ _ _ _ h
    · split
      · rw [ltM, va_up_ne _ _ h2, va_up_ne _ _ h]
      · rfl
theorem gyS_of (μ : wRec) {k : Nat} (h : k ≠ 8) (h2 : k ≠ 11) : ∀ i, gyS μ i k = μ k
  | 0 => by rw [gyS, gy0, va_up_ne _ _ h2, va_up_ne _ _ h, gwS_of μ h]
  | i + 1 => by rw [gyS, gyT_of _ _ h h2, gyS_of μ h h2 i]
theorem gyN_of (μ : wRec) {k : Nat} (h : k ≠ 8) (h2 : k ≠ 11) : ∀ i, gyN μ i k = μ k
  | 0 => rfl
  | i + 1 => by rw [gyN, gyS_of _ h h2, gyN_of μ h h2 i]
def ldI (μ : wRec) (set : Int32) : Nat → wRec
  | 0 => μ
  | w + 1 => if bitB set w then ldS (ldI μ set w) (nI w) (qM (ldI μ set w)) else ldI μ set w
theorem ldI_of (μ : wRec) (set : Int32) {k : Nat} (h : k ≠ 8) : ∀ i, ldI μ set i k = μ k
  | 0 => rfl
  | i + 1 => by
    rw [ldI]
    split
    · rw [ldS_of _ _ h, ldI_of μ set h i]
    · exact ldI_of μ set h i
theorem ldS_G {μ : wRec} (h : wfG μ) (w : Int32) : ∀ i, wfG (ldS μ w i)
  | 0 => by
    refine wfG_of (ν := ldS μ w 0) h (ldS_of μ w (by decide) 0) (ldS_q μ w 0) (fun p hp => ?_) (fun p hp => ?_)
    · rw [ldS_s]; exact h.2.2.1 p hp
    · rw [atV, ldS, va_up_self, pk_un (by omega)]; exact h.2.2.2 p hp
  | i + 1 => by
    have ih := ldS_G h w i
    rw [ldS]
    split
    · exact mnsF_G ih
    · exact ih
theorem ldI_G {μ : wRec} (h : wfG μ) (set : Int32) : ∀ i, wfG (ldI μ set i)
  | 0 => h
  | i + 1 => by
    rw [ldI]
    split
    · exact ldS_G (ldI_G h set i) _ _
    · exact ldI_G h set i
/-- the states and the best so far -/
abbrev pcC (ν : wRec) (b : Int32) (s : Nat) : Prop := nI s &&& ν 12 2 = 0 ∧ (b = -9 ∨ pcT s < pcT b.toNatClampNeg)
abbrev pcD (ν : wRec) (q s : Nat) : wRec := ldI ν (nI s) (nM ν)
def pcM (α : wRec) (q : Nat) : Nat → wRec × Int32
  | 0 => (α, -9)
  | s + 1 => if pcC (pcM α q s).1 (pcM α q s).2 s then (bkF (clF (pcD (pcM α q s).1 q s) q), if clV (pcD (pcM α q s).1 q s) q = -9 then (pcM α q s).2 else nI s) else pcM α q s
theorem clF_of (μ : wRec) (q : Nat) {k : Nat} (h : k ≠ 8) (h2 : k ≠ 11) : clF μ q k = μ k := gyN_of μ h h2 _
theorem bkF_of (μ : wRec) {k : Nat} (h : k ≠ 8) : bkF μ k = μ k := va_up_ne _ _ h
theorem pcM_of (α : wRec) (q : Nat) {k : Nat} (h : k ≠ 8) (h2 : k ≠ 11) : ∀ s, (pcM α q s).1 k = α k
  | 0 => rfl
  | s + 1 => by
    rw [pcM]
    split
    · show bkF (clF (pcD (pcM α q s).1 q s) q) k = α k
      rw [bkF_of _ h, clF_of _ _ h h2, pcD, ldI_of _ _ h, pcM_of α q h h2 s]
    · exact pcM_of α q h h2 s
theorem bk_G {μ ν : wRec} (h : wfG μ) (e7 : ν 7 = μ 7) (e12 : ∀ k, k < 46 → ν 12 k = μ 8 k) : wfG (bkF ν) := by
  have h6 := h.2.1.2
  have e8 : ∀ k, k < 46 → bkF ν 8 k = μ 8 k := fun k hk => by rw [bkF, va_up_self, if_pos hk, e12 k hk]
  refine wfG_of (ν := bkF ν) h ((bkF_of ν (by decide)).trans e7) (e8 1 (by omega)) (fun p hp => ?_) (fun p hp => ?_)
  · rw [e8 _ (by omega)]; exact h.2.2.1 p hp
  · rw [atV, e8 _ (by omega)]; exact h.2.2.2 p hp
theorem asF_12 (μ : wRec) {k : Nat} (h : k < 46) : asF μ 12 k = μ 8 k := by
  rw [asF, va_up_self, if_pos h]
theorem pcM_G {μ : wRec} (h : wfG μ) (q : Nat) : ∀ s, wfG (pcM (asF μ) q s).1
  | 0 => asF_G h
  | s + 1 => by
    have ih := pcM_G h q s
    have e7 := pcM_of (asF μ) q (k := 7) (by decide) (by decide) s
    have e12 := pcM_of (asF μ) q (k := 12) (by decide) (by decide) s
    rw [pcM]
    split
    · refine bk_G h ?_ (fun k hk => ?_)
      · rw [clF_of _ _ (by decide) (by decide), pcD, ldI_of _ _ (by decide), e7, asF, va_up_ne _ _ (by decide)]
      · rw [clF_of _ _ (by decide) (by decide), pcD, ldI_of _ _ (by decide), e12, asF_12 μ hk]
    · exact ih
theorem pcM_b (α : wRec) (q : Nat) : ∀ s, s ≤ 64 → (pcM α q s).2 = -9 ∨ ixOK (pcM α q s).2 64
  | 0, _ => Or.inl rfl
  | s + 1, hs => by
    have ih := pcM_b α q s (by omega)
    rw [pcM]
    split
    · show (if _ then (pcM α q s).2 else nI s) = -9 ∨ ixOK (if _ then (pcM α q s).2 else nI s) 64
      split
      · exact ih
      · have e : (nI s).toNatClampNeg = s := nI_cl (by omega)
        exact Or.inr ⟨by rw [e], by rw [e]; omega⟩
    · exact ih
theorem shl_1 : ∀ n, n < 7 → (1 : Int32) <<< (nI n &&& 31) = nI (2 ^ n) := by decide
def mpcE (μ : wRec) (q : Nat) : wRec × Int32 := pcM (asF μ) q (2 ^ nM μ)
def mpcV (μ : wRec) (q : Int32) : Int32 := if isQM μ q then (mpcE μ q.toNatClampNeg).2 else -1
def mpcF (μ : wRec) (q : Int32) : wRec := if isQM μ q then (mpcE μ q.toNatClampNeg).1 else μ

/-! ===== LastWord: what was found, odds, kinds, images ===== -/
abbrev fdOK (π : wRec) (w s x : Int32) : Prop := (isWr π w ∧ isSb s) ∧ (x = -1 ∨ isWr π x)
def foundV (π φ : wRec) (w s x : Int32) : Int32 := if fdOK π w s x then (if nF φ < 5 then nI (nF φ + 1) else -3) else -1
def foundF (π φ : wRec) (w s x : Int32) : wRec := if fdOK π w s x then addF φ w (tn s) x else φ
theorem setN_set (π : wRec) (x s : Nat) (a b : Int32) : setN (setN π x s a) x s b = setN π x s b := by
  funext k
  unfold setN
  by_cases h : k = 5 + x
  · simp only [if_pos h]
    funext j
    by_cases e : j = s
    · subst e
      rw [pk_us, pk_us]
    · rw [pk_un e, pk_un e, pk_un e]
  · simp only [if_neg h]
theorem setN_self (π : wRec) (x s : Nat) : setN π x s (π (5 + x) s) = π := by
  funext k
  unfold setN
  by_cases h : k = 5 + x
  · rw [if_pos h]
    subst h
    funext j
    by_cases e : j = s
    · subst e
      rw [pk_us]
    · rw [pk_un e]
  · rw [if_neg h]
theorem setN_row {π : wRec} {x s k : Nat} {v : Int32} (h : k < 5) : setN π x s v k = π k := by
  unfold setN
  rw [if_neg (by omega)]
theorem setN_wf {π : wRec} (hp : wfP π) (x s : Nat) (v : Int32) : wfP (setN π x s v) := by
  unfold wfP nW at *
  rw [setN_row (by omega), setN_row (by omega)]
  exact hp
abbrev soAll (π φ : wRec) : Prop := ∀ i, i < nF φ → soOK π φ i
def mbL (π φ : wRec) (w s : Nat) : Nat → Int32
  | 0 => 0
  | v + 1 => if soAll (setN π w s (nI v)) φ then mbL π φ w s v ||| ((1 : Int32) <<< (nI v &&& 31)) else mbL π φ w s v
def mayBeV (π φ : wRec) (w s : Int32) : Int32 := if isWr π w ∧ isSb s then mbL π φ (tn w) (tn s) 10 else -1
def powF (b : Int32) : Nat → Int32
  | 0 => 1
  | e + 1 => powF b e * b
def cdL : Nat → Int32 → Int32 → Int32
  | 0, x, _ => x
  | f + 1, x, y => if y = 0 then x else cdL f y (x - x / y * y)
def othB (π σ : wRec) (w : Int32) : Int32 := ((((1 : Int32) <<< (π 0 0 &&& 31)) - 1) &&& (σ 3 0 ^^^ (-1))) &&& (((1 : Int32) <<< (w &&& 31)) ^^^ (-1))
abbrev odC (π σ : wRec) (w : Int32) (s : Nat) (oth : Int32) (i : Nat) : Prop := nI i &&& (oth ^^^ (-1)) = 0 ∧ hlwB π (σ 3 0 ||| nI i) w s
def odU (π σ : wRec) (w : Int32) (s : Nat) (p oth : Int32) : Nat → Int32
  | 0 => 0
  | i + 1 => if odC π σ w s oth i then odU π σ w s p oth i + powF p (tn (bcF (nI i))) * powF (10 - p) (tn (bcF oth - bcF (nI i))) else odU π σ w s p oth i
def odN (oth : Int32) : Nat := 10 ^ tn (bcF oth)
def odG (π σ : wRec) (w : Int32) (s : Nat) (p oth : Int32) : Int32 := cdL (odN oth + 1) (odU π σ w s p oth 64) (nI (odN oth))
def odR (π σ : wRec) (w : Int32) (s : Nat) (p oth x : Int32) : Int32 := if odG π σ w s p oth = 0 then -9 else if x = 0 then odU π σ w s p oth 64 / odG π σ w s p oth else nI (odN oth) / odG π σ w s p oth
abbrev odOK (π : wRec) (w s p x : Int32) : Prop := (isWr π w ∧ isSb s) ∧ (0 ≤ p ∧ p ≤ 10) ∧ 0 ≤ x ∧ x ≤ 1
def oddsV (π σ : wRec) (w s p x : Int32) : Int32 := if odOK π w s p x then (if laidB σ w then -2 else odR π σ w (tn s) p (othB π σ w) x) else -1
theorem powF_nat (b : Nat) : ∀ e, powF (nI b) e = nI (b ^ e)
  | 0 => rfl
  | e + 1 => by rw [powF, powF_nat b e, pk_mul, Nat.pow_succ]
theorem nI_and (a b : Nat) : nI a &&& nI b = nI (a &&& b) := by
  apply Int32.toBitVec_inj.1
  show BitVec.ofNat 32 a &&& BitVec.ofNat 32 b = BitVec.ofNat 32 (a &&& b)
  apply BitVec.eq_of_getLsbD_eq
  intro i hi
  simp [hi]
theorem nI_all (x : Int32) : ∃ n, n < 4294967296 ∧ x = nI n := ⟨x.toBitVec.toNat, x.toBitVec.isLt, Int32.toBitVec_inj.mp (by show _ = BitVec.ofNat 32 _; simp)⟩
theorem and_small (x : Int32) {a : Nat} (ha : a < 64) : ∃ j, j < 64 ∧ nI a &&& x = nI j := by
  obtain ⟨n, hn, e⟩ := nI_all x
  refine ⟨a &&& n, Nat.lt_of_le_of_lt Nat.and_le_left ha, ?_⟩
  rw [e, nI_and]
theorem shl_pow : ∀ n : Fin 7, ((1 : Int32) <<< (nI n.val &&& 31)) - 1 = nI (2 ^ n.val - 1) ∧ 2 ^ n.val - 1 < 64 := by decide
theorem shl_all (n : Fin 7) : ∃ j : Nat, j < 64 ∧ ((1 : Int32) <<< (nI n.val &&& 31)) - 1 = nI j := ⟨2 ^ n.val - 1, (shl_pow n).2, (shl_pow n).1⟩
theorem oth_small {π : wRec} (hp : wfN π) (σ : wRec) (w : Int32) : ∃ o, o < 64 ∧ othB π σ w = nI o := by
  obtain ⟨j, hj, e⟩ := shl_all ⟨nW π, by have := hp.2; omega⟩
  obtain ⟨j2, hj2, e2⟩ := and_small (σ 3 0 ^^^ (-1)) hj
  obtain ⟨j3, hj3, e3⟩ := and_small (((1 : Int32) <<< (w &&& 31)) ^^^ (-1)) hj2
  refine ⟨j3, hj3, ?_⟩
  rw [othB, hp.1]
  have e' : ((1 : Int32) <<< (nI (nW π) &&& 31)) - 1 = nI j := e
  rw [e', e2, e3]
theorem bc_small : ∀ o : Fin 64, (bcF (nI o.val)).toNatClampNeg ≤ 6 := by decide +kernel
theorem odN_lt {π : wRec} (hp : wfN π) (σ : wRec) (w : Int32) : odN (othB π σ w) ≤ 1000000 := by
  obtain ⟨o, ho, e⟩ := oth_small hp σ w
  have h := bc_small ⟨o, ho⟩
  unfold odN tn
  rw [e]
  exact Nat.pow_le_pow_right (by omega) h
def moL (σ : wRec) : Nat → Int32 × Int32
  | 0 => (-9, 0)
  | w + 1 => if lwL (σ 8) (σ 5) (nI w) (nQ σ) ≤ (moL σ w).2 then moL σ w else (nI w, lwL (σ 8) (σ 5) (nI w) (nQ σ))
def mostV (π σ : wRec) : Int32 := (moL σ (nW π)).1
def tiL (π : wRec) (a b : Nat) : Nat → Int32
  | 0 => 0
  | s + 1 => if π (5 + a) s = π (5 + b) s then tiL π a b s + 1 else tiL π a b s
abbrev tiOK (π : wRec) (a b : Int32) : Prop := isWr π a ∧ isWr π b ∧ a ≠ b
def titlesV (π : wRec) (a b : Int32) : Int32 := if tiOK π a b then tiL π (tn a) (tn b) 5 else -1
def ratK (π σ : wRec) (w : Int32) (j : Nat) : Int32 :=
  if j = 0 then π 2 (tn w) else if j = 1 then π 2 (tn w) + bcF (obL (σ 8) w (nQ σ)) else if j = 2 then π 2 (tn w) - σ 4 (tn w) else if j = 3 then 2 * (π 2 (tn w) + bcF (obL (σ 8) w (nQ σ))) else if j = 4 then (π 2 (tn w) - σ 4 (tn w)) + w else π 2 (tn w) + lwL (σ 8) (σ 5) w (nQ σ)
def ratA (k : Int64) (j : Nat) : Int64 := if j = 0 then k + 1 else if j = 1 then k + 10 + 1 else if j = 2 then k + 100 + 1 else if j = 3 then k + 1000 + 10 + 1 else if j = 4 then k + 10000 + 100 + 1 else k + 100000 + 1
abbrev ratOK (π : wRec) (d w : Int32) : Prop := isWr π w ∧ 0 ≤ d.toInt ∧ d.toInt < 6
def rateV (π σ : wRec) (d w : Int32) : Int32 := if ratOK π d w then ratK π σ w (tn d) else -1000000
def rateK (π : wRec) (k : Int64) (d w : Int32) : Int64 := if ratOK π d w then ratA k (tn d) else k
abbrev imOK (i : Int32) : Prop := 0 ≤ i ∧ i < 2
abbrev keptB (α : wRec) (i : Nat) : Prop := (α 1 0 >>> (nI i &&& 31)) &&& 1 = 1
def backV (α ρ : wRec) (i : Nat) : Int32 := if keptB α i then ρ 0 0 else -2
def backA (α σ ρ : wRec) (i : Nat) : wRec := if keptB α i then ρ else σ
def backH (α η : wRec) (i : Nat) : wRec := if keptB α i then hdropF η else η
def cntK (π τ φ : wRec) (j : Nat) : Int32 := if j = 0 then π 0 0 else if j = 1 then π 1 0 else if j = 2 then φ 0 0 else τ 1 0
def countV (π τ φ : wRec) (x : Int32) : Int32 := if 0 ≤ x.toInt ∧ x.toInt < 4 then cntK π τ φ (tn x) else -1

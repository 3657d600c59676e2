/-! ===== LastWord: what the looks ahead answer ===== -/
def passI (π σ : wRec) : Nat → wRec
  | 0 => σ
  | n + 1 => passF π (passI π σ n)
theorem pass_2 (π σ : wRec) : passF π σ 2 = σ 2 := by
  rw [passF, dayA_2]
  exact workA_row σ _ 2 (by decide)
theorem passI_2 (π σ : wRec) : ∀ n, passI π σ n 2 = σ 2
  | 0 => rfl
  | n + 1 => by rw [passI, pass_2, passI_2 π σ n]
theorem passI_wf {π σ : wRec} (hp : wfP π) (h : wfA π σ) : ∀ n, wfA π (passI π σ n)
  | 0 => h
  | n + 1 => pass_wf hp (passI_wf hp h n)
def inDK (τ : wRec) (q : Nat) (x : Int32) : Int32 := if x = 0 then τ 5 q else if x = 1 then τ 6 q else τ 8 q
def inDaysV (π σ : wRec) (q n x : Int32) : Int32 := if isQu σ q ∧ (0 ≤ n ∧ n ≤ 60) ∧ 0 ≤ x ∧ x ≤ 2 then inDK (passI π σ (tn n)) (tn q) x else -1
def dcL (π : wRec) (q : Nat) : Nat → wRec → Nat → Int32
  | 0, _, _ => -9
  | f + 1, τ, n => if τ 8 q = -9 then nI n else dcL π q f (passF π τ) (n + 1)
abbrev crU (π σ : wRec) (q : Nat) : Int32 × Int32 := crF π (σ 3 0) (σ 5 q) (tn (σ 6 q)) 30 0
def dtcV (π β : wRec) (q : Nat) : Int32 := if (crU π β q).1 = -9 then -9 else dcL π q 401 β 0
def endsV (π σ : wRec) (q : Int32) : Int32 := if isQu σ q then dtcV π σ (tn q) else -1
def layI (π σ : wRec) (set : Int32) : Nat → wRec
  | 0 => σ
  | w + 1 => if (set >>> (nI w &&& 31)) &&& 1 = 1 then layF π (layI π σ set w) w else layI π σ set w
theorem layI_2 (π σ : wRec) (set : Int32) : ∀ w, layI π σ set w 2 = σ 2
  | 0 => rfl
  | w + 1 => by
    rw [layI]
    split
    · rw [layF, layL_2, layI_2 π σ set w]
    · exact layI_2 π σ set w
theorem layI_wf {π σ : wRec} (hp : wfP π) (h : wfA π σ) (set : Int32) : ∀ w, wfA π (layI π σ set w)
  | 0 => h
  | w + 1 => by
    rw [layI]
    split
    · exact layL_wf hp (layI_wf hp h set w) w _
    · exact layI_wf hp h set w
abbrev ewB (π σ : wRec) (q : Nat) (set : Int32) : Prop := dtcV π (layI π σ set (nW π)) q ≠ -9
abbrev pcB (π σ : wRec) (q : Nat) (fr : Int32) (m s : Nat) : Prop := (nI s &&& (fr ^^^ (-1)) = 0 ∧ bcF (nI s) = nI m) ∧ ewB π σ q (nI s)
def pcI (π σ : wRec) (q : Nat) (fr : Int32) (m : Nat) : Nat → Nat → Option Nat
  | 0, _ => none
  | f + 1, s => if pcB π σ q fr m s then some s else pcI π σ q fr m f (s + 1)
def pcO (π σ : wRec) (q : Nat) (fr : Int32) : Nat → Nat → Int32
  | 0, _ => -9
  | f + 1, m => match pcI π σ q fr m 64 0 with
    | some s => nI s
    | none => pcO π σ q fr f (m + 1)
def freeB (π σ : wRec) : Int32 := (((1 : Int32) <<< (π 0 0 &&& 31)) - 1) &&& (σ 3 0 ^^^ (-1))
def peaceV (π σ : wRec) (q : Int32) : Int32 := if isQu σ q then pcO π σ (tn q) (freeB π σ) 7 0 else -1
def roundV (π σ : wRec) (w s x : Int32) : Int32 := if (isWr π w ∧ isSb s) ∧ 0 ≤ x ∧ x ≤ 1 then (if laidB σ w then -2 else if x = 0 then (crF π (σ 3 0) w (tn s) 30 0).1 else (crF π (σ 3 0) w (tn s) 30 0).2) else -1
abbrev hlwB (π : wRec) (laid w : Int32) (s : Nat) : Prop := (crF π laid w s 30 0).2 = w
def laL (π : wRec) (laid w : Int32) : Nat → Nat → Int32
  | 0, _ => -9
  | f + 1, s => if hlwB π laid w s then nI s else laL π laid w f (s + 1)
def lastV (π σ : wRec) (w : Int32) : Int32 := if isWr π w then (if laidB σ w then -2 else laL π (σ 3 0) w 5 0) else -1
def bnL (π : wRec) (laid w : Int32) : Nat → Int32
  | 0 => 0
  | s + 1 => if answererF π w s laid = -9 then bnL π laid w s ||| ((1 : Int32) <<< (nI s &&& 31)) else bnL π laid w s
def bindsV (π σ : wRec) (w : Int32) : Int32 := if isWr π w then bnL π (σ 3 0) w 5 else -1
abbrev ckAll (σ : wRec) (set term : Int32) : Prop := ∀ q, q < nQ σ → ckOK σ set term q
def kpL (σ : wRec) (term own : Int32) : Nat → Int32
  | 0 => 0
  | s + 1 => if (nI s &&& (own ^^^ (-1)) = 0 ∧ ¬ bcF (nI s) ≤ kpL σ term own s) ∧ ckAll σ (nI s) term then bcF (nI s) else kpL σ term own s
def keepsV (π σ : wRec) (w : Int32) : Int32 := if isWr π w then kpL σ (π 1 0) (obL (σ 8) w (nQ σ)) 64 else -1
theorem fn_ok (σ : wRec) (term : Int32) : ∀ n q, q + n ≤ 6 → fnL σ term n q = -9 ∨ ixOK (fnL σ term n q) 6
  | 0, _, _ => Or.inl rfl
  | n + 1, q, h => by
    rw [fnL]
    split
    · exact Or.inr (ix_nI (by omega) (by omega))
    · exact fn_ok σ term n (q + 1) (by omega)
def lfQ (π τ : wRec) : Int32 := fnL τ (π 1 0) (nQ τ) 0
def lfL (π : wRec) (x : Int32) : Nat → wRec → Nat → Int32
  | 0, _, _ => -9
  | f + 1, τ, n => if lfQ π (passF π τ) = -9 then lfL π x f (passF π τ) (n + 1) else if x = 0 then nI n else passF π τ 8 (tn (lfQ π (passF π τ)))
def lateFirstV (π σ : wRec) (x : Int32) : Int32 := if 0 ≤ x ∧ x ≤ 1 then lfL π x 200 σ 1 else -1

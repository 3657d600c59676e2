/-! ===== LastWordModel: its answers and its letters, as functions ===== -/
def mwrV (μ : wRec) (w x : Int32) : Int32 := if isWM μ w ∧ inB x 0 9 then (if x < 7 then μ 7 (3 + 7 * w.toNatClampNeg + x.toNatClampNeg) else if x = 7 then (μ 8 2 >>> (w &&& 31)) &&& 1 else if x = 8 then owM μ w (qM μ) else μ 8 (4 + w.toNatClampNeg)) else -1
def mquV (μ : wRec) (q x : Int32) : Int32 := if isQM μ q ∧ inB x 0 5 then atV μ q.toNatClampNeg x.toNatClampNeg else -1
def mmeV (μ : wRec) (w s : Int32) : Int32 := if isWM μ w ∧ isSM s then mnF μ w s.toNatClampNeg (μ 8 2) else -1
def nwM (μ : wRec) : Nat → Int32
  | 0 => 0
  | q + 1 => nwM μ q ||| (if atV μ q 3 = -9 then (1 : Int32) <<< (nI q &&& 31) else 0)
def nowMK (μ : wRec) (k : Nat) : Int32 := if k = 2 then nwM μ (qM μ) else if k = 4 then μ 10 0 else μ 8 k
def nowMV (μ : wRec) (x : Int32) : Int32 := if 0 ≤ x.toInt ∧ x.toInt < 5 then nowMK μ x.toNatClampNeg else -1
def mnsV (μ : wRec) (q : Nat) : Int32 := mnF μ (μ 8 (10 + 6 * q)) (μ 8 (10 + 6 * q + 1)).toNatClampNeg (μ 8 2)
def mnsF (μ : wRec) (q : Nat) : wRec := va_up μ 8 (upd (upd (μ 8) (10 + 6 * q + 3) (mnsV μ q)) (10 + 6 * q + 4) (if mnsV μ q = -9 then 0 else μ 7 (3 + 7 * (mnsV μ q).toNatClampNeg)))
theorem mnF_ix {μ : wRec} (h : wfW μ) (w : Int32) (s : Nat) (laid : Int32) : mnF μ w s laid = -9 ∨ ixOK (mnF μ w s laid) (nM μ) := mnL_ix μ w s laid _ h.2
def prS (μ : wRec) (q : Nat) (w : Int32) (s : Nat) : wRec := va_up μ 8 (upd (upd (upd (upd (upd (μ 8) (10 + 6 * q) w) (10 + 6 * q + 1) (nI s)) (10 + 6 * q + 2) (μ 8 0)) (10 + 6 * q + 5) 0) 3 (μ 8 3 + 1))
def prF (μ : wRec) (q : Nat) (w : Int32) (s : Nat) : wRec := mnsF (prS μ q w s) q
theorem prS_1 (μ : wRec) (q : Nat) (w : Int32) (s : Nat) : prS μ q w s 8 (10 + 6 * q + 1) = nI s := by
  rw [prS, va_up_self, pk_un (by omega), pk_un (by omega), pk_un (by omega), pk_us]
theorem prS_ix (μ : wRec) (q : Nat) (w : Int32) {s : Nat} (h : s < 5) : ixOK (prS μ q w s 8 (10 + 6 * q + 1)) 5 := by
  rw [prS_1]
  have e : (nI s).toNatClampNeg = s := nI_cl (by omega)
  exact ⟨by rw [e], by rw [e]; exact h⟩

/-! ===== Page ===== -/
def nW (π : wRec) : Nat := (π 0 0).toNatClampNeg
def ixOK (x : Int32) (n : Nat) : Prop := x = nI x.toNatClampNeg ∧ x.toNatClampNeg < n
def wfP (π : wRec) : Prop := π 0 0 = nI (nW π) ∧ nW π ≤ 6 ∧ ∀ w, w < nW π → ixOK (π 3 w) 6
def ansL (π : wRec) (w : Int32) (s : Nat) (laid : Int32) : Nat → Int32 × Int32
  | 0 => (-9, 0)
  | x + 1 => if (nI x ≠ w ∧ (laid >>> (nI x &&& 31)) &&& 1 = 0) ∧ (ansL π w s laid x).2 < π (5 + x) s then (nI x, π (5 + x) s) else ansL π w s laid x
def answererF (π : wRec) (w : Int32) (s : Nat) (laid : Int32) : Int32 := (ansL π w s laid (nW π)).1
def blankF (π : wRec) : wRec := va_up (va_up π 0 (fun _ => 0)) 1 (fun _ => 9)
def onF (π : wRec) (w s : Nat) : Int32 := if π 3 w = 5 then nI s else π 3 w

abbrev rmX5_blank : Room := { frames := 0, cells := 0, slots := 0, locals := 0 }
theorem hd_X5_blank : yX5_blank.cls = RX5 ∧ yX5_blank.cls ≠ "java/lang/invoke/MethodHandle" ∧ yX5_blank.cls ≠ "java/lang/invoke/VarHandle" ∧ (parseMethodDescriptor yX5_blank.desc).map (fun d => d.parameters.length) = some 0 := by decide +kernel
set_option maxHeartbeats 4000000 in
set_option maxRecDepth 100000 in
theorem c_X5_blank (l : Launch) (D : va_G) (c : Nat → ClassId) (p : Nat → Nat) (π : Nat → Nat → Int32) : wk_UpV l yX5_blank wsX5_blank rmX5_blank D (tysL c) [.ref (p 0)] (pageW c p π) (pageW c p (blankF π)) := by
  refine wk_mkV (cc := cX5_blank) (maxL := 1) (by decide) rfl (Nat.le_of_ble_eq_true rfl) ?_
  intro A pr ev ss mm args below meth cd ls H H0 locs Q hst hP hK hD hS hA hl ret
  obtain ⟨hx, hb, hml, hown, hts, -⟩ := hst
  have hown : ss.vm.findClass RX5 = some mm.cls := hown
  have hl : lv_has ls 1 [(0, .ref (p 0))] := hl
  have k1 := hts (.fieldLink RX5 27 "LastWord$Page" "writers" "I") (List.mem_of_getElem? (i := 1) rfl)
  have k2 := hts (.fieldLink RX5 9 "LastWord$Page" "term" "I") (List.mem_of_getElem? (i := 2) rfl)
  have iX5 : ∀ w ∈ u_ws RX5 TX5 5, w ∈ wsX5_blank := fun _ h => (List.mem_cons_of_mem _ (List.mem_append_right _ h))
  refine lv_aload_n hx hb dX5_blank_0 rfl (lv_at hl 0 rfl) ?_
  refine lv_iconst (v := 0) hx hb dX5_blank_1 (by decide) ?_
  refine wp_X5_0 hx hb hts iX5 hown hK hP hD hS 0 rfl k1 (Nat.le_of_ble_eq_true rfl) dX5_blank_2 (ws' := pageW c p (va_up π 0 (fun _ => 0))) rfl (fun H locs hP hD hS => ?_)
  refine lv_aload_n hx hb dX5_blank_5 rfl (lv_at hl 0 rfl) ?_
  refine lv_bipush (v := 9) hx hb dX5_blank_6 (by decide) ?_
  refine wp_X5_1 hx hb hts iX5 hown hK hP hD hS 0 rfl k2 (Nat.le_of_ble_eq_true rfl) dX5_blank_8 (ws' := pageW c p (va_up (va_up π 0 (fun _ => 0)) 1 (fun _ => 9))) rfl (fun H locs hP hD hS => ?_)
  have eg1 : va_up (va_up π 0 (fun _ => 0)) 1 (fun _ => 9) = blankF π := by rfl
  have hP : va_P D vwCl (pageW c p (blankF π)) H := by rw [← eg1]; exact hP
  have hD : va_D A (pageW c p (blankF π)) := by rw [← eg1]; exact hD
  exact ret 11 ls H _ hP hS dX5_blank_11

abbrev rmX5_hasWriter : Room := { frames := 0, cells := 0, slots := 0, locals := 0 }
theorem hd_X5_hasWriter : yX5_hasWriter.cls = RX5 ∧ yX5_hasWriter.cls ≠ "java/lang/invoke/MethodHandle" ∧ yX5_hasWriter.cls ≠ "java/lang/invoke/VarHandle" ∧ (parseMethodDescriptor yX5_hasWriter.desc).map (fun d => d.parameters.length) = some 1 := by decide +kernel
set_option maxHeartbeats 4000000 in
set_option maxRecDepth 100000 in
theorem c_X5_hasWriter (l : Launch) (D : va_G) (c : Nat → ClassId) (p : Nat → Nat) (π : Nat → Nat → Int32) (w : Int32) : wk_RdI l yX5_hasWriter wsX5_hasWriter rmX5_hasWriter D (tysL c) [.ref (p 0), .int w] (pageW c p π) (if 0 ≤ w ∧ w < π 0 0 then 1 else 0) := by
  refine wk_mkR (cc := cX5_hasWriter) (maxL := 2) (rt := .boolean) (by decide) rfl (Nat.le_of_ble_eq_true rfl) wk_narZ ?_
  intro pr ev ss mm args below meth cd ls H Q hst hP hK hl ret
  obtain ⟨hx, hb, hml, hown, hts, -⟩ := hst
  have hown : ss.vm.findClass RX5 = some mm.cls := hown
  have hl : lv_has ls 2 [(0, .ref (p 0)), (1, .int w)] := hl
  have k1 := hts (.fieldLink RX5 27 "LastWord$Page" "writers" "I") (List.mem_of_getElem? (i := 1) rfl)
  have iX5 : ∀ w ∈ u_ws RX5 TX5 5, w ∈ wsX5_hasWriter := fun _ h => (List.mem_cons_of_mem _ (List.mem_append_right _ h))
  refine lv_iload_n hx hb dX5_hasWriter_0 rfl (lv_at hl 1 rfl) ?_
  refine lv_if_lt (tgt := 16) hx hb dX5_hasWriter_1 (by decide) (fun h1 => ?_) (fun h1 => ?_)
  · refine lv_iconst (v := 0) hx hb dX5_hasWriter_16 (by decide) ?_
    exact ret 17 ls 0 ((if_neg (fun q => absurd h1 (Int32.not_lt.mpr q.1))).symm) dX5_hasWriter_17
  refine lv_iload_n hx hb dX5_hasWriter_4 rfl (lv_at hl 1 rfl) ?_
  refine lv_aload_n hx hb dX5_hasWriter_5 rfl (lv_at hl 0 rfl) ?_
  refine wg_X5_0 hx hb hts iX5 hown hK hP 0 rfl k1 (v := .int (π 0 0)) rfl dX5_hasWriter_6 ?_
  refine lv_icmp_ge (tgt := 16) hx hb dX5_hasWriter_9 (by decide) (fun h2 => ?_) (fun h2 => ?_)
  · refine lv_iconst (v := 0) hx hb dX5_hasWriter_16 (by decide) ?_
    exact ret 17 ls 0 ((if_neg (fun q => absurd q.2 (Int32.not_lt.mpr h2))).symm) dX5_hasWriter_17
  refine lv_iconst (v := 1) hx hb dX5_hasWriter_12 (by decide) ?_
  refine lv_goto (tgt := 17) hx hb dX5_hasWriter_13 (by decide) ?_
  exact ret 17 ls 1 ((if_pos ⟨Int32.not_lt.mp h1, Int32.not_le.mp h2⟩).symm) dX5_hasWriter_17

abbrev rmX5_everybody : Room := { frames := 0, cells := 0, slots := 0, locals := 0 }
theorem hd_X5_everybody : yX5_everybody.cls = RX5 ∧ yX5_everybody.cls ≠ "java/lang/invoke/MethodHandle" ∧ yX5_everybody.cls ≠ "java/lang/invoke/VarHandle" ∧ (parseMethodDescriptor yX5_everybody.desc).map (fun d => d.parameters.length) = some 0 := by decide +kernel
set_option maxHeartbeats 4000000 in
set_option maxRecDepth 100000 in
theorem c_X5_everybody (l : Launch) (D : va_G) (c : Nat → ClassId) (p : Nat → Nat) (π : Nat → Nat → Int32) : wk_RdI l yX5_everybody wsX5_everybody rmX5_everybody D (tysL c) [.ref (p 0)] (pageW c p π) (((1 : Int32) <<< (π 0 0 &&& 31)) - 1) := by
  refine wk_mkR (cc := cX5_everybody) (maxL := 1) (rt := .int) (by decide) rfl (Nat.le_of_ble_eq_true rfl) rfl ?_
  intro pr ev ss mm args below meth cd ls H Q hst hP hK hl ret
  obtain ⟨hx, hb, hml, hown, hts, -⟩ := hst
  have hown : ss.vm.findClass RX5 = some mm.cls := hown
  have hl : lv_has ls 1 [(0, .ref (p 0))] := hl
  have k1 := hts (.fieldLink RX5 27 "LastWord$Page" "writers" "I") (List.mem_of_getElem? (i := 1) rfl)
  have iX5 : ∀ w ∈ u_ws RX5 TX5 5, w ∈ wsX5_everybody := fun _ h => (List.mem_cons_of_mem _ (List.mem_append_right _ h))
  refine lv_iconst (v := 1) hx hb dX5_everybody_0 (by decide) ?_
  refine lv_aload_n hx hb dX5_everybody_1 rfl (lv_at hl 0 rfl) ?_
  refine wg_X5_0 hx hb hts iX5 hown hK hP 0 rfl k1 (v := .int (π 0 0)) rfl dX5_everybody_2 ?_
  refine lv_ishl hx hb dX5_everybody_5 ?_
  refine lv_iconst (v := 1) hx hb dX5_everybody_6 (by decide) ?_
  refine lv_isub hx hb dX5_everybody_7 ?_
  exact ret 8 ls ((1 <<< ((π 0 0) &&& 31)) - 1) (by rfl) dX5_everybody_8

abbrev rmX5_answerer : Room := { frames := 0, cells := 0, slots := 0, locals := 0 }
theorem hd_X5_answerer : yX5_answerer.cls = RX5 ∧ yX5_answerer.cls ≠ "java/lang/invoke/MethodHandle" ∧ yX5_answerer.cls ≠ "java/lang/invoke/VarHandle" ∧ (parseMethodDescriptor yX5_answerer.desc).map (fun d => d.parameters.length) = some 3 := by decide +kernel
set_option maxHeartbeats 4000000 in
set_option maxRecDepth 100000 in
theorem c_X5_answerer (l : Launch) (D : va_G) (c : Nat → ClassId) (p : Nat → Nat) (π : Nat → Nat → Int32) (w : Int32) (s : Nat) (laid : Int32) (hp : wfP π) (hs : s < 5) : wk_RdI l yX5_answerer wsX5_answerer rmX5_answerer D (tysL c) [.ref (p 0), .int w, .int (nI s), .int laid] (pageW c p π) (answererF π w s laid) := by
  refine wk_mkR (cc := cX5_answerer) (maxL := 8) (rt := .int) (by decide) rfl (Nat.le_of_ble_eq_true rfl) rfl ?_
  intro pr ev ss mm args below meth cd ls H Q hst hP hK hl ret
  obtain ⟨hx, hb, hml, hown, hts, -⟩ := hst
  have hown : ss.vm.findClass RX5 = some mm.cls := hown
  have hl : lv_has ls 8 [(0, .ref (p 0)), (1, .int w), (2, .int (nI s)), (3, .int laid)] := hl
  have k1 := hts (.fieldLink RX5 27 "LastWord$Page" "writers" "I") (List.mem_of_getElem? (i := 1) rfl)
  have k2 := hts (.fieldLink RX5 24 "LastWord$Page" "near" "[[I") (List.mem_of_getElem? (i := 2) rfl)
  have iX5 : ∀ w ∈ u_ws RX5 TX5 5, w ∈ wsX5_answerer := fun _ h => (List.mem_cons_of_mem _ (List.mem_append_right _ h))
  have hn6 := hp.2.1
  refine lv_bipush (v := -9) hx hb dX5_answerer_0 (by decide) ?_
  refine lv_istore (lv' := [(4, .int ((-9))), (0, .ref (p 0)), (1, .int w), (2, .int (nI s)), (3, .int laid)]) hx hb dX5_answerer_2 hl (by decide) rfl (fun ls hl => ?_)
  refine lv_iconst (v := 0) hx hb dX5_answerer_4 (by decide) ?_
  refine lv_istore (lv' := [(5, .int 0), (4, .int ((-9))), (0, .ref (p 0)), (1, .int w), (2, .int (nI s)), (3, .int laid)]) hx hb dX5_answerer_5 hl (by decide) rfl (fun ls hl => ?_)
  refine lv_iconst (v := 0) hx hb dX5_answerer_7 (by decide) ?_
  refine lv_istore (lv' := [(6, .int 0), (5, .int 0), (4, .int ((-9))), (0, .ref (p 0)), (1, .int w), (2, .int (nI s)), (3, .int laid)]) hx hb dX5_answerer_8 hl (by decide) rfl (fun ls hl => ?_)
  have lp10 : ∀ (n : Nat) (i : Nat), (i ≤ nW π) → nW π - i < n → ∀ ls : Array Slot, lv_has ls 8 [(0, .ref (p 0)), (1, .int w), (2, .int (nI s)), (3, .int laid), (4, .int ((ansL π w s laid i).1)), (5, .int ((ansL π w s laid i).2)), (6, .int (nI i))] → W pr l ev rmX5_answerer ss mm args below meth cd H [] 0 0 Q (F0 mm 10 ls []) := by
    intro n
    induction n with
    | zero => intro i hi hn; exact absurd hn (Nat.not_lt_zero _)
    | succ n ih10 =>
      intro i hi hn ls hl
      refine lv_iload hx hb dX5_answerer_10 (lv_at hl 6 rfl) ?_
      refine lv_aload_n hx hb dX5_answerer_12 rfl (lv_at hl 0 rfl) ?_
      refine wg_X5_0 hx hb hts iX5 hown hK hP 0 rfl k1 (v := .int (π 0 0)) rfl dX5_answerer_13 ?_
      refine wk_eqi (hp.1) ?_
      refine wk_ge (tgt := 81) hx hb i (nW π) rfl rfl (by omega) (by omega) dX5_answerer_16 (by decide) (fun h1 => ?_) (fun h1 => ?_)
      · refine lv_iload hx hb dX5_answerer_81 (lv_at hl 4 rfl) ?_
        exact ret 83 ls ((ansL π w s laid i).1) (by rw [answererF, show i = nW π by omega]) dX5_answerer_83
      refine lv_iload hx hb dX5_answerer_19 (lv_at hl 6 rfl) ?_
      refine lv_iload_n hx hb dX5_answerer_21 rfl (lv_at hl 1 rfl) ?_
      refine lv_icmp_eq (tgt := 38) hx hb dX5_answerer_22 (by decide) (fun h2 => ?_) (fun h2 => ?_)
      · refine lv_iconst (v := 0) hx hb dX5_answerer_38 (by decide) ?_
        refine lv_istore (lv' := [(7, .int 0), (0, .ref (p 0)), (1, .int w), (2, .int (nI s)), (3, .int laid), (4, .int ((ansL π w s laid i).1)), (5, .int ((ansL π w s laid i).2)), (6, .int (nI i))]) hx hb dX5_answerer_39 hl (by decide) rfl (fun ls hl => ?_)
        refine lv_iload hx hb dX5_answerer_41 (lv_at hl 0 rfl) ?_
        refine lv_if_eq (tgt := 75) hx hb dX5_answerer_43 (by decide) (fun _ => ?_) (fun q => absurd (by decide) q)
        refine lv_iinc (v := nI (i + 1)) (lv' := [(6, .int (nI (i + 1))), (7, .int 0), (0, .ref (p 0)), (1, .int w), (2, .int (nI s)), (3, .int laid), (4, .int ((ansL π w s laid i).1)), (5, .int ((ansL π w s laid i).2))]) hx hb dX5_answerer_75 hl (k := 7) rfl (nI_inc i 1) (by decide) rfl (fun ls hl => ?_)
        refine lv_goto (tgt := 10) hx hb dX5_answerer_78 (by decide) ?_
        have hl : lv_has ls 8 [(0, .ref (p 0)), (1, .int w), (2, .int (nI s)), (3, .int laid), (4, .int ((ansL π w s laid i).1)), (5, .int ((ansL π w s laid i).2)), (6, .int (nI (i + 1)))] := lv_sub hl [2, 3, 4, 5, 6, 7, 0] rfl
        have hl := wk_lset (y := (ansL π w s laid (i + 1)).1) (lv_sub (l' := [(4, .int ((ansL π w s laid i).1)), (0, .ref (p 0)), (1, .int w), (2, .int (nI s)), (3, .int laid), (5, .int ((ansL π w s laid i).2)), (6, .int (nI (i + 1)))]) hl [4, 0, 1, 2, 3, 5, 6] rfl) (by first | rfl | (simp [ansL, ← Int32.not_le, h1, h2]; done))
        have hl : lv_has ls 8 [(0, .ref (p 0)), (1, .int w), (2, .int (nI s)), (3, .int laid), (4, .int ((ansL π w s laid (i + 1)).1)), (5, .int ((ansL π w s laid i).2)), (6, .int (nI (i + 1)))] := lv_sub hl [1, 2, 3, 4, 0, 5, 6] rfl
        have hl := wk_lset (y := (ansL π w s laid (i + 1)).2) (lv_sub (l' := [(5, .int ((ansL π w s laid i).2)), (0, .ref (p 0)), (1, .int w), (2, .int (nI s)), (3, .int laid), (4, .int ((ansL π w s laid (i + 1)).1)), (6, .int (nI (i + 1)))]) hl [5, 0, 1, 2, 3, 4, 6] rfl) (by first | rfl | (simp [ansL, ← Int32.not_le, h1, h2]; done))
        have hl : lv_has ls 8 [(0, .ref (p 0)), (1, .int w), (2, .int (nI s)), (3, .int laid), (4, .int ((ansL π w s laid (i + 1)).1)), (5, .int ((ansL π w s laid (i + 1)).2)), (6, .int (nI (i + 1)))] := lv_sub hl [1, 2, 3, 4, 5, 0, 6] rfl
        exact ih10 (i + 1) (by omega) (by omega) ls hl
      refine lv_iload_n hx hb dX5_answerer_25 rfl (lv_at hl 3 rfl) ?_
      refine lv_iload hx hb dX5_answerer_26 (lv_at hl 6 rfl) ?_
      refine lv_ishr hx hb dX5_answerer_28 ?_
      refine lv_iconst (v := 1) hx hb dX5_answerer_29 (by decide) ?_
      refine lv_iand hx hb dX5_answerer_30 ?_
      refine lv_if_ne (tgt := 38) hx hb dX5_answerer_31 (by decide) (fun h4 => ?_) (fun h4 => ?_)
      · refine lv_iconst (v := 0) hx hb dX5_answerer_38 (by decide) ?_
        refine lv_istore (lv' := [(7, .int 0), (0, .ref (p 0)), (1, .int w), (2, .int (nI s)), (3, .int laid), (4, .int ((ansL π w s laid i).1)), (5, .int ((ansL π w s laid i).2)), (6, .int (nI i))]) hx hb dX5_answerer_39 hl (by decide) rfl (fun ls hl => ?_)
        refine lv_iload hx hb dX5_answerer_41 (lv_at hl 0 rfl) ?_
        refine lv_if_eq (tgt := 75) hx hb dX5_answerer_43 (by decide) (fun _ => ?_) (fun q => absurd (by decide) q)
        refine lv_iinc (v := nI (i + 1)) (lv' := [(6, .int (nI (i + 1))), (7, .int 0), (0, .ref (p 0)), (1, .int w), (2, .int (nI s)), (3, .int laid), (4, .int ((ansL π w s laid i).1)), (5, .int ((ansL π w s laid i).2))]) hx hb dX5_answerer_75 hl (k := 7) rfl (nI_inc i 1) (by decide) rfl (fun ls hl => ?_)
        refine lv_goto (tgt := 10) hx hb dX5_answerer_78 (by decide) ?_
        have hl : lv_has ls 8 [(0, .ref (p 0)), (1, .int w), (2, .int (nI s)), (3, .int laid), (4, .int ((ansL π w s laid i).1)), (5, .int ((ansL π w s laid i).2)), (6, .int (nI (i + 1)))] := lv_sub hl [2, 3, 4, 5, 6, 7, 0] rfl
        have hl := wk_lset (y := (ansL π w s laid (i + 1)).1) (lv_sub (l' := [(4, .int ((ansL π w s laid i).1)), (0, .ref (p 0)), (1, .int w), (2, .int (nI s)), (3, .int laid), (5, .int ((ansL π w s laid i).2)), (6, .int (nI (i + 1)))]) hl [4, 0, 1, 2, 3, 5, 6] rfl) (by first | rfl | (simp [ansL, ← Int32.not_le, h1, h2, h4]; done))
        have hl : lv_has ls 8 [(0, .ref (p 0)), (1, .int w), (2, .int (nI s)), (3, .int laid), (4, .int ((ansL π w s laid (i + 1)).1)), (5, .int ((ansL π w s laid i).2)), (6, .int (nI (i + 1)))] := lv_sub hl [1, 2, 3, 4, 0, 5, 6] rfl
        have hl := wk_lset (y := (ansL π w s laid (i + 1)).2) (lv_sub (l' := [(5, .int ((ansL π w s laid i).2)), (0, .ref (p 0)), (1, .int w), (2, .int (nI s)), (3, .int laid), (4, .int ((ansL π w s laid (i + 1)).1)), (6, .int (nI (i + 1)))]) hl [5, 0, 1, 2, 3, 4, 6] rfl) (by first | rfl | (simp [ansL, ← Int32.not_le, h1, h2, h4]; done))
        have hl : lv_has ls 8 [(0, .ref (p 0)), (1, .int w), (2, .int (nI s)), (3, .int laid), (4, .int ((ansL π w s laid (i + 1)).1)), (5, .int ((ansL π w s laid (i + 1)).2)), (6, .int (nI (i + 1)))] := lv_sub hl [1, 2, 3, 4, 5, 0, 6] rfl
        exact ih10 (i + 1) (by omega) (by omega) ls hl
      refine lv_iconst (v := 1) hx hb dX5_answerer_34 (by decide) ?_
      refine lv_goto (tgt := 39) hx hb dX5_answerer_35 (by decide) ?_
      refine lv_istore (lv' := [(7, .int 1), (0, .ref (p 0)), (1, .int w), (2, .int (nI s)), (3, .int laid), (4, .int ((ansL π w s laid i).1)), (5, .int ((ansL π w s laid i).2)), (6, .int (nI i))]) hx hb dX5_answerer_39 hl (by decide) rfl (fun ls hl => ?_)
      refine lv_iload hx hb dX5_answerer_41 (lv_at hl 0 rfl) ?_
      refine lv_if_eq (tgt := 75) hx hb dX5_answerer_43 (by decide) (fun q => absurd q (by decide)) (fun _ => ?_)
      refine lv_aload_n hx hb dX5_answerer_46 rfl (lv_at hl 1 rfl) ?_
      refine wg_X5_4 hx hb hts iX5 hown hK hP 0 rfl k2 (v := .ref (p 4)) rfl dX5_answerer_47 ?_
      refine lv_iload hx hb dX5_answerer_50 (lv_at hl 7 rfl) ?_
      refine wk_aald hx hb hK hP 3 2 rfl rfl rfl i rfl (by omega) (by decide) rfl dX5_answerer_52 ?_
      refine lv_iload_n hx hb dX5_answerer_53 rfl (lv_at hl 3 rfl) ?_
      refine wk_ald hx hb hK hP (4 + i) 0 (pageW_row (by omega) (a := ([] : va_W)) (b := ([] : va_W)) rfl rfl) rfl s rfl (by omega) (by decide) dX5_answerer_54 ?_
      refine lv_iload hx hb dX5_answerer_55 (lv_at hl 6 rfl) ?_
      refine lv_icmp_le (tgt := 75) hx hb dX5_answerer_57 (by decide) (fun h7 => ?_) (fun h7 => ?_)
      · refine lv_iinc (v := nI (i + 1)) (lv' := [(6, .int (nI (i + 1))), (7, .int 1), (0, .ref (p 0)), (1, .int w), (2, .int (nI s)), (3, .int laid), (4, .int ((ansL π w s laid i).1)), (5, .int ((ansL π w s laid i).2))]) hx hb dX5_answerer_75 hl (k := 7) rfl (nI_inc i 1) (by decide) rfl (fun ls hl => ?_)
        refine lv_goto (tgt := 10) hx hb dX5_answerer_78 (by decide) ?_
        have hl : lv_has ls 8 [(0, .ref (p 0)), (1, .int w), (2, .int (nI s)), (3, .int laid), (4, .int ((ansL π w s laid i).1)), (5, .int ((ansL π w s laid i).2)), (6, .int (nI (i + 1)))] := lv_sub hl [2, 3, 4, 5, 6, 7, 0] rfl
        have hl := wk_lset (y := (ansL π w s laid (i + 1)).1) (lv_sub (l' := [(4, .int ((ansL π w s laid i).1)), (0, .ref (p 0)), (1, .int w), (2, .int (nI s)), (3, .int laid), (5, .int ((ansL π w s laid i).2)), (6, .int (nI (i + 1)))]) hl [4, 0, 1, 2, 3, 5, 6] rfl) (by first | rfl | (simp [ansL, ← Int32.not_le, h1, h2, h4, h7]; done))
        have hl : lv_has ls 8 [(0, .ref (p 0)), (1, .int w), (2, .int (nI s)), (3, .int laid), (4, .int ((ansL π w s laid (i + 1)).1)), (5, .int ((ansL π w s laid i).2)), (6, .int (nI (i + 1)))] := lv_sub hl [1, 2, 3, 4, 0, 5, 6] rfl
        have hl := wk_lset (y := (ansL π w s laid (i + 1)).2) (lv_sub (l' := [(5, .int ((ansL π w s laid i).2)), (0, .ref (p 0)), (1, .int w), (2, .int (nI s)), (3, .int laid), (4, .int ((ansL π w s laid (i + 1)).1)), (6, .int (nI (i + 1)))]) hl [5, 0, 1, 2, 3, 4, 6] rfl) (by first | rfl | (simp [ansL, ← Int32.not_le, h1, h2, h4, h7]; done))
        have hl : lv_has ls 8 [(0, .ref (p 0)), (1, .int w), (2, .int (nI s)), (3, .int laid), (4, .int ((ansL π w s laid (i + 1)).1)), (5, .int ((ansL π w s laid (i + 1)).2)), (6, .int (nI (i + 1)))] := lv_sub hl [1, 2, 3, 4, 5, 0, 6] rfl
        exact ih10 (i + 1) (by omega) (by omega) ls hl
      refine lv_aload_n hx hb dX5_answerer_60 rfl (lv_at hl 1 rfl) ?_
      refine wg_X5_4 hx hb hts iX5 hown hK hP 0 rfl k2 (v := .ref (p 4)) rfl dX5_answerer_61 ?_
      refine lv_iload hx hb dX5_answerer_64 (lv_at hl 7 rfl) ?_
      refine wk_aald hx hb hK hP 3 2 rfl rfl rfl i rfl (by omega) (by decide) rfl dX5_answerer_66 ?_
      refine lv_iload_n hx hb dX5_answerer_67 rfl (lv_at hl 3 rfl) ?_
      refine wk_ald hx hb hK hP (4 + i) 0 (pageW_row (by omega) (a := ([] : va_W)) (b := ([] : va_W)) rfl rfl) rfl s rfl (by omega) (by decide) dX5_answerer_68 ?_
      refine lv_istore (lv' := [(5, .int (π (5 + i) s)), (7, .int 1), (0, .ref (p 0)), (1, .int w), (2, .int (nI s)), (3, .int laid), (4, .int ((ansL π w s laid i).1)), (6, .int (nI i))]) hx hb dX5_answerer_69 hl (by decide) rfl (fun ls hl => ?_)
      refine lv_iload hx hb dX5_answerer_71 (lv_at hl 7 rfl) ?_
      refine lv_istore (lv' := [(4, .int (nI i)), (5, .int (π (5 + i) s)), (7, .int 1), (0, .ref (p 0)), (1, .int w), (2, .int (nI s)), (3, .int laid), (6, .int (nI i))]) hx hb dX5_answerer_73 hl (by decide) rfl (fun ls hl => ?_)
      refine lv_iinc (v := nI (i + 1)) (lv' := [(6, .int (nI (i + 1))), (4, .int (nI i)), (5, .int (π (5 + i) s)), (7, .int 1), (0, .ref (p 0)), (1, .int w), (2, .int (nI s)), (3, .int laid)]) hx hb dX5_answerer_75 hl (k := 7) rfl (nI_inc i 1) (by decide) rfl (fun ls hl => ?_)
      refine lv_goto (tgt := 10) hx hb dX5_answerer_78 (by decide) ?_
      have hl : lv_has ls 8 [(0, .ref (p 0)), (1, .int w), (2, .int (nI s)), (3, .int laid), (4, .int (nI i)), (5, .int (π (5 + i) s)), (6, .int (nI (i + 1)))] := lv_sub hl [4, 5, 6, 7, 1, 2, 0] rfl
      have hl := wk_lset (y := (ansL π w s laid (i + 1)).1) (lv_sub (l' := [(4, .int (nI i)), (0, .ref (p 0)), (1, .int w), (2, .int (nI s)), (3, .int laid), (5, .int (π (5 + i) s)), (6, .int (nI (i + 1)))]) hl [4, 0, 1, 2, 3, 5, 6] rfl) (by first | rfl | (simp [ansL, ← Int32.not_le, h1, h2, h4, h7]; done))
      have hl : lv_has ls 8 [(0, .ref (p 0)), (1, .int w), (2, .int (nI s)), (3, .int laid), (4, .int ((ansL π w s laid (i + 1)).1)), (5, .int (π (5 + i) s)), (6, .int (nI (i + 1)))] := lv_sub hl [1, 2, 3, 4, 0, 5, 6] rfl
      have hl := wk_lset (y := (ansL π w s laid (i + 1)).2) (lv_sub (l' := [(5, .int (π (5 + i) s)), (0, .ref (p 0)), (1, .int w), (2, .int (nI s)), (3, .int laid), (4, .int ((ansL π w s laid (i + 1)).1)), (6, .int (nI (i + 1)))]) hl [5, 0, 1, 2, 3, 4, 6] rfl) (by first | rfl | (simp [ansL, ← Int32.not_le, h1, h2, h4, h7]; done))
      have hl : lv_has ls 8 [(0, .ref (p 0)), (1, .int w), (2, .int (nI s)), (3, .int laid), (4, .int ((ansL π w s laid (i + 1)).1)), (5, .int ((ansL π w s laid (i + 1)).2)), (6, .int (nI (i + 1)))] := lv_sub hl [1, 2, 3, 4, 5, 0, 6] rfl
      exact ih10 (i + 1) (by omega) (by omega) ls hl
  have hl : lv_has ls 8 [(0, .ref (p 0)), (1, .int w), (2, .int (nI s)), (3, .int laid), (4, .int ((-9))), (5, .int 0), (6, .int 0)] := lv_sub hl [3, 4, 5, 6, 2, 1, 0] rfl
  have hl := wk_lset (y := (ansL π w s laid 0).1) (lv_sub (l' := [(4, .int ((-9))), (0, .ref (p 0)), (1, .int w), (2, .int (nI s)), (3, .int laid), (5, .int 0), (6, .int 0)]) hl [4, 0, 1, 2, 3, 5, 6] rfl) (by first | rfl | (simp [ansL, ← Int32.not_le]; done))
  have hl : lv_has ls 8 [(0, .ref (p 0)), (1, .int w), (2, .int (nI s)), (3, .int laid), (4, .int ((ansL π w s laid 0).1)), (5, .int 0), (6, .int 0)] := lv_sub hl [1, 2, 3, 4, 0, 5, 6] rfl
  have hl := wk_lset (y := (ansL π w s laid 0).2) (lv_sub (l' := [(5, .int 0), (0, .ref (p 0)), (1, .int w), (2, .int (nI s)), (3, .int laid), (4, .int ((ansL π w s laid 0).1)), (6, .int 0)]) hl [5, 0, 1, 2, 3, 4, 6] rfl) (by first | rfl | (simp [ansL, ← Int32.not_le]; done))
  have hl : lv_has ls 8 [(0, .ref (p 0)), (1, .int w), (2, .int (nI s)), (3, .int laid), (4, .int ((ansL π w s laid 0).1)), (5, .int ((ansL π w s laid 0).2)), (6, .int 0)] := lv_sub hl [1, 2, 3, 4, 5, 0, 6] rfl
  have hl := wk_lset (y := nI 0) (lv_sub (l' := [(6, .int 0), (0, .ref (p 0)), (1, .int w), (2, .int (nI s)), (3, .int laid), (4, .int ((ansL π w s laid 0).1)), (5, .int ((ansL π w s laid 0).2))]) hl [6, 0, 1, 2, 3, 4, 5] rfl) (by first | rfl | (simp [ansL, ← Int32.not_le]; done))
  have hl : lv_has ls 8 [(0, .ref (p 0)), (1, .int w), (2, .int (nI s)), (3, .int laid), (4, .int ((ansL π w s laid 0).1)), (5, .int ((ansL π w s laid 0).2)), (6, .int (nI 0))] := lv_sub hl [1, 2, 3, 4, 5, 6, 0] rfl
  exact lp10 _ 0 (by omega) (Nat.lt_succ_self _) ls hl

abbrev rmX5_answerOn : Room := { frames := 0, cells := 0, slots := 0, locals := 0 }
theorem hd_X5_answerOn : yX5_answerOn.cls = RX5 ∧ yX5_answerOn.cls ≠ "java/lang/invoke/MethodHandle" ∧ yX5_answerOn.cls ≠ "java/lang/invoke/VarHandle" ∧ (parseMethodDescriptor yX5_answerOn.desc).map (fun d => d.parameters.length) = some 2 := by decide +kernel
set_option maxHeartbeats 4000000 in
set_option maxRecDepth 100000 in
theorem c_X5_answerOn (l : Launch) (D : va_G) (c : Nat → ClassId) (p : Nat → Nat) (π : Nat → Nat → Int32) (w : Nat) (s : Nat) (hw : w < 6) : wk_RdI l yX5_answerOn wsX5_answerOn rmX5_answerOn D (tysL c) [.ref (p 0), .int (nI w), .int (nI s)] (pageW c p π) (onF π w s) := by
  refine wk_mkR (cc := cX5_answerOn) (maxL := 3) (rt := .int) (by decide) rfl (Nat.le_of_ble_eq_true rfl) rfl ?_
  intro pr ev ss mm args below meth cd ls H Q hst hP hK hl ret
  obtain ⟨hx, hb, hml, hown, hts, -⟩ := hst
  have hown : ss.vm.findClass RX5 = some mm.cls := hown
  have hl : lv_has ls 3 [(0, .ref (p 0)), (1, .int (nI w)), (2, .int (nI s))] := hl
  have k1 := hts (.fieldLink RX5 19 "LastWord$Page" "hobby" "[I") (List.mem_of_getElem? (i := 1) rfl)
  have iX5 : ∀ w ∈ u_ws RX5 TX5 5, w ∈ wsX5_answerOn := fun _ h => (List.mem_cons_of_mem _ (List.mem_append_right _ h))
  refine lv_aload_n hx hb dX5_answerOn_0 rfl (lv_at hl 0 rfl) ?_
  refine wg_X5_3 hx hb hts iX5 hown hK hP 0 rfl k1 (v := .ref (p 3)) rfl dX5_answerOn_1 ?_
  refine lv_iload_n hx hb dX5_answerOn_4 rfl (lv_at hl 1 rfl) ?_
  refine wk_ald (f := π 3) hx hb hK hP 2 0 rfl rfl w rfl (by omega) (by decide) dX5_answerOn_5 ?_
  refine lv_iconst (v := 5) hx hb dX5_answerOn_6 (by decide) ?_
  refine lv_icmp_ne (tgt := 14) hx hb dX5_answerOn_7 (by decide) (fun h1 => ?_) (fun h1 => ?_)
  rotate_left
  · refine lv_iload_n hx hb dX5_answerOn_10 rfl (lv_at hl 2 rfl) ?_
    refine lv_goto (tgt := 20) hx hb dX5_answerOn_11 (by decide) ?_
    exact ret 20 ls (nI s) (by simp [onF, h1]) dX5_answerOn_20
  refine lv_aload_n hx hb dX5_answerOn_14 rfl (lv_at hl 0 rfl) ?_
  refine wg_X5_3 hx hb hts iX5 hown hK hP 0 rfl k1 (v := .ref (p 3)) rfl dX5_answerOn_15 ?_
  refine lv_iload_n hx hb dX5_answerOn_18 rfl (lv_at hl 1 rfl) ?_
  refine wk_ald (f := π 3) hx hb hK hP 2 0 rfl rfl w rfl (by omega) (by decide) dX5_answerOn_19 ?_
  exact ret 20 ls (π 3 w) (by simp [onF, h1]) dX5_answerOn_20

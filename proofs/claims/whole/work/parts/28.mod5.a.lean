/-! ===== LastWordModel, walked: what is done ===== -/
abbrev rmX8_notes : Room := { frames := 0, cells := 0, slots := 0, locals := 0 }
theorem hd_X8_notes : yX8_notes.cls = RX8 ∧ yX8_notes.cls ≠ "java/lang/invoke/MethodHandle" ∧ yX8_notes.cls ≠ "java/lang/invoke/VarHandle" ∧ (parseMethodDescriptor yX8_notes.desc).map (fun d => d.parameters.length) = some 0 := by decide +kernel
set_option maxHeartbeats 4000000 in
set_option maxRecDepth 100000 in
theorem c_X8_notes (l : Launch) (D : va_G) (c : Nat → ClassId) (ad : Nat → Nat) (μ : Nat → Nat → Int32) (r : Int64) (hU : wfU μ) : wk_UpV l yX8_notes wsX8_notes rmX8_notes D (tysL c) [.ref (ad 0)] (modelW c ad μ r) (modelW c ad (nsF μ) r) := by
  refine wk_mkV (cc := cX8_notes) (maxL := 2) (by decide) rfl (Nat.le_of_ble_eq_true rfl) ?_
  intro A pr ev ss mm args below meth cd ls H H0 locs Q hst hP hK hD hS hA hl ret
  obtain ⟨hx, hb, hml, hown, hts, -⟩ := hst
  have hown : ss.vm.findClass RX8 = some mm.cls := hown
  have hl : lv_has ls 2 [(0, .ref (ad 0))] := hl
  have k1 := hts (.fieldLink RX8 87 "LastWordModel" "undos" "I") (List.mem_of_getElem? (i := 1) rfl)
  have k2 := hts (.fieldLink RX8 22 "LastWordModel" "undone" "[I") (List.mem_of_getElem? (i := 2) rfl)
  have k3 := hts (.fieldLink RX8 19 "LastWordModel" "now" "[I") (List.mem_of_getElem? (i := 3) rfl)
  have iX8 : ∀ w ∈ u_ws RX8 TX8 18, w ∈ wsX8_notes := fun _ h => (List.mem_cons_of_mem _ (List.mem_append_right _ h))
  have hU10 := hU.2
  have hu9 := nsU_le hU
  have jn46 : ∀ (H : Heap) (locs : List Loc), va_P D vwCl (modelW c ad (nsA μ) r) H → va_D A (modelW c ad (nsA μ) r) → va_S A H0 H locs → ∀ ls : Array Slot, lv_has ls 2 [(0, .ref (ad 0))] → W pr l ev rmX8_notes ss mm args below meth cd H locs 0 0 Q (F0 mm 46 ls []) := by
    intro H locs hP hD hS ls hl
    refine lv_iconst (v := 0) hx hb dX8_notes_46 (by decide) ?_
    refine lv_istore_n (lv' := [(1, .int 0), (0, .ref (ad 0))]) hx hb dX8_notes_47 rfl hl (by decide) rfl (fun ls hl => ?_)
    have lp48 : ∀ (n : Nat) (j : Nat), (j ≤ 46) → 46 - j < n → ∀ (H : Heap) (locs : List Loc), va_P D vwCl (modelW c ad (va_up (nsA μ) 9 (nsR μ j)) r) H → va_D A (modelW c ad (va_up (nsA μ) 9 (nsR μ j)) r) → va_S A H0 H locs → ∀ ls : Array Slot, lv_has ls 2 [(0, .ref (ad 0)), (1, .int (nI j))] → W pr l ev rmX8_notes ss mm args below meth cd H locs 0 0 Q (F0 mm 48 ls []) := by
      intro n
      induction n with
      | zero => intro j hj hn; exact absurd hn (Nat.not_lt_zero _)
      | succ n ih48 =>
        intro j hj hn H locs hP hD hS ls hl
        refine lv_iload_n hx hb dX8_notes_48 rfl (lv_at hl 1 rfl) ?_
        refine lv_bipush (v := 46) hx hb dX8_notes_49 (by decide) ?_
        refine wk_ge (tgt := 80) hx hb j 46 rfl rfl (by omega) (by omega) dX8_notes_51 (by decide) (fun h1 => ?_) (fun h1 => ?_)
        · refine lv_aload_n hx hb dX8_notes_80 rfl (lv_at hl 0 rfl) ?_
          refine lv_dup hx hb dX8_notes_81 rfl ?_
          refine wg_X8_10 hx hb hts iX8 hown hK hP 0 rfl k1 (v := .int ((nsA μ) 10 0)) rfl dX8_notes_82 ?_
          refine wk_eqi (y := nI (nsU μ)) (nsA_u hU) ?_
          refine lv_iconst (v := 1) hx hb dX8_notes_85 (by decide) ?_
          refine lv_iadd hx hb dX8_notes_86 ?_
          refine wk_eqi (nI_add (nsU μ) 1) ?_
          refine wp_X8_10 hx hb hts iX8 hown hK hP hD hS 0 rfl k1 (Nat.le_of_ble_eq_true rfl) dX8_notes_87 (ws' := modelW c ad (va_up (va_up (nsA μ) 9 (nsR μ j)) 10 (fun _ => nI ((nsU μ) + 1))) r) rfl (fun H locs hP hD hS => ?_)
          have eg2 : va_up (va_up (nsA μ) 9 (nsR μ j)) 10 (fun _ => nI ((nsU μ) + 1)) = nsF μ := by rw [nsF, show j = 46 by omega]
          have hP : va_P D vwCl (modelW c ad (nsF μ) r) H := by rw [← eg2]; exact hP
          have hD : va_D A (modelW c ad (nsF μ) r) := by rw [← eg2]; exact hD
          exact ret 90 ls H _ hP hS dX8_notes_90
        refine lv_aload_n hx hb dX8_notes_54 rfl (lv_at hl 0 rfl) ?_
        refine wg_X8_9 hx hb hts iX8 hown hK hP 0 rfl k2 (v := .ref (ad 9)) rfl dX8_notes_55 ?_
        refine lv_bipush (v := 46) hx hb dX8_notes_58 (by decide) ?_
        refine lv_aload_n hx hb dX8_notes_60 rfl (lv_at hl 0 rfl) ?_
        refine wg_X8_10 hx hb hts iX8 hown hK hP 0 rfl k1 (v := .int ((nsA μ) 10 0)) rfl dX8_notes_61 ?_
        refine wk_eqi (y := nI (nsU μ)) (nsA_u hU) ?_
        refine lv_imul hx hb dX8_notes_64 ?_
        refine wk_eqi (pk_mul 46 (nsU μ)) ?_
        refine lv_iload_n hx hb dX8_notes_65 rfl (lv_at hl 1 rfl) ?_
        refine lv_iadd hx hb dX8_notes_66 ?_
        refine wk_eqi (nI_add (46 * (nsU μ)) j) ?_
        refine lv_aload_n hx hb dX8_notes_67 rfl (lv_at hl 0 rfl) ?_
        refine wg_X8_8 hx hb hts iX8 hown hK hP 0 rfl k3 (v := .ref (ad 8)) rfl dX8_notes_68 ?_
        refine lv_iload_n hx hb dX8_notes_71 rfl (lv_at hl 1 rfl) ?_
        refine wk_ald (f := (nsA μ) 8) hx hb hK hP 4 0 rfl rfl j rfl (by omega) (by decide) dX8_notes_72 ?_
        refine wk_ast hx hb hK hP hD hS 5 0 rfl rfl ((46 * (nsU μ)) + j) rfl (by omega) (by decide) dX8_notes_73 (ws' := modelW c ad (va_up (nsA μ) 9 (upd (nsR μ j) ((46 * (nsU μ)) + j) ((nsA μ) 8 j))) r) rfl (fun H locs hP hD hS => ?_)
        refine lv_iinc (v := nI (j + 1)) (lv' := [(1, .int (nI (j + 1))), (0, .ref (ad 0))]) hx hb dX8_notes_74 hl (k := 1) rfl (nI_inc j 1) (by decide) rfl (fun ls hl => ?_)
        refine lv_goto (tgt := 48) hx hb dX8_notes_77 (by decide) ?_
        have eg3 : va_up (nsA μ) 9 (upd (nsR μ j) ((46 * (nsU μ)) + j) ((nsA μ) 8 j)) = va_up (nsA μ) 9 (nsR μ (j + 1)) := by exact congrArg (va_up (nsA μ) 9) (nsR_s μ j)
        have hP : va_P D vwCl (modelW c ad (va_up (nsA μ) 9 (nsR μ (j + 1))) r) H := by rw [← eg3]; exact hP
        have hD : va_D A (modelW c ad (va_up (nsA μ) 9 (nsR μ (j + 1))) r) := by rw [← eg3]; exact hD
        have hl : lv_has ls 2 [(0, .ref (ad 0)), (1, .int (nI (j + 1)))] := lv_sub hl [1, 0] rfl
        exact ih48 (j + 1) (by omega) (by omega) H _ hP hD hS ls hl
    have eg4 : nsA μ = va_up (nsA μ) 9 (nsR μ 0) := by exact (up_self (nsR_0 μ)).symm
    have hP : va_P D vwCl (modelW c ad (va_up (nsA μ) 9 (nsR μ 0)) r) H := by rw [← eg4]; exact hP
    have hD : va_D A (modelW c ad (va_up (nsA μ) 9 (nsR μ 0)) r) := by rw [← eg4]; exact hD
    have hl : lv_has ls 2 [(0, .ref (ad 0)), (1, .int 0)] := lv_sub hl [1, 0] rfl
    have hl := wk_lset (y := nI 0) (lv_sub (l' := [(1, .int 0), (0, .ref (ad 0))]) hl [1, 0] rfl) (by rfl)
    have hl : lv_has ls 2 [(0, .ref (ad 0)), (1, .int (nI 0))] := lv_sub hl [1, 0] rfl
    exact lp48 _ 0 (by omega) (Nat.lt_succ_self _) H locs hP hD hS ls hl
  refine lv_aload_n hx hb dX8_notes_0 rfl (lv_at hl 0 rfl) ?_
  refine wg_X8_10 hx hb hts iX8 hown hK hP 0 rfl k1 (v := .int (μ 10 0)) rfl dX8_notes_1 ?_
  refine wk_eqi (y := nI (uM μ)) (hU.1) ?_
  refine lv_bipush (v := 10) hx hb dX8_notes_4 (by decide) ?_
  refine wk_ne (tgt := 46) hx hb (uM μ) 10 rfl rfl (by omega) (by omega) dX8_notes_6 (by decide) (fun h5 => ?_) (fun h5 => ?_)
  · have eg6 : μ = nsA μ := by rw [nsA, if_neg h5]
    have hP : va_P D vwCl (modelW c ad (nsA μ) r) H := by rw [← eg6]; exact hP
    have hD : va_D A (modelW c ad (nsA μ) r) := by rw [← eg6]; exact hD
    have hl : lv_has ls 2 [(0, .ref (ad 0))] := lv_sub hl [0] rfl
    exact jn46 H _ hP hD hS ls hl
  refine lv_bipush (v := 46) hx hb dX8_notes_9 (by decide) ?_
  refine lv_istore_n (lv' := [(1, .int 46), (0, .ref (ad 0))]) hx hb dX8_notes_11 rfl hl (by decide) rfl (fun ls hl => ?_)
  have lp12 : ∀ (n : Nat) (i : Nat), (46 ≤ i) → (i ≤ 460) → 460 - i < n → ∀ (H : Heap) (locs : List Loc), va_P D vwCl (modelW c ad (va_up μ 9 (fun k => if k + 46 < i then μ 9 (k + 46) else μ 9 k)) r) H → va_D A (modelW c ad (va_up μ 9 (fun k => if k + 46 < i then μ 9 (k + 46) else μ 9 k)) r) → va_S A H0 H locs → ∀ ls : Array Slot, lv_has ls 2 [(0, .ref (ad 0)), (1, .int (nI i))] → W pr l ev rmX8_notes ss mm args below meth cd H locs 0 0 Q (F0 mm 12 ls []) := by
    intro n
    induction n with
    | zero => intro i hi0 hi hn; exact absurd hn (Nat.not_lt_zero _)
    | succ n ih12 =>
      intro i hi0 hi hn H locs hP hD hS ls hl
      refine lv_iload_n hx hb dX8_notes_12 rfl (lv_at hl 1 rfl) ?_
      refine lv_sipush (v := 460) hx hb dX8_notes_13 (by decide) ?_
      refine wk_ge (tgt := 40) hx hb i 460 rfl rfl (by omega) (by omega) dX8_notes_16 (by decide) (fun h7 => ?_) (fun h7 => ?_)
      · refine lv_aload_n hx hb dX8_notes_40 rfl (lv_at hl 0 rfl) ?_
        refine lv_bipush (v := 9) hx hb dX8_notes_41 (by decide) ?_
        refine wp_X8_10 hx hb hts iX8 hown hK hP hD hS 0 rfl k1 (Nat.le_of_ble_eq_true rfl) dX8_notes_43 (ws' := modelW c ad (va_up (va_up μ 9 (fun k => if k + 46 < i then μ 9 (k + 46) else μ 9 k)) 10 (fun _ => 9)) r) rfl (fun H locs hP hD hS => ?_)
        have eg8 : va_up (va_up μ 9 (fun k => if k + 46 < i then μ 9 (k + 46) else μ 9 k)) 10 (fun _ => 9) = nsA μ := by rw [nsA, if_pos h5, show i = 460 by omega]
        have hP : va_P D vwCl (modelW c ad (nsA μ) r) H := by rw [← eg8]; exact hP
        have hD : va_D A (modelW c ad (nsA μ) r) := by rw [← eg8]; exact hD
        have hl : lv_has ls 2 [(0, .ref (ad 0))] := lv_sub hl [0] rfl
        exact jn46 H _ hP hD hS ls hl
      refine lv_aload_n hx hb dX8_notes_19 rfl (lv_at hl 0 rfl) ?_
      refine wg_X8_9 hx hb hts iX8 hown hK hP 0 rfl k2 (v := .ref (ad 9)) rfl dX8_notes_20 ?_
      refine lv_iload_n hx hb dX8_notes_23 rfl (lv_at hl 1 rfl) ?_
      refine lv_bipush (v := 46) hx hb dX8_notes_24 (by decide) ?_
      refine lv_isub hx hb dX8_notes_26 ?_
      refine wk_eqi (pk_sub (a := i) (b := 46) (by omega)) ?_
      refine lv_aload_n hx hb dX8_notes_27 rfl (lv_at hl 0 rfl) ?_
      refine wg_X8_9 hx hb hts iX8 hown hK hP 0 rfl k2 (v := .ref (ad 9)) rfl dX8_notes_28 ?_
      refine lv_iload_n hx hb dX8_notes_31 rfl (lv_at hl 1 rfl) ?_
      refine wk_ald (f := fun k => if k + 46 < i then μ 9 (k + 46) else μ 9 k) hx hb hK hP 5 0 rfl rfl i rfl (by omega) (by decide) dX8_notes_32 ?_
      refine wk_eqi (y := μ 9 i) (if_neg (by omega)) ?_
      refine wk_ast hx hb hK hP hD hS 5 0 rfl rfl (i - 46) rfl (by omega) (by decide) dX8_notes_33 (ws' := modelW c ad (va_up μ 9 (upd (fun k => if k + 46 < i then μ 9 (k + 46) else μ 9 k) (i - 46) (μ 9 i))) r) rfl (fun H locs hP hD hS => ?_)
      refine lv_iinc (v := nI (i + 1)) (lv' := [(1, .int (nI (i + 1))), (0, .ref (ad 0))]) hx hb dX8_notes_34 hl (k := 1) rfl (nI_inc i 1) (by decide) rfl (fun ls hl => ?_)
      refine lv_goto (tgt := 12) hx hb dX8_notes_37 (by decide) ?_
      have eg9 : va_up μ 9 (upd (fun k => if k + 46 < i then μ 9 (k + 46) else μ 9 k) (i - 46) (μ 9 i)) = va_up μ 9 (fun k => if k + 46 < (i + 1) then μ 9 (k + 46) else μ 9 k) := by exact congrArg (va_up μ 9) (sh_s (μ 9) hi0)
      have hP : va_P D vwCl (modelW c ad (va_up μ 9 (fun k => if k + 46 < (i + 1) then μ 9 (k + 46) else μ 9 k)) r) H := by rw [← eg9]; exact hP
      have hD : va_D A (modelW c ad (va_up μ 9 (fun k => if k + 46 < (i + 1) then μ 9 (k + 46) else μ 9 k)) r) := by rw [← eg9]; exact hD
      have hl : lv_has ls 2 [(0, .ref (ad 0)), (1, .int (nI (i + 1)))] := lv_sub hl [1, 0] rfl
      exact ih12 (i + 1) (by omega) (by omega) (by omega) H _ hP hD hS ls hl
  have eg10 : μ = va_up μ 9 (fun k => if k + 46 < 46 then μ 9 (k + 46) else μ 9 k) := by exact (up_self (sh_0 (μ 9))).symm
  have hP : va_P D vwCl (modelW c ad (va_up μ 9 (fun k => if k + 46 < 46 then μ 9 (k + 46) else μ 9 k)) r) H := by rw [← eg10]; exact hP
  have hD : va_D A (modelW c ad (va_up μ 9 (fun k => if k + 46 < 46 then μ 9 (k + 46) else μ 9 k)) r) := by rw [← eg10]; exact hD
  have hl : lv_has ls 2 [(0, .ref (ad 0)), (1, .int 46)] := lv_sub hl [1, 0] rfl
  have hl := wk_lset (y := nI 46) (lv_sub (l' := [(1, .int 46), (0, .ref (ad 0))]) hl [1, 0] rfl) (by rfl)
  have hl : lv_has ls 2 [(0, .ref (ad 0)), (1, .int (nI 46))] := lv_sub hl [1, 0] rfl
  exact lp12 _ 46 (by omega) (by omega) (Nat.lt_succ_self _) H _ hP hD hS ls hl

abbrev rmX8_undo : Room := { frames := 0, cells := 0, slots := 0, locals := 0 }
theorem hd_X8_undo : yX8_undo.cls = RX8 ∧ yX8_undo.cls ≠ "java/lang/invoke/MethodHandle" ∧ yX8_undo.cls ≠ "java/lang/invoke/VarHandle" ∧ (parseMethodDescriptor yX8_undo.desc).map (fun d => d.parameters.length) = some 0 := by decide +kernel
set_option maxHeartbeats 4000000 in
set_option maxRecDepth 100000 in
theorem c_X8_undo (l : Launch) (D : va_G) (c : Nat → ClassId) (ad : Nat → Nat) (μ : Nat → Nat → Int32) (r : Int64) (hU : wfU μ) : wk_UpI l yX8_undo wsX8_undo rmX8_undo D (tysL c) [.ref (ad 0)] (modelW c ad μ r) (modelW c ad (unF μ) r) (unV μ) := by
  refine wk_mkU (cc := cX8_undo) (maxL := 2) (rt := .int) (by decide) rfl (Nat.le_of_ble_eq_true rfl) rfl ?_
  intro A pr ev ss mm args below meth cd ls H H0 locs Q hst hP hK hD hS hA hl ret
  obtain ⟨hx, hb, hml, hown, hts, -⟩ := hst
  have hown : ss.vm.findClass RX8 = some mm.cls := hown
  have hl : lv_has ls 2 [(0, .ref (ad 0))] := hl
  have k1 := hts (.fieldLink RX8 87 "LastWordModel" "undos" "I") (List.mem_of_getElem? (i := 1) rfl)
  have k2 := hts (.fieldLink RX8 19 "LastWordModel" "now" "[I") (List.mem_of_getElem? (i := 2) rfl)
  have k3 := hts (.fieldLink RX8 22 "LastWordModel" "undone" "[I") (List.mem_of_getElem? (i := 3) rfl)
  have iX8 : ∀ w ∈ u_ws RX8 TX8 18, w ∈ wsX8_undo := fun _ h => (List.mem_cons_of_mem _ (List.mem_append_right _ h))
  have hU10 := hU.2
  refine lv_aload_n hx hb dX8_undo_0 rfl (lv_at hl 0 rfl) ?_
  refine wg_X8_10 hx hb hts iX8 hown hK hP 0 rfl k1 (v := .int (μ 10 0)) rfl dX8_undo_1 ?_
  refine wk_eqi (y := nI (uM μ)) (hU.1) ?_
  refine lv_if_ne (tgt := 10) hx hb dX8_undo_4 (by decide) (fun h1 => ?_) (fun h1 => ?_)
  rotate_left
  · have hz : uM μ = 0 := (nI_eq (a := uM μ) (b := 0) (by omega) (by omega)).mp h1
    refine lv_bipush (v := -2) hx hb dX8_undo_7 (by decide) ?_
    have eg6 : μ = unF μ := by rw [unF, if_pos hz]
    have hP : va_P D vwCl (modelW c ad (unF μ) r) H := by rw [← eg6]; exact hP
    have hD : va_D A (modelW c ad (unF μ) r) := by rw [← eg6]; exact hD
    exact ret 9 ls H _ ((-2)) (by rw [unV, if_pos hz]) hP hS dX8_undo_9
  have hz : ¬ uM μ = 0 := fun e => h1 (by rw [e]; rfl)
  refine lv_aload_n hx hb dX8_undo_10 rfl (lv_at hl 0 rfl) ?_
  refine lv_dup hx hb dX8_undo_11 rfl ?_
  refine wg_X8_10 hx hb hts iX8 hown hK hP 0 rfl k1 (v := .int (μ 10 0)) rfl dX8_undo_12 ?_
  refine wk_eqi (y := nI (uM μ)) (hU.1) ?_
  refine lv_iconst (v := 1) hx hb dX8_undo_15 (by decide) ?_
  refine lv_isub hx hb dX8_undo_16 ?_
  refine wk_eqi (pk_sub (a := uM μ) (b := 1) (by omega)) ?_
  refine wp_X8_10 hx hb hts iX8 hown hK hP hD hS 0 rfl k1 (Nat.le_of_ble_eq_true rfl) dX8_undo_17 (ws' := modelW c ad (va_up μ 10 (fun _ => nI ((uM μ) - 1))) r) rfl (fun H locs hP hD hS => ?_)
  refine lv_iconst (v := 0) hx hb dX8_undo_20 (by decide) ?_
  refine lv_istore_n (lv' := [(1, .int 0), (0, .ref (ad 0))]) hx hb dX8_undo_21 rfl hl (by decide) rfl (fun ls hl => ?_)
  have lp22 : ∀ (n : Nat) (i : Nat), (i ≤ 46) → 46 - i < n → ∀ (H : Heap) (locs : List Loc), va_P D vwCl (modelW c ad (va_up (va_up μ 10 (fun _ => nI (uM μ - 1))) 8 (fun k => if k < i then μ 9 (46 * (uM μ - 1) + k) else μ 8 k)) r) H → va_D A (modelW c ad (va_up (va_up μ 10 (fun _ => nI (uM μ - 1))) 8 (fun k => if k < i then μ 9 (46 * (uM μ - 1) + k) else μ 8 k)) r) → va_S A H0 H locs → ∀ ls : Array Slot, lv_has ls 2 [(0, .ref (ad 0)), (1, .int (nI i))] → W pr l ev rmX8_undo ss mm args below meth cd H locs 0 0 Q (F0 mm 22 ls []) := by
    intro n
    induction n with
    | zero => intro i hi hn; exact absurd hn (Nat.not_lt_zero _)
    | succ n ih22 =>
      intro i hi hn H locs hP hD hS ls hl
      refine lv_iload_n hx hb dX8_undo_22 rfl (lv_at hl 1 rfl) ?_
      refine lv_bipush (v := 46) hx hb dX8_undo_23 (by decide) ?_
      refine wk_ge (tgt := 54) hx hb i 46 rfl rfl (by omega) (by omega) dX8_undo_25 (by decide) (fun h2 => ?_) (fun h2 => ?_)
      · refine lv_aload_n hx hb dX8_undo_54 rfl (lv_at hl 0 rfl) ?_
        refine wg_X8_10 hx hb hts iX8 hown hK hP 0 rfl k1 (v := .int (nI (uM μ - 1))) rfl dX8_undo_55 ?_
        have eg3 : va_up (va_up μ 10 (fun _ => nI (uM μ - 1))) 8 (fun k => if k < i then μ 9 (46 * (uM μ - 1) + k) else μ 8 k) = unF μ := by rw [unF, if_neg hz, show i = 46 by omega]
        have hP : va_P D vwCl (modelW c ad (unF μ) r) H := by rw [← eg3]; exact hP
        have hD : va_D A (modelW c ad (unF μ) r) := by rw [← eg3]; exact hD
        exact ret 58 ls H _ (nI (uM μ - 1)) (by rw [unV, if_neg hz]) hP hS dX8_undo_58
      refine lv_aload_n hx hb dX8_undo_28 rfl (lv_at hl 0 rfl) ?_
      refine wg_X8_8 hx hb hts iX8 hown hK hP 0 rfl k2 (v := .ref (ad 8)) rfl dX8_undo_29 ?_
      refine lv_iload_n hx hb dX8_undo_32 rfl (lv_at hl 1 rfl) ?_
      refine lv_aload_n hx hb dX8_undo_33 rfl (lv_at hl 0 rfl) ?_
      refine wg_X8_9 hx hb hts iX8 hown hK hP 0 rfl k3 (v := .ref (ad 9)) rfl dX8_undo_34 ?_
      refine lv_bipush (v := 46) hx hb dX8_undo_37 (by decide) ?_
      refine lv_aload_n hx hb dX8_undo_39 rfl (lv_at hl 0 rfl) ?_
      refine wg_X8_10 hx hb hts iX8 hown hK hP 0 rfl k1 (v := .int (nI (uM μ - 1))) rfl dX8_undo_40 ?_
      refine wk_eqi (y := nI (uM μ - 1)) (rfl) ?_
      refine lv_imul hx hb dX8_undo_43 ?_
      refine wk_eqi (pk_mul 46 (uM μ - 1)) ?_
      refine lv_iload_n hx hb dX8_undo_44 rfl (lv_at hl 1 rfl) ?_
      refine lv_iadd hx hb dX8_undo_45 ?_
      refine wk_eqi (nI_add (46 * (uM μ - 1)) i) ?_
      refine wk_ald (f := μ 9) hx hb hK hP 5 0 rfl rfl ((46 * (uM μ - 1)) + i) rfl (by omega) (by decide) dX8_undo_46 ?_
      refine wk_ast hx hb hK hP hD hS 4 0 rfl rfl i rfl (by omega) (by decide) dX8_undo_47 (ws' := modelW c ad (va_up (va_up μ 10 (fun _ => nI (uM μ - 1))) 8 (upd (fun k => if k < i then μ 9 (46 * (uM μ - 1) + k) else μ 8 k) i (μ 9 ((46 * (uM μ - 1)) + i)))) r) rfl (fun H locs hP hD hS => ?_)
      refine lv_iinc (v := nI (i + 1)) (lv' := [(1, .int (nI (i + 1))), (0, .ref (ad 0))]) hx hb dX8_undo_48 hl (k := 1) rfl (nI_inc i 1) (by decide) rfl (fun ls hl => ?_)
      refine lv_goto (tgt := 22) hx hb dX8_undo_51 (by decide) ?_
      have eg4 : va_up (va_up μ 10 (fun _ => nI (uM μ - 1))) 8 (upd (fun k => if k < i then μ 9 (46 * (uM μ - 1) + k) else μ 8 k) i (μ 9 ((46 * (uM μ - 1)) + i))) = va_up (va_up μ 10 (fun _ => nI (uM μ - 1))) 8 (fun k => if k < (i + 1) then μ 9 (46 * (uM μ - 1) + k) else μ 8 k) := by exact congrArg (va_up (va_up μ 10 (fun _ => nI (uM μ - 1))) 8) (fill_s (fun k => μ 9 (46 * (uM μ - 1) + k)) (μ 8) i)
      have hP : va_P D vwCl (modelW c ad (va_up (va_up μ 10 (fun _ => nI (uM μ - 1))) 8 (fun k => if k < (i + 1) then μ 9 (46 * (uM μ - 1) + k) else μ 8 k)) r) H := by rw [← eg4]; exact hP
      have hD : va_D A (modelW c ad (va_up (va_up μ 10 (fun _ => nI (uM μ - 1))) 8 (fun k => if k < (i + 1) then μ 9 (46 * (uM μ - 1) + k) else μ 8 k)) r) := by rw [← eg4]; exact hD
      have hl : lv_has ls 2 [(0, .ref (ad 0)), (1, .int (nI (i + 1)))] := lv_sub hl [1, 0] rfl
      exact ih22 (i + 1) (by omega) (by omega) H _ hP hD hS ls hl
  have eg5 : va_up μ 10 (fun _ => nI ((uM μ) - 1)) = va_up (va_up μ 10 (fun _ => nI (uM μ - 1))) 8 (fun k => if k < 0 then μ 9 (46 * (uM μ - 1) + k) else μ 8 k) := by exact (up_self (μ := va_up μ 10 (fun _ => nI (uM μ - 1))) (fill_0 (fun k => μ 9 (46 * (uM μ - 1) + k)) (μ 8))).symm
  have hP : va_P D vwCl (modelW c ad (va_up (va_up μ 10 (fun _ => nI (uM μ - 1))) 8 (fun k => if k < 0 then μ 9 (46 * (uM μ - 1) + k) else μ 8 k)) r) H := by rw [← eg5]; exact hP
  have hD : va_D A (modelW c ad (va_up (va_up μ 10 (fun _ => nI (uM μ - 1))) 8 (fun k => if k < 0 then μ 9 (46 * (uM μ - 1) + k) else μ 8 k)) r) := by rw [← eg5]; exact hD
  have hl : lv_has ls 2 [(0, .ref (ad 0)), (1, .int 0)] := lv_sub hl [1, 0] rfl
  have hl := wk_lset (y := nI 0) (lv_sub (l' := [(1, .int 0), (0, .ref (ad 0))]) hl [1, 0] rfl) (by rfl)
  have hl : lv_has ls 2 [(0, .ref (ad 0)), (1, .int (nI 0))] := lv_sub hl [1, 0] rfl
  exact lp22 _ 0 (by omega) (Nat.lt_succ_self _) H locs hP hD hS ls hl

abbrev rmX8_laysDown : Room := { frames := 3, cells := 0, slots := 0, locals := 71 }
theorem hd_X8_laysDown : yX8_laysDown.cls = RX8 ∧ yX8_laysDown.cls ≠ "java/lang/invoke/MethodHandle" ∧ yX8_laysDown.cls ≠ "java/lang/invoke/VarHandle" ∧ (parseMethodDescriptor yX8_laysDown.desc).map (fun d => d.parameters.length) = some 1 := by decide +kernel
set_option maxHeartbeats 4000000 in
set_option maxRecDepth 100000 in
theorem c_X8_laysDown (l : Launch) (D : va_G) (c : Nat → ClassId) (ad : Nat → Nat) (μ : Nat → Nat → Int32) (r : Int64) (w : Int32) (hW : wfW μ) (hQ : wfQM μ) (hS5 : wfSM μ) : wk_UpI l yX8_laysDown wsX8_laysDown rmX8_laysDown D (tysL c) [.ref (ad 0), .int w] (modelW c ad μ r) (modelW c ad (ldS μ w (qM μ)) r) (ldC μ w (qM μ)) := by
  refine wk_mkU (cc := cX8_laysDown) (maxL := 4) (rt := .int) (by decide) rfl (Nat.le_of_ble_eq_true rfl) rfl ?_
  intro A pr ev ss mm args below meth cd ls H H0 locs Q hst hP hK hD hS hA hl ret
  obtain ⟨hx, hb, hml, hown, hts, -⟩ := hst
  have hown : ss.vm.findClass RX8 = some mm.cls := hown
  have hl : lv_has ls 4 [(0, .ref (ad 0)), (1, .int w)] := hl
  have k1 := hts (.fieldLink RX8 19 "LastWordModel" "now" "[I") (List.mem_of_getElem? (i := 1) rfl)
  have iX8 : ∀ w ∈ u_ws RX8 TX8 18, w ∈ wsX8_laysDown := fun _ h => (List.mem_cons_of_mem _ (List.mem_append_right _ h))
  have hQ6 := hQ.2
  refine lv_aload_n hx hb dX8_laysDown_0 rfl (lv_at hl 0 rfl) ?_
  refine wg_X8_8 hx hb hts iX8 hown hK hP 0 rfl k1 (v := .ref (ad 8)) rfl dX8_laysDown_1 ?_
  refine lv_iconst (v := 2) hx hb dX8_laysDown_4 (by decide) ?_
  refine lv_dup2_11 hx hb dX8_laysDown_5 rfl rfl ?_
  refine wk_ald (f := μ 8) hx hb hK hP 4 0 rfl rfl 2 rfl (by omega) (by decide) dX8_laysDown_6 ?_
  refine lv_iconst (v := 1) hx hb dX8_laysDown_7 (by decide) ?_
  refine lv_iload_n hx hb dX8_laysDown_8 rfl (lv_at hl 1 rfl) ?_
  refine lv_ishl hx hb dX8_laysDown_9 ?_
  refine lv_ior hx hb dX8_laysDown_10 ?_
  refine wk_ast hx hb hK hP hD hS 4 0 rfl rfl 2 rfl (by omega) (by decide) dX8_laysDown_11 (ws' := modelW c ad (va_up μ 8 (upd (μ 8) 2 ((μ 8 2) ||| (1 <<< (w &&& 31))))) r) rfl (fun H locs hP hD hS => ?_)
  refine lv_iconst (v := 0) hx hb dX8_laysDown_12 (by decide) ?_
  refine lv_istore_n (lv' := [(2, .int 0), (0, .ref (ad 0)), (1, .int w)]) hx hb dX8_laysDown_13 rfl hl (by decide) rfl (fun ls hl => ?_)
  refine lv_iconst (v := 0) hx hb dX8_laysDown_14 (by decide) ?_
  refine lv_istore_n (lv' := [(3, .int 0), (2, .int 0), (0, .ref (ad 0)), (1, .int w)]) hx hb dX8_laysDown_15 rfl hl (by decide) rfl (fun ls hl => ?_)
  have lp16 : ∀ (n : Nat) (i : Nat), (i ≤ qM μ) → qM μ - i < n → ∀ (H : Heap) (locs : List Loc), va_P D vwCl (modelW c ad (ldS μ w i) r) H → va_D A (modelW c ad (ldS μ w i) r) → va_S A H0 H locs → ∀ ls : Array Slot, lv_has ls 4 [(0, .ref (ad 0)), (1, .int w), (2, .int (ldC μ w i)), (3, .int (nI i))] → W pr l ev rmX8_laysDown ss mm args below meth cd H locs 0 0 Q (F0 mm 16 ls []) := by
    intro n
    induction n with
    | zero => intro i hi hn; exact absurd hn (Nat.not_lt_zero _)
    | succ n ih16 =>
      intro i hi hn H locs hP hD hS ls hl
      refine lv_iload_n hx hb dX8_laysDown_16 rfl (lv_at hl 3 rfl) ?_
      refine lv_aload_n hx hb dX8_laysDown_17 rfl (lv_at hl 0 rfl) ?_
      refine wg_X8_8 hx hb hts iX8 hown hK hP 0 rfl k1 (v := .ref (ad 8)) rfl dX8_laysDown_18 ?_
      refine lv_iconst (v := 1) hx hb dX8_laysDown_21 (by decide) ?_
      refine wk_ald (f := (ldS μ w i) 8) hx hb hK hP 4 0 rfl rfl 1 rfl (by omega) (by decide) dX8_laysDown_22 ?_
      refine wk_eqi (y := nI (qM μ)) ((ldS_q μ w i).trans hQ.1) ?_
      refine wk_ge (tgt := 50) hx hb i (qM μ) rfl rfl (by omega) (by omega) dX8_laysDown_23 (by decide) (fun h1 => ?_) (fun h1 => ?_)
      · refine lv_iload_n hx hb dX8_laysDown_50 rfl (lv_at hl 2 rfl) ?_
        have eg2 : ldS μ w i = ldS μ w (qM μ) := by rw [show i = qM μ by omega]
        have hP : va_P D vwCl (modelW c ad (ldS μ w (qM μ)) r) H := by rw [← eg2]; exact hP
        have hD : va_D A (modelW c ad (ldS μ w (qM μ)) r) := by rw [← eg2]; exact hD
        exact ret 51 ls H _ (ldC μ w i) (by rw [show i = qM μ by omega]) hP hS dX8_laysDown_51
      refine lv_aload_n hx hb dX8_laysDown_26 rfl (lv_at hl 0 rfl) ?_
      refine lv_iload_n hx hb dX8_laysDown_27 rfl (lv_at hl 3 rfl) ?_
      refine lv_iconst (v := 3) hx hb dX8_laysDown_28 (by decide) ?_
      refine wk_callRV (As := [.int (nI i), .int 3]) (rest := []) ⟨hx, hb, hml, hown, hts⟩ (c_X8_at l D c ad (ldS μ w i) r i 3 (by omega) (by omega)) (cwV 2 hts gX8_laysDown_X8_at rfl rfl rfl hd_X8_at ⟨Nat.le_of_ble_eq_true rfl, Nat.le_of_ble_eq_true rfl⟩) hK hP [0, 1, 2, 3, 4, 5, 6, 7, 8] rfl 0 rfl rfl rfl hl.1 rfl (Nat.le_of_ble_eq_true rfl) dX8_laysDown_29 (Nat.zero_le _) (Nat.zero_le _) ?_
      refine lv_iload_n hx hb dX8_laysDown_32 rfl (lv_at hl 1 rfl) ?_
      refine lv_icmp_ne (tgt := 44) hx hb dX8_laysDown_33 (by decide) (fun h3 => ?_) (fun h3 => ?_)
      · refine lv_iinc (v := nI (i + 1)) (lv' := [(3, .int (nI (i + 1))), (0, .ref (ad 0)), (1, .int w), (2, .int (ldC μ w i))]) hx hb dX8_laysDown_44 hl (k := 3) rfl (nI_inc i 1) (by decide) rfl (fun ls hl => ?_)
        refine lv_goto (tgt := 16) hx hb dX8_laysDown_47 (by decide) ?_
        have eg4 : ldS μ w i = ldS μ w (i + 1) := by first | rfl | rw [ldS, if_pos h3] | rw [ldS, if_neg h3] | rw [ldC, if_pos h3] | rw [ldC, if_neg h3]
        have hP : va_P D vwCl (modelW c ad (ldS μ w (i + 1)) r) H := by rw [← eg4]; exact hP
        have hD : va_D A (modelW c ad (ldS μ w (i + 1)) r) := by rw [← eg4]; exact hD
        have hl : lv_has ls 4 [(0, .ref (ad 0)), (1, .int w), (2, .int (ldC μ w i)), (3, .int (nI (i + 1)))] := lv_sub hl [1, 2, 3, 0] rfl
        have hl := wk_lset (y := ldC μ w (i + 1)) (lv_sub (l' := [(2, .int (ldC μ w i)), (0, .ref (ad 0)), (1, .int w), (3, .int (nI (i + 1)))]) hl [2, 0, 1, 3] rfl) (by first | rfl | rw [ldS, if_pos h3] | rw [ldS, if_neg h3] | rw [ldC, if_pos h3] | rw [ldC, if_neg h3])
        have hl : lv_has ls 4 [(0, .ref (ad 0)), (1, .int w), (2, .int (ldC μ w (i + 1))), (3, .int (nI (i + 1)))] := lv_sub hl [1, 2, 0, 3] rfl
        exact ih16 (i + 1) (by omega) (by omega) H _ hP hD hS ls hl
      refine lv_aload_n hx hb dX8_laysDown_36 rfl (lv_at hl 0 rfl) ?_
      refine lv_iload_n hx hb dX8_laysDown_37 rfl (lv_at hl 3 rfl) ?_
      refine wk_callVV (As := [.int (nI i)]) (rest := []) ⟨hx, hb, hml, hown, hts⟩ (c_X8_means l D c ad (ldS μ w i) r i (ldS_W hW w i) (by omega) (by rw [ldS_s]; exact hS5 i (by omega))) (cwV 1 hts gX8_laysDown_X8_means rfl rfl rfl hd_X8_means ⟨Nat.le_of_ble_eq_true rfl, Nat.le_of_ble_eq_true rfl⟩) hK hP hD hS hA [0, 1, 2, 3, 4, 5, 6, 7, 8] [] 9 rfl rfl [ad 0, ad 100, ad 6, ad 7, ad 8, ad 9, ad 12, ad 15, ad 17] rfl rfl (ws' := modelW c ad (mnsF (ldS μ w i) i) r) rfl (wr := []) rfl rfl rfl rfl 0 rfl rfl rfl hl.1 rfl (Nat.le_of_ble_eq_true rfl) dX8_laysDown_38 (Nat.zero_le _) (Nat.zero_le _) (fun H locs hP hD hS => ?_)
      refine lv_iinc (v := ldC μ w i + 1) (lv' := [(2, .int (ldC μ w i + 1)), (0, .ref (ad 0)), (1, .int w), (3, .int (nI i))]) hx hb dX8_laysDown_41 hl (k := 2) rfl (rfl) (by decide) rfl (fun ls hl => ?_)
      refine lv_iinc (v := nI (i + 1)) (lv' := [(3, .int (nI (i + 1))), (2, .int (ldC μ w i + 1)), (0, .ref (ad 0)), (1, .int w)]) hx hb dX8_laysDown_44 hl (k := 3) rfl (nI_inc i 1) (by decide) rfl (fun ls hl => ?_)
      refine lv_goto (tgt := 16) hx hb dX8_laysDown_47 (by decide) ?_
      have eg5 : mnsF (ldS μ w i) i = ldS μ w (i + 1) := by first | rfl | rw [ldS, if_pos h3] | rw [ldS, if_neg h3] | rw [ldC, if_pos h3] | rw [ldC, if_neg h3]
      have hP : va_P D vwCl (modelW c ad (ldS μ w (i + 1)) r) H := by rw [← eg5]; exact hP
      have hD : va_D A (modelW c ad (ldS μ w (i + 1)) r) := by rw [← eg5]; exact hD
      have hl : lv_has ls 4 [(0, .ref (ad 0)), (1, .int w), (2, .int (ldC μ w i + 1)), (3, .int (nI (i + 1)))] := lv_sub hl [2, 3, 1, 0] rfl
      have hl := wk_lset (y := ldC μ w (i + 1)) (lv_sub (l' := [(2, .int (ldC μ w i + 1)), (0, .ref (ad 0)), (1, .int w), (3, .int (nI (i + 1)))]) hl [2, 0, 1, 3] rfl) (by first | rfl | rw [ldS, if_pos h3] | rw [ldS, if_neg h3] | rw [ldC, if_pos h3] | rw [ldC, if_neg h3])
      have hl : lv_has ls 4 [(0, .ref (ad 0)), (1, .int w), (2, .int (ldC μ w (i + 1))), (3, .int (nI (i + 1)))] := lv_sub hl [1, 2, 0, 3] rfl
      exact ih16 (i + 1) (by omega) (by omega) H _ hP hD hS ls hl
  have eg6 : va_up μ 8 (upd (μ 8) 2 ((μ 8 2) ||| (1 <<< (w &&& 31)))) = ldS μ w 0 := by first | rfl | rw [ldS, if_pos %L] | rw [ldS, if_neg %L] | rw [ldC, if_pos %L] | rw [ldC, if_neg %L]
  have hP : va_P D vwCl (modelW c ad (ldS μ w 0) r) H := by rw [← eg6]; exact hP
  have hD : va_D A (modelW c ad (ldS μ w 0) r) := by rw [← eg6]; exact hD
  have hl : lv_has ls 4 [(0, .ref (ad 0)), (1, .int w), (2, .int 0), (3, .int 0)] := lv_sub hl [2, 3, 1, 0] rfl
  have hl := wk_lset (y := ldC μ w 0) (lv_sub (l' := [(2, .int 0), (0, .ref (ad 0)), (1, .int w), (3, .int 0)]) hl [2, 0, 1, 3] rfl) (by first | rfl | rw [ldS, if_pos %L] | rw [ldS, if_neg %L] | rw [ldC, if_pos %L] | rw [ldC, if_neg %L])
  have hl : lv_has ls 4 [(0, .ref (ad 0)), (1, .int w), (2, .int (ldC μ w 0)), (3, .int 0)] := lv_sub hl [1, 2, 0, 3] rfl
  have hl := wk_lset (y := nI 0) (lv_sub (l' := [(3, .int 0), (0, .ref (ad 0)), (1, .int w), (2, .int (ldC μ w 0))]) hl [3, 0, 1, 2] rfl) (by first | rfl | rw [ldS, if_pos %L] | rw [ldS, if_neg %L] | rw [ldC, if_pos %L] | rw [ldC, if_neg %L])
  have hl : lv_has ls 4 [(0, .ref (ad 0)), (1, .int w), (2, .int (ldC μ w 0)), (3, .int (nI 0))] := lv_sub hl [1, 2, 3, 0] rfl
  exact lp16 _ 0 (by omega) (Nat.lt_succ_self _) H locs hP hD hS ls hl

abbrev rmX8_lays : Room := { frames := 4, cells := 0, slots := 0, locals := 94 }
theorem hd_X8_lays : yX8_lays.cls = RX8 ∧ yX8_lays.cls ≠ "java/lang/invoke/MethodHandle" ∧ yX8_lays.cls ≠ "java/lang/invoke/VarHandle" ∧ (parseMethodDescriptor yX8_lays.desc).map (fun d => d.parameters.length) = some 1 := by decide +kernel
set_option maxHeartbeats 4000000 in
set_option maxRecDepth 100000 in
theorem c_X8_lays (l : Launch) (D : va_G) (c : Nat → ClassId) (ad : Nat → Nat) (μ : Nat → Nat → Int32) (r : Int64) (w : Int32) (hW : wfW μ) (hQ : wfQM μ) (hS5 : wfSM μ) (hU : wfU μ) : wk_UpI l yX8_lays wsX8_lays rmX8_lays D (tysL c) [.ref (ad 0), .int w] (modelW c ad μ r) (modelW c ad (mldF μ w) r) (mldV μ w) := by
  refine wk_mkU (cc := cX8_lays) (maxL := 2) (rt := .int) (by decide) rfl (Nat.le_of_ble_eq_true rfl) rfl ?_
  intro A pr ev ss mm args below meth cd ls H H0 locs Q hst hP hK hD hS hA hl ret
  obtain ⟨hx, hb, hml, hown, hts, -⟩ := hst
  have hown : ss.vm.findClass RX8 = some mm.cls := hown
  have hl : lv_has ls 2 [(0, .ref (ad 0)), (1, .int w)] := hl
  refine lv_aload_n hx hb dX8_lays_0 rfl (lv_at hl 0 rfl) ?_
  refine lv_iload_n hx hb dX8_lays_1 rfl (lv_at hl 1 rfl) ?_
  refine wk_callRV (As := [.int w]) (rest := []) ⟨hx, hb, hml, hown, hts⟩ (c_X8_isWriter l D c ad μ r w) (cwV 1 hts gX8_lays_X8_isWriter rfl rfl rfl hd_X8_isWriter ⟨Nat.le_of_ble_eq_true rfl, Nat.le_of_ble_eq_true rfl⟩) hK hP [0, 1, 2, 3, 4, 5, 6, 7, 8] rfl 0 rfl rfl rfl hl.1 rfl (Nat.le_of_ble_eq_true rfl) dX8_lays_2 (Nat.zero_le _) (Nat.zero_le _) ?_
  refine wk_bnz (tgt := 10) hx hb dX8_lays_5 (by decide) (fun h1 => ?_) (fun h1 => ?_)
  rotate_left
  · refine lv_iconst (v := -1) hx hb dX8_lays_8 (by decide) ?_
    have eg5 : μ = mldF μ w := by rw [mldF, if_neg (fun q => h1 q.1)]
    have hP : va_P D vwCl (modelW c ad (mldF μ w) r) H := by rw [← eg5]; exact hP
    have hD : va_D A (modelW c ad (mldF μ w) r) := by rw [← eg5]; exact hD
    exact ret 9 ls H _ ((-1)) (by rw [mldV, if_neg h1]) hP hS dX8_lays_9
  refine lv_aload_n hx hb dX8_lays_10 rfl (lv_at hl 0 rfl) ?_
  refine lv_iload_n hx hb dX8_lays_11 rfl (lv_at hl 1 rfl) ?_
  refine wk_callRV (As := [.int w]) (rest := []) ⟨hx, hb, hml, hown, hts⟩ (c_X8_hasLaid l D c ad μ r w) (cwV 1 hts gX8_lays_X8_hasLaid rfl rfl rfl hd_X8_hasLaid ⟨Nat.le_of_ble_eq_true rfl, Nat.le_of_ble_eq_true rfl⟩) hK hP [0, 1, 2, 3, 4, 5, 6, 7, 8] rfl 0 rfl rfl rfl hl.1 rfl (Nat.le_of_ble_eq_true rfl) dX8_lays_12 (Nat.zero_le _) (Nat.zero_le _) ?_
  refine wk_bz (tgt := 21) hx hb dX8_lays_15 (by decide) (fun h2 => ?_) (fun h2 => ?_)
  rotate_left
  · refine lv_bipush (v := -2) hx hb dX8_lays_18 (by decide) ?_
    have eg4 : μ = mldF μ w := by rw [mldF, if_neg (fun q => q.2 h2)]
    have hP : va_P D vwCl (modelW c ad (mldF μ w) r) H := by rw [← eg4]; exact hP
    have hD : va_D A (modelW c ad (mldF μ w) r) := by rw [← eg4]; exact hD
    exact ret 20 ls H _ ((-2)) (by rw [mldV, if_pos h1, if_pos h2]) hP hS dX8_lays_20
  refine lv_aload_n hx hb dX8_lays_21 rfl (lv_at hl 0 rfl) ?_
  refine wk_callVV (As := []) (rest := []) ⟨hx, hb, hml, hown, hts⟩ (c_X8_notes l D c ad μ r (hU)) (cwV 0 hts gX8_lays_X8_notes rfl rfl rfl hd_X8_notes ⟨Nat.le_of_ble_eq_true rfl, Nat.le_of_ble_eq_true rfl⟩) hK hP hD hS hA [0, 1, 2, 3, 4, 5, 6, 7, 8] [] 9 rfl rfl [ad 0, ad 100, ad 6, ad 7, ad 8, ad 9, ad 12, ad 15, ad 17] rfl rfl (ws' := modelW c ad (nsF μ) r) rfl (wr := []) rfl rfl rfl rfl 0 rfl rfl rfl hl.1 rfl (Nat.le_of_ble_eq_true rfl) dX8_lays_22 (Nat.zero_le _) (Nat.zero_le _) (fun H locs hP hD hS => ?_)
  refine lv_aload_n hx hb dX8_lays_25 rfl (lv_at hl 0 rfl) ?_
  refine lv_iload_n hx hb dX8_lays_26 rfl (lv_at hl 1 rfl) ?_
  refine wk_callUV (As := [.int w]) (rest := []) ⟨hx, hb, hml, hown, hts⟩ (c_X8_laysDown l D c ad (nsF μ) r w (nsF_W hW) (nsF_Q hQ) (nsF_S hS5)) (cwV 1 hts gX8_lays_X8_laysDown rfl rfl rfl hd_X8_laysDown ⟨Nat.le_of_ble_eq_true rfl, Nat.le_of_ble_eq_true rfl⟩) hK hP hD hS hA [0, 1, 2, 3, 4, 5, 6, 7, 8] [] 9 rfl rfl [ad 0, ad 100, ad 6, ad 7, ad 8, ad 9, ad 12, ad 15, ad 17] rfl rfl (ws' := modelW c ad (ldS (nsF μ) w (qM (nsF μ))) r) rfl (wr := []) rfl rfl rfl rfl 0 rfl rfl rfl hl.1 rfl (Nat.le_of_ble_eq_true rfl) dX8_lays_27 (Nat.zero_le _) (Nat.zero_le _) (fun H locs hP hD hS => ?_)
  have eg3 : ldS (nsF μ) w (qM (nsF μ)) = mldF μ w := by rw [mldF, if_pos ⟨h1, h2⟩, nsF_q]
  have hP : va_P D vwCl (modelW c ad (mldF μ w) r) H := by rw [← eg3]; exact hP
  have hD : va_D A (modelW c ad (mldF μ w) r) := by rw [← eg3]; exact hD
  exact ret 30 ls H _ (ldC (nsF μ) w (qM (nsF μ))) (by rw [mldV, if_pos h1, if_neg h2, nsF_q]) hP hS dX8_lays_30

abbrev rmX8_writes : Room := { frames := 4, cells := 0, slots := 0, locals := 95 }
theorem hd_X8_writes : yX8_writes.cls = RX8 ∧ yX8_writes.cls ≠ "java/lang/invoke/MethodHandle" ∧ yX8_writes.cls ≠ "java/lang/invoke/VarHandle" ∧ (parseMethodDescriptor yX8_writes.desc).map (fun d => d.parameters.length) = some 2 := by decide +kernel
set_option maxHeartbeats 4000000 in
set_option maxRecDepth 100000 in
theorem c_X8_writes (l : Launch) (D : va_G) (c : Nat → ClassId) (ad : Nat → Nat) (μ : Nat → Nat → Int32) (r : Int64) (w : Int32) (x2 : Int32) (hW : wfW μ) (hQ : wfQM μ) (hU : wfU μ) : wk_UpI l yX8_writes wsX8_writes rmX8_writes D (tysL c) [.ref (ad 0), .int w, .int x2] (modelW c ad μ r) (modelW c ad (mwtF μ w x2) r) (mwtV μ w x2) := by
  refine wk_mkU (cc := cX8_writes) (maxL := 3) (rt := .int) (by decide) rfl (Nat.le_of_ble_eq_true rfl) rfl ?_
  intro A pr ev ss mm args below meth cd ls H H0 locs Q hst hP hK hD hS hA hl ret
  obtain ⟨hx, hb, hml, hown, hts, -⟩ := hst
  have hown : ss.vm.findClass RX8 = some mm.cls := hown
  have hl : lv_has ls 3 [(0, .ref (ad 0)), (1, .int w), (2, .int x2)] := hl
  have k1 := hts (.fieldLink RX8 19 "LastWordModel" "now" "[I") (List.mem_of_getElem? (i := 1) rfl)
  have iX8 : ∀ w ∈ u_ws RX8 TX8 18, w ∈ wsX8_writes := fun _ h => (List.mem_cons_of_mem _ (List.mem_append_right _ h))
  have hQ6 := hQ.2
  refine lv_aload_n hx hb dX8_writes_0 rfl (lv_at hl 0 rfl) ?_
  refine lv_iload_n hx hb dX8_writes_1 rfl (lv_at hl 1 rfl) ?_
  refine wk_callRV (As := [.int w]) (rest := []) ⟨hx, hb, hml, hown, hts⟩ (c_X8_isWriter l D c ad μ r w) (cwV 1 hts gX8_writes_X8_isWriter rfl rfl rfl hd_X8_isWriter ⟨Nat.le_of_ble_eq_true rfl, Nat.le_of_ble_eq_true rfl⟩) hK hP [0, 1, 2, 3, 4, 5, 6, 7, 8] rfl 0 rfl rfl rfl hl.1 rfl (Nat.le_of_ble_eq_true rfl) dX8_writes_2 (Nat.zero_le _) (Nat.zero_le _) ?_
  refine wk_bz (tgt := 15) hx hb dX8_writes_5 (by decide) (fun h1 => ?_) (fun h1 => ?_)
  · refine lv_iconst (v := -1) hx hb dX8_writes_15 (by decide) ?_
    have eg2 : μ = mwtF μ w x2 := by rw [mwtF, if_neg (fun q => h1 q.1.1)]
    have hP : va_P D vwCl (modelW c ad (mwtF μ w x2) r) H := by rw [← eg2]; exact hP
    have hD : va_D A (modelW c ad (mwtF μ w x2) r) := by rw [← eg2]; exact hD
    exact ret 16 ls H _ ((-1)) (by rw [mwtV, if_neg (fun q => h1 q.1)]) hP hS dX8_writes_16
  refine lv_iload_n hx hb dX8_writes_8 rfl (lv_at hl 2 rfl) ?_
  refine wk_callRS (As := [.int x2]) (rest := []) ⟨hx, hb, hml, hown, hts⟩ (c_X8_isSubject l D c x2) (va_cwS 1 hts gX8_writes_X8_isSubject rfl rfl rfl hd_X8_isSubject ⟨Nat.le_of_ble_eq_true rfl, Nat.le_of_ble_eq_true rfl⟩) hK hP [] rfl rfl hl.1 rfl (Nat.le_of_ble_eq_true rfl) dX8_writes_9 (Nat.zero_le _) (Nat.zero_le _) ?_
  refine wk_bnz (tgt := 17) hx hb dX8_writes_12 (by decide) (fun h2 => ?_) (fun h2 => ?_)
  rotate_left
  · refine lv_iconst (v := -1) hx hb dX8_writes_15 (by decide) ?_
    have eg10 : μ = mwtF μ w x2 := by rw [mwtF, if_neg (fun q => h2 q.1.2)]
    have hP : va_P D vwCl (modelW c ad (mwtF μ w x2) r) H := by rw [← eg10]; exact hP
    have hD : va_D A (modelW c ad (mwtF μ w x2) r) := by rw [← eg10]; exact hD
    exact ret 16 ls H _ ((-1)) (by rw [mwtV, if_neg (fun q => h2 q.2)]) hP hS dX8_writes_16
  refine lv_aload_n hx hb dX8_writes_17 rfl (lv_at hl 0 rfl) ?_
  refine lv_iload_n hx hb dX8_writes_18 rfl (lv_at hl 1 rfl) ?_
  refine wk_callRV (As := [.int w]) (rest := []) ⟨hx, hb, hml, hown, hts⟩ (c_X8_hasLaid l D c ad μ r w) (cwV 1 hts gX8_writes_X8_hasLaid rfl rfl rfl hd_X8_hasLaid ⟨Nat.le_of_ble_eq_true rfl, Nat.le_of_ble_eq_true rfl⟩) hK hP [0, 1, 2, 3, 4, 5, 6, 7, 8] rfl 0 rfl rfl rfl hl.1 rfl (Nat.le_of_ble_eq_true rfl) dX8_writes_19 (Nat.zero_le _) (Nat.zero_le _) ?_
  refine wk_bz (tgt := 28) hx hb dX8_writes_22 (by decide) (fun h3 => ?_) (fun h3 => ?_)
  rotate_left
  · refine lv_bipush (v := -2) hx hb dX8_writes_25 (by decide) ?_
    have eg9 : μ = mwtF μ w x2 := by rw [mwtF, if_neg (fun q => q.2.1 h3)]
    have hP : va_P D vwCl (modelW c ad (mwtF μ w x2) r) H := by rw [← eg9]; exact hP
    have hD : va_D A (modelW c ad (mwtF μ w x2) r) := by rw [← eg9]; exact hD
    exact ret 27 ls H _ ((-2)) (by rw [mwtV, if_pos ⟨h1, h2⟩, if_pos h3]) hP hS dX8_writes_27
  refine lv_aload_n hx hb dX8_writes_28 rfl (lv_at hl 0 rfl) ?_
  refine wg_X8_8 hx hb hts iX8 hown hK hP 0 rfl k1 (v := .ref (ad 8)) rfl dX8_writes_29 ?_
  refine lv_iconst (v := 1) hx hb dX8_writes_32 (by decide) ?_
  refine wk_ald (f := μ 8) hx hb hK hP 4 0 rfl rfl 1 rfl (by omega) (by decide) dX8_writes_33 ?_
  refine wk_eqi (y := nI (qM μ)) (hQ.1) ?_
  refine lv_bipush (v := 6) hx hb dX8_writes_34 (by decide) ?_
  refine wk_ne (tgt := 42) hx hb (qM μ) 6 rfl rfl (by omega) (by omega) dX8_writes_36 (by decide) (fun h5 => ?_) (fun h5 => ?_)
  rotate_left
  · refine lv_bipush (v := -3) hx hb dX8_writes_39 (by decide) ?_
    have eg8 : μ = mwtF μ w x2 := by rw [mwtF, if_neg (fun q => q.2.2 (by omega))]
    have hP : va_P D vwCl (modelW c ad (mwtF μ w x2) r) H := by rw [← eg8]; exact hP
    have hD : va_D A (modelW c ad (mwtF μ w x2) r) := by rw [← eg8]; exact hD
    exact ret 41 ls H _ ((-3)) (by rw [mwtV, if_pos ⟨h1, h2⟩, if_neg h3, if_pos (by omega)]) hP hS dX8_writes_41
  refine lv_aload_n hx hb dX8_writes_42 rfl (lv_at hl 0 rfl) ?_
  refine wk_callVV (As := []) (rest := []) ⟨hx, hb, hml, hown, hts⟩ (c_X8_notes l D c ad μ r (hU)) (cwV 0 hts gX8_writes_X8_notes rfl rfl rfl hd_X8_notes ⟨Nat.le_of_ble_eq_true rfl, Nat.le_of_ble_eq_true rfl⟩) hK hP hD hS hA [0, 1, 2, 3, 4, 5, 6, 7, 8] [] 9 rfl rfl [ad 0, ad 100, ad 6, ad 7, ad 8, ad 9, ad 12, ad 15, ad 17] rfl rfl (ws' := modelW c ad (nsF μ) r) rfl (wr := []) rfl rfl rfl rfl 0 rfl rfl rfl hl.1 rfl (Nat.le_of_ble_eq_true rfl) dX8_writes_43 (Nat.zero_le _) (Nat.zero_le _) (fun H locs hP hD hS => ?_)
  refine lv_aload_n hx hb dX8_writes_46 rfl (lv_at hl 0 rfl) ?_
  refine wg_X8_8 hx hb hts iX8 hown hK hP 0 rfl k1 (v := .ref (ad 8)) rfl dX8_writes_47 ?_
  refine lv_iconst (v := 1) hx hb dX8_writes_50 (by decide) ?_
  refine lv_dup2_11 hx hb dX8_writes_51 rfl rfl ?_
  refine wk_ald (f := (nsF μ) 8) hx hb hK hP 4 0 rfl rfl 1 rfl (by omega) (by decide) dX8_writes_52 ?_
  refine wk_eqi (y := nI (qM μ)) (by rw [nsF_of μ (by decide) (by decide)]; exact hQ.1) ?_
  refine lv_iconst (v := 1) hx hb dX8_writes_53 (by decide) ?_
  refine lv_iadd hx hb dX8_writes_54 ?_
  refine wk_eqi (nI_add (qM μ) 1) ?_
  refine wk_ast hx hb hK hP hD hS 4 0 rfl rfl 1 rfl (by omega) (by decide) dX8_writes_55 (ws' := modelW c ad (va_up (nsF μ) 8 (upd ((nsF μ) 8) 1 (nI ((qM μ) + 1)))) r) rfl (fun H locs hP hD hS => ?_)
  have eg6 : va_up (nsF μ) 8 (upd ((nsF μ) 8) 1 (nI ((qM μ) + 1))) = mwtA μ := by rfl
  have hP : va_P D vwCl (modelW c ad (mwtA μ) r) H := by rw [← eg6]; exact hP
  have hD : va_D A (modelW c ad (mwtA μ) r) := by rw [← eg6]; exact hD
  refine lv_aload_n hx hb dX8_writes_56 rfl (lv_at hl 0 rfl) ?_
  refine lv_aload_n hx hb dX8_writes_57 rfl (lv_at hl 0 rfl) ?_
  refine wg_X8_8 hx hb hts iX8 hown hK hP 0 rfl k1 (v := .ref (ad 8)) rfl dX8_writes_58 ?_
  refine lv_iconst (v := 1) hx hb dX8_writes_61 (by decide) ?_
  refine wk_ald (f := (mwtA μ) 8) hx hb hK hP 4 0 rfl rfl 1 rfl (by omega) (by decide) dX8_writes_62 ?_
  refine wk_eqi (y := nI (qM μ + 1)) (mwtA_1 μ) ?_
  refine lv_iconst (v := 1) hx hb dX8_writes_63 (by decide) ?_
  refine lv_isub hx hb dX8_writes_64 ?_
  refine wk_eqi (pk_sub (a := qM μ + 1) (b := 1) (by omega)) ?_
  refine wk_eqi (y := nI (qM μ)) (by rw [show qM μ + 1 - 1 = qM μ by omega]) ?_
  refine lv_iload_n hx hb dX8_writes_65 rfl (lv_at hl 1 rfl) ?_
  refine lv_iload_n hx hb dX8_writes_66 rfl (lv_at hl 2 rfl) ?_
  refine wk_eqi (y := nI x2.toNatClampNeg) ((sM_ix h2).1) ?_
  refine wk_callVV (As := [.int (nI (qM μ)), .int w, .int (nI x2.toNatClampNeg)]) (rest := []) ⟨hx, hb, hml, hown, hts⟩ (c_X8_prints l D c ad (mwtA μ) r (qM μ) w x2.toNatClampNeg (mwtA_W hW) (by omega) ((sM_ix h2).2)) (cwV 3 hts gX8_writes_X8_prints rfl rfl rfl hd_X8_prints ⟨Nat.le_of_ble_eq_true rfl, Nat.le_of_ble_eq_true rfl⟩) hK hP hD hS hA [0, 1, 2, 3, 4, 5, 6, 7, 8] [] 9 rfl rfl [ad 0, ad 100, ad 6, ad 7, ad 8, ad 9, ad 12, ad 15, ad 17] rfl rfl (ws' := modelW c ad (prF (mwtA μ) (qM μ) w x2.toNatClampNeg) r) rfl (wr := []) rfl rfl rfl rfl 0 rfl rfl rfl hl.1 rfl (Nat.le_of_ble_eq_true rfl) dX8_writes_67 (Nat.zero_le _) (Nat.zero_le _) (fun H locs hP hD hS => ?_)
  refine lv_aload_n hx hb dX8_writes_70 rfl (lv_at hl 0 rfl) ?_
  refine wg_X8_8 hx hb hts iX8 hown hK hP 0 rfl k1 (v := .ref (ad 8)) rfl dX8_writes_71 ?_
  refine lv_iconst (v := 1) hx hb dX8_writes_74 (by decide) ?_
  refine wk_ald (f := (prF (mwtA μ) (qM μ) w x2.toNatClampNeg) 8) hx hb hK hP 4 0 rfl rfl 1 rfl (by omega) (by decide) dX8_writes_75 ?_
  refine wk_eqi (y := nI (qM μ + 1)) ((prF_1 _ _ _ _).trans (mwtA_1 μ)) ?_
  refine lv_iconst (v := 1) hx hb dX8_writes_76 (by decide) ?_
  refine lv_isub hx hb dX8_writes_77 ?_
  refine wk_eqi (pk_sub (a := qM μ + 1) (b := 1) (by omega)) ?_
  have eg7 : prF (mwtA μ) (qM μ) w x2.toNatClampNeg = mwtF μ w x2 := by rw [mwtF, if_pos ⟨⟨h1, h2⟩, h3, by omega⟩]
  have hP : va_P D vwCl (modelW c ad (mwtF μ w x2) r) H := by rw [← eg7]; exact hP
  have hD : va_D A (modelW c ad (mwtF μ w x2) r) := by rw [← eg7]; exact hD
  exact ret 78 ls H _ (nI ((qM μ + 1) - 1)) (by rw [mwtV, if_pos ⟨h1, h2⟩, if_neg h3, if_neg (by omega), show qM μ + 1 - 1 = qM μ by omega]) hP hS dX8_writes_78

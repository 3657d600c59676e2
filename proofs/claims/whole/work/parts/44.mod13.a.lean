/-! ===== LastWordModel, walked: the images ===== -/
abbrev rmX8_keep : Room := { frames := 1, cells := 0, slots := 0, locals := 25 }
theorem hd_X8_keep : yX8_keep.cls = RX8 ∧ yX8_keep.cls ≠ "java/lang/invoke/MethodHandle" ∧ yX8_keep.cls ≠ "java/lang/invoke/VarHandle" ∧ (parseMethodDescriptor yX8_keep.desc).map (fun d => d.parameters.length) = some 1 := by decide +kernel
set_option maxHeartbeats 4000000 in
set_option maxRecDepth 100000 in
theorem c_X8_keep (l : Launch) (D : va_G) (c : Nat → ClassId) (ad : Nat → Nat) (μ : Nat → Nat → Int32) (r : Int64) (x2 : Int32) : wk_UpI l yX8_keep wsX8_keep rmX8_keep D (tysL c) [.ref (ad 0), .int x2] (modelW c ad μ r) (modelW c ad (mkeF μ x2) r) (mkeV μ x2) := by
  refine wk_mkU (cc := cX8_keep) (maxL := 3) (rt := .int) (by decide) rfl (Nat.le_of_ble_eq_true rfl) rfl ?_
  intro A pr ev ss mm args below meth cd ls H H0 locs Q hst hP hK hD hS hA hl ret
  obtain ⟨hx, hb, hml, hown, hts, -⟩ := hst
  have hown : ss.vm.findClass RX8 = some mm.cls := hown
  have hl : lv_has ls 3 [(0, .ref (ad 0)), (1, .int x2)] := hl
  have k1 := hts (.fieldLink RX8 31 "LastWordModel" "kept" "[I") (List.mem_of_getElem? (i := 1) rfl)
  have k2 := hts (.fieldLink RX8 19 "LastWordModel" "now" "[I") (List.mem_of_getElem? (i := 2) rfl)
  have iX8 : ∀ w ∈ u_ws RX8 TX8 18, w ∈ wsX8_keep := fun _ h => (List.mem_cons_of_mem _ (List.mem_append_right _ h))
  refine lv_iload_n hx hb dX8_keep_0 rfl (lv_at hl 1 rfl) ?_
  refine lv_i2l (v := Int32.toInt64 x2) hx hb dX8_keep_1 rfl ?_
  refine lv_lconst (v := 0) hx hb dX8_keep_2 (by decide) ?_
  refine lv_lconst (v := 1) hx hb dX8_keep_3 (by decide) ?_
  refine wk_callRS (As := [.long (Int32.toInt64 x2), .long (Int32.toInt64 0), .long (Int32.toInt64 1)]) (rest := []) ⟨hx, hb, hml, hown, hts⟩ (c_X8_in l D c x2 0 1) (va_cwS 3 hts gX8_keep_X8_in rfl rfl rfl hd_X8_in ⟨Nat.le_of_ble_eq_true rfl, Nat.le_of_ble_eq_true rfl⟩) hK hP [] rfl rfl hl.1 rfl (Nat.le_of_ble_eq_true rfl) dX8_keep_4 (Nat.zero_le _) (Nat.zero_le _) ?_
  refine wk_bnz (tgt := 12) hx hb dX8_keep_7 (by decide) (fun h1 => ?_) (fun h1 => ?_)
  rotate_left
  · refine lv_iconst (v := -1) hx hb dX8_keep_10 (by decide) ?_
    have eg6 : μ = mkeF μ x2 := by rw [mkeF, if_neg h1]
    have hP : va_P D vwCl (modelW c ad (mkeF μ x2) r) H := by rw [← eg6]; exact hP
    have hD : va_D A (modelW c ad (mkeF μ x2) r) := by rw [← eg6]; exact hD
    exact ret 11 ls H _ ((-1)) (by rw [mkeV, if_neg h1]) hP hS dX8_keep_11
  have hz := x1_ix h1
  have hz2 := hz.2
  refine lv_aload_n hx hb dX8_keep_12 rfl (lv_at hl 0 rfl) ?_
  refine wg_X8_17 hx hb hts iX8 hown hK hP 0 rfl k1 (v := .ref (ad 17)) rfl dX8_keep_13 ?_
  refine lv_bipush (v := 47) hx hb dX8_keep_16 (by decide) ?_
  refine lv_iload_n hx hb dX8_keep_18 rfl (lv_at hl 1 rfl) ?_
  refine wk_eqi (y := nI x2.toNatClampNeg) (hz.1) ?_
  refine lv_imul hx hb dX8_keep_19 ?_
  refine wk_eqi (pk_mul 47 x2.toNatClampNeg) ?_
  refine lv_iconst (v := 1) hx hb dX8_keep_20 (by decide) ?_
  refine wk_ast hx hb hK hP hD hS 8 0 rfl rfl (47 * x2.toNatClampNeg) rfl (by omega) (by decide) dX8_keep_21 (ws' := modelW c ad (va_up μ 17 (upd (μ 17) (47 * x2.toNatClampNeg) 1)) r) rfl (fun H locs hP hD hS => ?_)
  refine lv_iconst (v := 0) hx hb dX8_keep_22 (by decide) ?_
  refine lv_istore_n (lv' := [(2, .int 0), (0, .ref (ad 0)), (1, .int x2)]) hx hb dX8_keep_23 rfl hl (by decide) rfl (fun ls hl => ?_)
  have lp24 : ∀ (n : Nat) (i : Nat), (i ≤ 46) → 46 - i < n → ∀ (H : Heap) (locs : List Loc), va_P D vwCl (modelW c ad (va_up μ 17 (kpR μ x2.toNatClampNeg i)) r) H → va_D A (modelW c ad (va_up μ 17 (kpR μ x2.toNatClampNeg i)) r) → va_S A H0 H locs → ∀ ls : Array Slot, lv_has ls 3 [(0, .ref (ad 0)), (1, .int x2), (2, .int (nI i))] → W pr l ev rmX8_keep ss mm args below meth cd H locs 0 0 Q (F0 mm 24 ls []) := by
    intro n
    induction n with
    | zero => intro i hi hn; exact absurd hn (Nat.not_lt_zero _)
    | succ n ih24 =>
      intro i hi hn H locs hP hD hS ls hl
      refine lv_iload_n hx hb dX8_keep_24 rfl (lv_at hl 2 rfl) ?_
      refine lv_bipush (v := 46) hx hb dX8_keep_25 (by decide) ?_
      refine wk_ge (tgt := 55) hx hb i 46 rfl rfl (by omega) (by omega) dX8_keep_27 (by decide) (fun h2 => ?_) (fun h2 => ?_)
      · refine lv_aload_n hx hb dX8_keep_55 rfl (lv_at hl 0 rfl) ?_
        refine wg_X8_8 hx hb hts iX8 hown hK hP 0 rfl k2 (v := .ref (ad 8)) rfl dX8_keep_56 ?_
        refine lv_iconst (v := 0) hx hb dX8_keep_59 (by decide) ?_
        refine wk_ald (f := μ 8) hx hb hK hP 4 0 rfl rfl 0 rfl (by omega) (by decide) dX8_keep_60 ?_
        have eg3 : va_up μ 17 (kpR μ x2.toNatClampNeg i) = mkeF μ x2 := by rw [mkeF, if_pos h1, show i = 46 by omega]
        have hP : va_P D vwCl (modelW c ad (mkeF μ x2) r) H := by rw [← eg3]; exact hP
        have hD : va_D A (modelW c ad (mkeF μ x2) r) := by rw [← eg3]; exact hD
        exact ret 61 ls H _ (μ 8 0) (by rw [mkeV, if_pos h1]) hP hS dX8_keep_61
      refine lv_aload_n hx hb dX8_keep_30 rfl (lv_at hl 0 rfl) ?_
      refine wg_X8_17 hx hb hts iX8 hown hK hP 0 rfl k1 (v := .ref (ad 17)) rfl dX8_keep_31 ?_
      refine lv_bipush (v := 47) hx hb dX8_keep_34 (by decide) ?_
      refine lv_iload_n hx hb dX8_keep_36 rfl (lv_at hl 1 rfl) ?_
      refine wk_eqi (y := nI x2.toNatClampNeg) (hz.1) ?_
      refine lv_imul hx hb dX8_keep_37 ?_
      refine wk_eqi (pk_mul 47 x2.toNatClampNeg) ?_
      refine lv_iconst (v := 1) hx hb dX8_keep_38 (by decide) ?_
      refine lv_iadd hx hb dX8_keep_39 ?_
      refine wk_eqi (nI_add (47 * x2.toNatClampNeg) 1) ?_
      refine lv_iload_n hx hb dX8_keep_40 rfl (lv_at hl 2 rfl) ?_
      refine lv_iadd hx hb dX8_keep_41 ?_
      refine wk_eqi (nI_add ((47 * x2.toNatClampNeg) + 1) i) ?_
      refine lv_aload_n hx hb dX8_keep_42 rfl (lv_at hl 0 rfl) ?_
      refine wg_X8_8 hx hb hts iX8 hown hK hP 0 rfl k2 (v := .ref (ad 8)) rfl dX8_keep_43 ?_
      refine lv_iload_n hx hb dX8_keep_46 rfl (lv_at hl 2 rfl) ?_
      refine wk_ald (f := μ 8) hx hb hK hP 4 0 rfl rfl i rfl (by omega) (by decide) dX8_keep_47 ?_
      refine wk_ast hx hb hK hP hD hS 8 0 rfl rfl (((47 * x2.toNatClampNeg) + 1) + i) rfl (by omega) (by decide) dX8_keep_48 (ws' := modelW c ad (va_up μ 17 (upd (kpR μ x2.toNatClampNeg i) (((47 * x2.toNatClampNeg) + 1) + i) (μ 8 i))) r) rfl (fun H locs hP hD hS => ?_)
      refine lv_iinc (v := nI (i + 1)) (lv' := [(2, .int (nI (i + 1))), (0, .ref (ad 0)), (1, .int x2)]) hx hb dX8_keep_49 hl (k := 2) rfl (nI_inc i 1) (by decide) rfl (fun ls hl => ?_)
      refine lv_goto (tgt := 24) hx hb dX8_keep_52 (by decide) ?_
      have eg4 : va_up μ 17 (upd (kpR μ x2.toNatClampNeg i) (((47 * x2.toNatClampNeg) + 1) + i) (μ 8 i)) = va_up μ 17 (kpR μ x2.toNatClampNeg (i + 1)) := by exact congrArg (va_up μ 17) (kpR_s μ x2.toNatClampNeg i)
      have hP : va_P D vwCl (modelW c ad (va_up μ 17 (kpR μ x2.toNatClampNeg (i + 1))) r) H := by rw [← eg4]; exact hP
      have hD : va_D A (modelW c ad (va_up μ 17 (kpR μ x2.toNatClampNeg (i + 1))) r) := by rw [← eg4]; exact hD
      have hl : lv_has ls 3 [(0, .ref (ad 0)), (1, .int x2), (2, .int (nI (i + 1)))] := lv_sub hl [1, 2, 0] rfl
      exact ih24 (i + 1) (by omega) (by omega) H _ hP hD hS ls hl
  have eg5 : va_up μ 17 (upd (μ 17) (47 * x2.toNatClampNeg) 1) = va_up μ 17 (kpR μ x2.toNatClampNeg 0) := by rw [kpR_0]
  have hP : va_P D vwCl (modelW c ad (va_up μ 17 (kpR μ x2.toNatClampNeg 0)) r) H := by rw [← eg5]; exact hP
  have hD : va_D A (modelW c ad (va_up μ 17 (kpR μ x2.toNatClampNeg 0)) r) := by rw [← eg5]; exact hD
  have hl : lv_has ls 3 [(0, .ref (ad 0)), (1, .int x2), (2, .int 0)] := lv_sub hl [1, 2, 0] rfl
  have hl := wk_lset (y := nI 0) (lv_sub (l' := [(2, .int 0), (0, .ref (ad 0)), (1, .int x2)]) hl [2, 0, 1] rfl) (by rfl)
  have hl : lv_has ls 3 [(0, .ref (ad 0)), (1, .int x2), (2, .int (nI 0))] := lv_sub hl [1, 2, 0] rfl
  exact lp24 _ 0 (by omega) (Nat.lt_succ_self _) H locs hP hD hS ls hl

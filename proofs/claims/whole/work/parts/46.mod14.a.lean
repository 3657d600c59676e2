/-! ===== LastWordModel, walked: back ===== -/
abbrev rmX8_back : Room := { frames := 1, cells := 0, slots := 0, locals := 25 }
theorem hd_X8_back : yX8_back.cls = RX8 ∧ yX8_back.cls ≠ "java/lang/invoke/MethodHandle" ∧ yX8_back.cls ≠ "java/lang/invoke/VarHandle" ∧ (parseMethodDescriptor yX8_back.desc).map (fun d => d.parameters.length) = some 1 := by decide +kernel
set_option maxHeartbeats 4000000 in
set_option maxRecDepth 100000 in
theorem c_X8_back (l : Launch) (D : va_G) (c : Nat → ClassId) (ad : Nat → Nat) (μ : Nat → Nat → Int32) (r : Int64) (x2 : Int32) : wk_UpI l yX8_back wsX8_back rmX8_back D (tysL c) [.ref (ad 0), .int x2] (modelW c ad μ r) (modelW c ad (mbaF μ x2) r) (mbaV μ x2) := by
  refine wk_mkU (cc := cX8_back) (maxL := 3) (rt := .int) (by decide) rfl (Nat.le_of_ble_eq_true rfl) rfl ?_
  intro A pr ev ss mm args below meth cd ls H H0 locs Q hst hP hK hD hS hA hl ret
  obtain ⟨hx, hb, hml, hown, hts, -⟩ := hst
  have hown : ss.vm.findClass RX8 = some mm.cls := hown
  have hl : lv_has ls 3 [(0, .ref (ad 0)), (1, .int x2)] := hl
  have k1 := hts (.fieldLink RX8 31 "LastWordModel" "kept" "[I") (List.mem_of_getElem? (i := 1) rfl)
  have k3 := hts (.fieldLink RX8 87 "LastWordModel" "undos" "I") (List.mem_of_getElem? (i := 3) rfl)
  have k2 := hts (.fieldLink RX8 19 "LastWordModel" "now" "[I") (List.mem_of_getElem? (i := 2) rfl)
  have iX8 : ∀ w ∈ u_ws RX8 TX8 18, w ∈ wsX8_back := fun _ h => (List.mem_cons_of_mem _ (List.mem_append_right _ h))
  refine lv_iload_n hx hb dX8_back_0 rfl (lv_at hl 1 rfl) ?_
  refine lv_i2l (v := Int32.toInt64 x2) hx hb dX8_back_1 rfl ?_
  refine lv_lconst (v := 0) hx hb dX8_back_2 (by decide) ?_
  refine lv_lconst (v := 1) hx hb dX8_back_3 (by decide) ?_
  refine wk_callRS (As := [.long (Int32.toInt64 x2), .long (Int32.toInt64 0), .long (Int32.toInt64 1)]) (rest := []) ⟨hx, hb, hml, hown, hts⟩ (c_X8_in l D c x2 0 1) (va_cwS 3 hts gX8_back_X8_in rfl rfl rfl hd_X8_in ⟨Nat.le_of_ble_eq_true rfl, Nat.le_of_ble_eq_true rfl⟩) hK hP [] rfl rfl hl.1 rfl (Nat.le_of_ble_eq_true rfl) dX8_back_4 (Nat.zero_le _) (Nat.zero_le _) ?_
  refine wk_bnz (tgt := 12) hx hb dX8_back_7 (by decide) (fun h1 => ?_) (fun h1 => ?_)
  rotate_left
  · refine lv_iconst (v := -1) hx hb dX8_back_10 (by decide) ?_
    have eg8 : μ = mbaF μ x2 := by rw [mbaF, if_neg (fun q => h1 q.1)]
    have hP : va_P D vwCl (modelW c ad (mbaF μ x2) r) H := by rw [← eg8]; exact hP
    have hD : va_D A (modelW c ad (mbaF μ x2) r) := by rw [← eg8]; exact hD
    exact ret 11 ls H _ ((-1)) (by rw [mbaV, if_neg h1]) hP hS dX8_back_11
  have hz := x1_ix h1
  have hz2 := hz.2
  refine lv_aload_n hx hb dX8_back_12 rfl (lv_at hl 0 rfl) ?_
  refine wg_X8_17 hx hb hts iX8 hown hK hP 0 rfl k1 (v := .ref (ad 17)) rfl dX8_back_13 ?_
  refine lv_bipush (v := 47) hx hb dX8_back_16 (by decide) ?_
  refine lv_iload_n hx hb dX8_back_18 rfl (lv_at hl 1 rfl) ?_
  refine wk_eqi (y := nI x2.toNatClampNeg) (hz.1) ?_
  refine lv_imul hx hb dX8_back_19 ?_
  refine wk_eqi (pk_mul 47 x2.toNatClampNeg) ?_
  refine wk_ald (f := μ 17) hx hb hK hP 8 0 rfl rfl (47 * x2.toNatClampNeg) rfl (by omega) (by decide) dX8_back_20 ?_
  refine lv_if_ne (tgt := 27) hx hb dX8_back_21 (by decide) (fun h2 => ?_) (fun h2 => ?_)
  rotate_left
  · refine lv_bipush (v := -2) hx hb dX8_back_24 (by decide) ?_
    have eg7 : μ = mbaF μ x2 := by rw [mbaF, if_neg (fun q => q.2 h2)]
    have hP : va_P D vwCl (modelW c ad (mbaF μ x2) r) H := by rw [← eg7]; exact hP
    have hD : va_D A (modelW c ad (mbaF μ x2) r) := by rw [← eg7]; exact hD
    exact ret 26 ls H _ ((-2)) (by rw [mbaV, if_pos h1, if_pos h2]) hP hS dX8_back_26
  have hk0 := h2
  refine lv_iconst (v := 0) hx hb dX8_back_27 (by decide) ?_
  refine lv_istore_n (lv' := [(2, .int 0), (0, .ref (ad 0)), (1, .int x2)]) hx hb dX8_back_28 rfl hl (by decide) rfl (fun ls hl => ?_)
  have lp29 : ∀ (n : Nat) (i : Nat), (i ≤ 46) → 46 - i < n → ∀ (H : Heap) (locs : List Loc), va_P D vwCl (modelW c ad (va_up μ 8 (fun k => if k < i then μ 17 (47 * x2.toNatClampNeg + 1 + k) else μ 8 k)) r) H → va_D A (modelW c ad (va_up μ 8 (fun k => if k < i then μ 17 (47 * x2.toNatClampNeg + 1 + k) else μ 8 k)) r) → va_S A H0 H locs → ∀ ls : Array Slot, lv_has ls 3 [(0, .ref (ad 0)), (1, .int x2), (2, .int (nI i))] → W pr l ev rmX8_back ss mm args below meth cd H locs 0 0 Q (F0 mm 29 ls []) := by
    intro n
    induction n with
    | zero => intro i hi hn; exact absurd hn (Nat.not_lt_zero _)
    | succ n ih29 =>
      intro i hi hn H locs hP hD hS ls hl
      refine lv_iload_n hx hb dX8_back_29 rfl (lv_at hl 2 rfl) ?_
      refine lv_bipush (v := 46) hx hb dX8_back_30 (by decide) ?_
      refine wk_ge (tgt := 60) hx hb i 46 rfl rfl (by omega) (by omega) dX8_back_32 (by decide) (fun h3 => ?_) (fun h3 => ?_)
      · refine lv_aload_n hx hb dX8_back_60 rfl (lv_at hl 0 rfl) ?_
        refine lv_iconst (v := 0) hx hb dX8_back_61 (by decide) ?_
        refine wp_X8_10 hx hb hts iX8 hown hK hP hD hS 0 rfl k3 (Nat.le_of_ble_eq_true rfl) dX8_back_62 (ws' := modelW c ad (va_up (va_up μ 8 (fun k => if k < i then μ 17 (47 * x2.toNatClampNeg + 1 + k) else μ 8 k)) 10 (fun _ => 0)) r) rfl (fun H locs hP hD hS => ?_)
        refine lv_aload_n hx hb dX8_back_65 rfl (lv_at hl 0 rfl) ?_
        refine wg_X8_8 hx hb hts iX8 hown hK hP 0 rfl k2 (v := .ref (ad 8)) rfl dX8_back_66 ?_
        refine lv_iconst (v := 0) hx hb dX8_back_69 (by decide) ?_
        refine wk_ald (f := fun k => if k < i then μ 17 (47 * x2.toNatClampNeg + 1 + k) else μ 8 k) hx hb hK hP 4 0 rfl rfl 0 rfl (by omega) (by decide) dX8_back_70 ?_
        have eg4 : va_up (va_up μ 8 (fun k => if k < i then μ 17 (47 * x2.toNatClampNeg + 1 + k) else μ 8 k)) 10 (fun _ => 0) = mbaF μ x2 := by rw [mbaF, if_pos ⟨h1, hk0⟩, show i = 46 by omega]
        have hP : va_P D vwCl (modelW c ad (mbaF μ x2) r) H := by rw [← eg4]; exact hP
        have hD : va_D A (modelW c ad (mbaF μ x2) r) := by rw [← eg4]; exact hD
        exact ret 71 ls H _ ((fun k => if k < i then μ 17 (47 * x2.toNatClampNeg + 1 + k) else μ 8 k) 0) (by rw [mbaV, if_pos h1, if_neg hk0]; exact if_pos (by omega)) hP hS dX8_back_71
      refine lv_aload_n hx hb dX8_back_35 rfl (lv_at hl 0 rfl) ?_
      refine wg_X8_8 hx hb hts iX8 hown hK hP 0 rfl k2 (v := .ref (ad 8)) rfl dX8_back_36 ?_
      refine lv_iload_n hx hb dX8_back_39 rfl (lv_at hl 2 rfl) ?_
      refine lv_aload_n hx hb dX8_back_40 rfl (lv_at hl 0 rfl) ?_
      refine wg_X8_17 hx hb hts iX8 hown hK hP 0 rfl k1 (v := .ref (ad 17)) rfl dX8_back_41 ?_
      refine lv_bipush (v := 47) hx hb dX8_back_44 (by decide) ?_
      refine lv_iload_n hx hb dX8_back_46 rfl (lv_at hl 1 rfl) ?_
      refine wk_eqi (y := nI x2.toNatClampNeg) (hz.1) ?_
      refine lv_imul hx hb dX8_back_47 ?_
      refine wk_eqi (pk_mul 47 x2.toNatClampNeg) ?_
      refine lv_iconst (v := 1) hx hb dX8_back_48 (by decide) ?_
      refine lv_iadd hx hb dX8_back_49 ?_
      refine wk_eqi (nI_add (47 * x2.toNatClampNeg) 1) ?_
      refine lv_iload_n hx hb dX8_back_50 rfl (lv_at hl 2 rfl) ?_
      refine lv_iadd hx hb dX8_back_51 ?_
      refine wk_eqi (nI_add ((47 * x2.toNatClampNeg) + 1) i) ?_
      refine wk_ald (f := μ 17) hx hb hK hP 8 0 rfl rfl (((47 * x2.toNatClampNeg) + 1) + i) rfl (by omega) (by decide) dX8_back_52 ?_
      refine wk_ast hx hb hK hP hD hS 4 0 rfl rfl i rfl (by omega) (by decide) dX8_back_53 (ws' := modelW c ad (va_up μ 8 (upd (fun k => if k < i then μ 17 (47 * x2.toNatClampNeg + 1 + k) else μ 8 k) i (μ 17 (((47 * x2.toNatClampNeg) + 1) + i)))) r) rfl (fun H locs hP hD hS => ?_)
      refine lv_iinc (v := nI (i + 1)) (lv' := [(2, .int (nI (i + 1))), (0, .ref (ad 0)), (1, .int x2)]) hx hb dX8_back_54 hl (k := 2) rfl (nI_inc i 1) (by decide) rfl (fun ls hl => ?_)
      refine lv_goto (tgt := 29) hx hb dX8_back_57 (by decide) ?_
      have eg5 : va_up μ 8 (upd (fun k => if k < i then μ 17 (47 * x2.toNatClampNeg + 1 + k) else μ 8 k) i (μ 17 (((47 * x2.toNatClampNeg) + 1) + i))) = va_up μ 8 (fun k => if k < (i + 1) then μ 17 (47 * x2.toNatClampNeg + 1 + k) else μ 8 k) := by exact congrArg (va_up μ 8) (fill_s (fun k => μ 17 (47 * x2.toNatClampNeg + 1 + k)) (μ 8) i)
      have hP : va_P D vwCl (modelW c ad (va_up μ 8 (fun k => if k < (i + 1) then μ 17 (47 * x2.toNatClampNeg + 1 + k) else μ 8 k)) r) H := by rw [← eg5]; exact hP
      have hD : va_D A (modelW c ad (va_up μ 8 (fun k => if k < (i + 1) then μ 17 (47 * x2.toNatClampNeg + 1 + k) else μ 8 k)) r) := by rw [← eg5]; exact hD
      have hl : lv_has ls 3 [(0, .ref (ad 0)), (1, .int x2), (2, .int (nI (i + 1)))] := lv_sub hl [1, 2, 0] rfl
      exact ih29 (i + 1) (by omega) (by omega) H _ hP hD hS ls hl
  have eg6 : μ = va_up μ 8 (fun k => if k < 0 then μ 17 (47 * x2.toNatClampNeg + 1 + k) else μ 8 k) := by exact (up_self (fill_0 (fun k => μ 17 (47 * x2.toNatClampNeg + 1 + k)) (μ 8))).symm
  have hP : va_P D vwCl (modelW c ad (va_up μ 8 (fun k => if k < 0 then μ 17 (47 * x2.toNatClampNeg + 1 + k) else μ 8 k)) r) H := by rw [← eg6]; exact hP
  have hD : va_D A (modelW c ad (va_up μ 8 (fun k => if k < 0 then μ 17 (47 * x2.toNatClampNeg + 1 + k) else μ 8 k)) r) := by rw [← eg6]; exact hD
  have hl : lv_has ls 3 [(0, .ref (ad 0)), (1, .int x2), (2, .int 0)] := lv_sub hl [1, 2, 0] rfl
  have hl := wk_lset (y := nI 0) (lv_sub (l' := [(2, .int 0), (0, .ref (ad 0)), (1, .int x2)]) hl [2, 0, 1] rfl) (by rfl)
  have hl : lv_has ls 3 [(0, .ref (ad 0)), (1, .int x2), (2, .int (nI 0))] := lv_sub hl [1, 2, 0] rfl
  exact lp29 _ 0 (by omega) (Nat.lt_succ_self _) H _ hP hD hS ls hl

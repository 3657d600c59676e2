/-! ===== LastWordModel, walked: found ===== -/
abbrev rmX8_found : Room := { frames := 2, cells := 0, slots := 0, locals := 46 }
theorem hd_X8_found : yX8_found.cls = RX8 ∧ yX8_found.cls ≠ "java/lang/invoke/MethodHandle" ∧ yX8_found.cls ≠ "java/lang/invoke/VarHandle" ∧ (parseMethodDescriptor yX8_found.desc).map (fun d => d.parameters.length) = some 3 := by decide +kernel
set_option maxHeartbeats 4000000 in
set_option maxRecDepth 100000 in
theorem c_X8_found (l : Launch) (D : va_G) (c : Nat → ClassId) (ad : Nat → Nat) (μ : Nat → Nat → Int32) (r : Int64) (w : Int32) (x2 : Int32) (x3 : Int32) (hF : wfFM μ) : wk_UpI l yX8_found wsX8_found rmX8_found D (tysL c) [.ref (ad 0), .int w, .int x2, .int x3] (modelW c ad μ r) (modelW c ad (mfoF μ w x2 x3) r) (mfoV μ w x2 x3) := by
  refine wk_mkU (cc := cX8_found) (maxL := 4) (rt := .int) (by decide) rfl (Nat.le_of_ble_eq_true rfl) rfl ?_
  intro A pr ev ss mm args below meth cd ls H H0 locs Q hst hP hK hD hS hA hl ret
  obtain ⟨hx, hb, hml, hown, hts, -⟩ := hst
  have hown : ss.vm.findClass RX8 = some mm.cls := hown
  have hl : lv_has ls 4 [(0, .ref (ad 0)), (1, .int w), (2, .int x2), (3, .int x3)] := hl
  have k1 := hts (.fieldLink RX8 84 "LastWordModel" "founds" "I") (List.mem_of_getElem? (i := 1) rfl)
  have k2 := hts (.fieldLink RX8 28 "LastWordModel" "finds" "[I") (List.mem_of_getElem? (i := 2) rfl)
  have iX8 : ∀ w ∈ u_ws RX8 TX8 18, w ∈ wsX8_found := fun _ h => (List.mem_cons_of_mem _ (List.mem_append_right _ h))
  have hF5 := hF.2
  refine lv_aload_n hx hb dX8_found_0 rfl (lv_at hl 0 rfl) ?_
  refine lv_iload_n hx hb dX8_found_1 rfl (lv_at hl 1 rfl) ?_
  refine wk_callRV (As := [.int w]) (rest := []) ⟨hx, hb, hml, hown, hts⟩ (c_X8_isWriter l D c ad μ r w) (cwV 1 hts gX8_found_X8_isWriter rfl rfl rfl hd_X8_isWriter ⟨Nat.le_of_ble_eq_true rfl, Nat.le_of_ble_eq_true rfl⟩) hK hP [0, 1, 2, 3, 4, 5, 6, 7, 8] rfl 0 rfl rfl rfl hl.1 rfl (Nat.le_of_ble_eq_true rfl) dX8_found_2 (Nat.zero_le _) (Nat.zero_le _) ?_
  refine wk_bz (tgt := 28) hx hb dX8_found_5 (by decide) (fun h1 => ?_) (fun h1 => ?_)
  · refine lv_iconst (v := -1) hx hb dX8_found_28 (by decide) ?_
    have eg2 : μ = mfoF μ w x2 x3 := by rw [mfoF, if_neg (fun q => h1 q.1.1)]
    have hP : va_P D vwCl (modelW c ad (mfoF μ w x2 x3) r) H := by rw [← eg2]; exact hP
    have hD : va_D A (modelW c ad (mfoF μ w x2 x3) r) := by rw [← eg2]; exact hD
    exact ret 29 ls H _ ((-1)) (by rw [mfoV, if_neg (fun q => h1 q.1)]) hP hS dX8_found_29
  refine lv_iload_n hx hb dX8_found_8 rfl (lv_at hl 2 rfl) ?_
  refine wk_callRS (As := [.int x2]) (rest := []) ⟨hx, hb, hml, hown, hts⟩ (c_X8_isSubject l D c x2) (va_cwS 1 hts gX8_found_X8_isSubject rfl rfl rfl hd_X8_isSubject ⟨Nat.le_of_ble_eq_true rfl, Nat.le_of_ble_eq_true rfl⟩) hK hP [] rfl rfl hl.1 rfl (Nat.le_of_ble_eq_true rfl) dX8_found_9 (Nat.zero_le _) (Nat.zero_le _) ?_
  refine wk_bz (tgt := 28) hx hb dX8_found_12 (by decide) (fun h2 => ?_) (fun h2 => ?_)
  · refine lv_iconst (v := -1) hx hb dX8_found_28 (by decide) ?_
    have eg4 : μ = mfoF μ w x2 x3 := by rw [mfoF, if_neg (fun q => h2 q.1.2.1)]
    have hP : va_P D vwCl (modelW c ad (mfoF μ w x2 x3) r) H := by rw [← eg4]; exact hP
    have hD : va_D A (modelW c ad (mfoF μ w x2 x3) r) := by rw [← eg4]; exact hD
    exact ret 29 ls H _ ((-1)) (by rw [mfoV, if_neg (fun q => h2 q.2.1)]) hP hS dX8_found_29
  refine lv_iload_n hx hb dX8_found_15 rfl (lv_at hl 3 rfl) ?_
  refine lv_iconst (v := -1) hx hb dX8_found_16 (by decide) ?_
  refine lv_icmp_eq (tgt := 30) hx hb dX8_found_17 (by decide) (fun h5 => ?_) (fun h5 => ?_)
  · have hOK : mfoOK μ w x2 x3 := ⟨h1, h2, Or.inl h5⟩
    refine lv_aload_n hx hb dX8_found_30 rfl (lv_at hl 0 rfl) ?_
    refine wg_X8_14 hx hb hts iX8 hown hK hP 0 rfl k1 (v := .int (μ 14 0)) rfl dX8_found_31 ?_
    refine wk_eqi (y := nI (fM μ)) (hF.1) ?_
    refine lv_iconst (v := 5) hx hb dX8_found_34 (by decide) ?_
    refine wk_ne (tgt := 41) hx hb (fM μ) 5 rfl rfl (by omega) (by omega) dX8_found_35 (by decide) (fun h6 => ?_) (fun h6 => ?_)
    rotate_left
    · refine lv_bipush (v := -3) hx hb dX8_found_38 (by decide) ?_
      have eg10 : μ = mfoF μ w x2 x3 := by rw [mfoF, if_neg (fun q => q.2 (by omega))]
      have hP : va_P D vwCl (modelW c ad (mfoF μ w x2 x3) r) H := by rw [← eg10]; exact hP
      have hD : va_D A (modelW c ad (mfoF μ w x2 x3) r) := by rw [← eg10]; exact hD
      exact ret 40 ls H _ ((-3)) (by rw [mfoV, if_pos hOK, if_pos (by omega)]) hP hS dX8_found_40
    refine lv_aload_n hx hb dX8_found_41 rfl (lv_at hl 0 rfl) ?_
    refine wg_X8_15 hx hb hts iX8 hown hK hP 0 rfl k2 (v := .ref (ad 15)) rfl dX8_found_42 ?_
    refine lv_iconst (v := 3) hx hb dX8_found_45 (by decide) ?_
    refine lv_aload_n hx hb dX8_found_46 rfl (lv_at hl 0 rfl) ?_
    refine wg_X8_14 hx hb hts iX8 hown hK hP 0 rfl k1 (v := .int (μ 14 0)) rfl dX8_found_47 ?_
    refine wk_eqi (y := nI (fM μ)) (hF.1) ?_
    refine lv_imul hx hb dX8_found_50 ?_
    refine wk_eqi (pk_mul 3 (fM μ)) ?_
    refine lv_iload_n hx hb dX8_found_51 rfl (lv_at hl 1 rfl) ?_
    refine wk_ast hx hb hK hP hD hS 7 0 rfl rfl (3 * (fM μ)) rfl (by omega) (by decide) dX8_found_52 (ws' := modelW c ad (va_up μ 15 (upd (μ 15) (3 * (fM μ)) w)) r) rfl (fun H locs hP hD hS => ?_)
    refine lv_aload_n hx hb dX8_found_53 rfl (lv_at hl 0 rfl) ?_
    refine wg_X8_15 hx hb hts iX8 hown hK hP 0 rfl k2 (v := .ref (ad 15)) rfl dX8_found_54 ?_
    refine lv_iconst (v := 3) hx hb dX8_found_57 (by decide) ?_
    refine lv_aload_n hx hb dX8_found_58 rfl (lv_at hl 0 rfl) ?_
    refine wg_X8_14 hx hb hts iX8 hown hK hP 0 rfl k1 (v := .int (μ 14 0)) rfl dX8_found_59 ?_
    refine wk_eqi (y := nI (fM μ)) (hF.1) ?_
    refine lv_imul hx hb dX8_found_62 ?_
    refine wk_eqi (pk_mul 3 (fM μ)) ?_
    refine lv_iconst (v := 1) hx hb dX8_found_63 (by decide) ?_
    refine lv_iadd hx hb dX8_found_64 ?_
    refine wk_eqi (nI_add (3 * (fM μ)) 1) ?_
    refine lv_iload_n hx hb dX8_found_65 rfl (lv_at hl 2 rfl) ?_
    refine wk_ast hx hb hK hP hD hS 7 0 rfl rfl ((3 * (fM μ)) + 1) rfl (by omega) (by decide) dX8_found_66 (ws' := modelW c ad (va_up μ 15 (upd (upd (μ 15) (3 * (fM μ)) w) ((3 * (fM μ)) + 1) x2)) r) rfl (fun H locs hP hD hS => ?_)
    refine lv_aload_n hx hb dX8_found_67 rfl (lv_at hl 0 rfl) ?_
    refine wg_X8_15 hx hb hts iX8 hown hK hP 0 rfl k2 (v := .ref (ad 15)) rfl dX8_found_68 ?_
    refine lv_iconst (v := 3) hx hb dX8_found_71 (by decide) ?_
    refine lv_aload_n hx hb dX8_found_72 rfl (lv_at hl 0 rfl) ?_
    refine wg_X8_14 hx hb hts iX8 hown hK hP 0 rfl k1 (v := .int (μ 14 0)) rfl dX8_found_73 ?_
    refine wk_eqi (y := nI (fM μ)) (hF.1) ?_
    refine lv_imul hx hb dX8_found_76 ?_
    refine wk_eqi (pk_mul 3 (fM μ)) ?_
    refine lv_iconst (v := 2) hx hb dX8_found_77 (by decide) ?_
    refine lv_iadd hx hb dX8_found_78 ?_
    refine wk_eqi (nI_add (3 * (fM μ)) 2) ?_
    refine lv_iload_n hx hb dX8_found_79 rfl (lv_at hl 3 rfl) ?_
    refine lv_iconst (v := -1) hx hb dX8_found_80 (by decide) ?_
    refine lv_icmp_ne (tgt := 89) hx hb dX8_found_81 (by decide) (fun h7 => ?_) (fun h7 => ?_)
    · refine lv_iload_n hx hb dX8_found_89 rfl (lv_at hl 3 rfl) ?_
      refine wk_eqi (y := if x3 = -1 then (-9 : Int32) else x3) (by first | contradiction | exact (if_pos h7).symm | exact (if_neg h7).symm) ?_
      refine lv_topi (fun v ev => ?_)
      refine wk_ast hx hb hK hP hD hS 7 0 rfl rfl ((3 * (fM μ)) + 2) rfl (by omega) (by decide) dX8_found_90 (ws' := modelW c ad (va_up μ 15 (upd (upd (upd (μ 15) (3 * (fM μ)) w) ((3 * (fM μ)) + 1) x2) ((3 * (fM μ)) + 2) v)) r) rfl (fun H locs hP hD hS => ?_)
      refine lv_aload_n hx hb dX8_found_91 rfl (lv_at hl 0 rfl) ?_
      refine lv_dup hx hb dX8_found_92 rfl ?_
      refine wg_X8_14 hx hb hts iX8 hown hK hP 0 rfl k1 (v := .int (μ 14 0)) rfl dX8_found_93 ?_
      refine wk_eqi (y := nI (fM μ)) (hF.1) ?_
      refine lv_iconst (v := 1) hx hb dX8_found_96 (by decide) ?_
      refine lv_iadd hx hb dX8_found_97 ?_
      refine wk_eqi (nI_add (fM μ) 1) ?_
      refine wp_X8_14 hx hb hts iX8 hown hK hP hD hS 0 rfl k1 (Nat.le_of_ble_eq_true rfl) dX8_found_98 (ws' := modelW c ad (va_up (va_up μ 15 (upd (upd (upd (μ 15) (3 * (fM μ)) w) ((3 * (fM μ)) + 1) x2) ((3 * (fM μ)) + 2) v)) 14 (fun _ => nI ((fM μ) + 1))) r) rfl (fun H locs hP hD hS => ?_)
      refine lv_aload_n hx hb dX8_found_101 rfl (lv_at hl 0 rfl) ?_
      refine wg_X8_14 hx hb hts iX8 hown hK hP 0 rfl k1 (v := .int (nI ((fM μ) + 1))) rfl dX8_found_102 ?_
      have eg8 : va_up (va_up μ 15 (upd (upd (upd (μ 15) (3 * (fM μ)) w) ((3 * (fM μ)) + 1) x2) ((3 * (fM μ)) + 2) v)) 14 (fun _ => nI ((fM μ) + 1)) = mfoF μ w x2 x3 := by rw [mfoF, if_pos ⟨hOK, by omega⟩, ev]
      have hP : va_P D vwCl (modelW c ad (mfoF μ w x2 x3) r) H := by rw [← eg8]; exact hP
      have hD : va_D A (modelW c ad (mfoF μ w x2 x3) r) := by rw [← eg8]; exact hD
      exact ret 105 ls H _ (nI ((fM μ) + 1)) (by rw [mfoV, if_pos hOK, if_neg (by omega)]) hP hS dX8_found_105
    refine lv_bipush (v := -9) hx hb dX8_found_84 (by decide) ?_
    refine lv_goto (tgt := 90) hx hb dX8_found_86 (by decide) ?_
    refine wk_eqi (y := if x3 = -1 then (-9 : Int32) else x3) (by first | contradiction | exact (if_pos h7).symm | exact (if_neg h7).symm) ?_
    refine lv_topi (fun v ev => ?_)
    refine wk_ast hx hb hK hP hD hS 7 0 rfl rfl ((3 * (fM μ)) + 2) rfl (by omega) (by decide) dX8_found_90 (ws' := modelW c ad (va_up μ 15 (upd (upd (upd (μ 15) (3 * (fM μ)) w) ((3 * (fM μ)) + 1) x2) ((3 * (fM μ)) + 2) v)) r) rfl (fun H locs hP hD hS => ?_)
    refine lv_aload_n hx hb dX8_found_91 rfl (lv_at hl 0 rfl) ?_
    refine lv_dup hx hb dX8_found_92 rfl ?_
    refine wg_X8_14 hx hb hts iX8 hown hK hP 0 rfl k1 (v := .int (μ 14 0)) rfl dX8_found_93 ?_
    refine wk_eqi (y := nI (fM μ)) (hF.1) ?_
    refine lv_iconst (v := 1) hx hb dX8_found_96 (by decide) ?_
    refine lv_iadd hx hb dX8_found_97 ?_
    refine wk_eqi (nI_add (fM μ) 1) ?_
    refine wp_X8_14 hx hb hts iX8 hown hK hP hD hS 0 rfl k1 (Nat.le_of_ble_eq_true rfl) dX8_found_98 (ws' := modelW c ad (va_up (va_up μ 15 (upd (upd (upd (μ 15) (3 * (fM μ)) w) ((3 * (fM μ)) + 1) x2) ((3 * (fM μ)) + 2) v)) 14 (fun _ => nI ((fM μ) + 1))) r) rfl (fun H locs hP hD hS => ?_)
    refine lv_aload_n hx hb dX8_found_101 rfl (lv_at hl 0 rfl) ?_
    refine wg_X8_14 hx hb hts iX8 hown hK hP 0 rfl k1 (v := .int (nI ((fM μ) + 1))) rfl dX8_found_102 ?_
    have eg9 : va_up (va_up μ 15 (upd (upd (upd (μ 15) (3 * (fM μ)) w) ((3 * (fM μ)) + 1) x2) ((3 * (fM μ)) + 2) v)) 14 (fun _ => nI ((fM μ) + 1)) = mfoF μ w x2 x3 := by rw [mfoF, if_pos ⟨hOK, by omega⟩, ev]
    have hP : va_P D vwCl (modelW c ad (mfoF μ w x2 x3) r) H := by rw [← eg9]; exact hP
    have hD : va_D A (modelW c ad (mfoF μ w x2 x3) r) := by rw [← eg9]; exact hD
    exact ret 105 ls H _ (nI ((fM μ) + 1)) (by rw [mfoV, if_pos hOK, if_neg (by omega)]) hP hS dX8_found_105
  refine lv_aload_n hx hb dX8_found_20 rfl (lv_at hl 0 rfl) ?_
  refine lv_iload_n hx hb dX8_found_21 rfl (lv_at hl 3 rfl) ?_
  refine wk_callRV (As := [.int x3]) (rest := []) ⟨hx, hb, hml, hown, hts⟩ (c_X8_isWriter l D c ad μ r x3) (cwV 1 hts gX8_found_X8_isWriter rfl rfl rfl hd_X8_isWriter ⟨Nat.le_of_ble_eq_true rfl, Nat.le_of_ble_eq_true rfl⟩) hK hP [0, 1, 2, 3, 4, 5, 6, 7, 8] rfl 0 rfl rfl rfl hl.1 rfl (Nat.le_of_ble_eq_true rfl) dX8_found_22 (Nat.zero_le _) (Nat.zero_le _) ?_
  refine wk_bnz (tgt := 30) hx hb dX8_found_25 (by decide) (fun h3 => ?_) (fun h3 => ?_)
  rotate_left
  · refine lv_iconst (v := -1) hx hb dX8_found_28 (by decide) ?_
    have eg17 : μ = mfoF μ w x2 x3 := by rw [mfoF, if_neg (fun q => q.1.2.2.elim h5 h3)]
    have hP : va_P D vwCl (modelW c ad (mfoF μ w x2 x3) r) H := by rw [← eg17]; exact hP
    have hD : va_D A (modelW c ad (mfoF μ w x2 x3) r) := by rw [← eg17]; exact hD
    exact ret 29 ls H _ ((-1)) (by rw [mfoV, if_neg (fun q => q.2.2.elim h5 h3)]) hP hS dX8_found_29
  have hOK : mfoOK μ w x2 x3 := ⟨h1, h2, Or.inr h3⟩
  refine lv_aload_n hx hb dX8_found_30 rfl (lv_at hl 0 rfl) ?_
  refine wg_X8_14 hx hb hts iX8 hown hK hP 0 rfl k1 (v := .int (μ 14 0)) rfl dX8_found_31 ?_
  refine wk_eqi (y := nI (fM μ)) (hF.1) ?_
  refine lv_iconst (v := 5) hx hb dX8_found_34 (by decide) ?_
  refine wk_ne (tgt := 41) hx hb (fM μ) 5 rfl rfl (by omega) (by omega) dX8_found_35 (by decide) (fun h12 => ?_) (fun h12 => ?_)
  rotate_left
  · refine lv_bipush (v := -3) hx hb dX8_found_38 (by decide) ?_
    have eg16 : μ = mfoF μ w x2 x3 := by rw [mfoF, if_neg (fun q => q.2 (by omega))]
    have hP : va_P D vwCl (modelW c ad (mfoF μ w x2 x3) r) H := by rw [← eg16]; exact hP
    have hD : va_D A (modelW c ad (mfoF μ w x2 x3) r) := by rw [← eg16]; exact hD
    exact ret 40 ls H _ ((-3)) (by rw [mfoV, if_pos hOK, if_pos (by omega)]) hP hS dX8_found_40
  refine lv_aload_n hx hb dX8_found_41 rfl (lv_at hl 0 rfl) ?_
  refine wg_X8_15 hx hb hts iX8 hown hK hP 0 rfl k2 (v := .ref (ad 15)) rfl dX8_found_42 ?_
  refine lv_iconst (v := 3) hx hb dX8_found_45 (by decide) ?_
  refine lv_aload_n hx hb dX8_found_46 rfl (lv_at hl 0 rfl) ?_
  refine wg_X8_14 hx hb hts iX8 hown hK hP 0 rfl k1 (v := .int (μ 14 0)) rfl dX8_found_47 ?_
  refine wk_eqi (y := nI (fM μ)) (hF.1) ?_
  refine lv_imul hx hb dX8_found_50 ?_
  refine wk_eqi (pk_mul 3 (fM μ)) ?_
  refine lv_iload_n hx hb dX8_found_51 rfl (lv_at hl 1 rfl) ?_
  refine wk_ast hx hb hK hP hD hS 7 0 rfl rfl (3 * (fM μ)) rfl (by omega) (by decide) dX8_found_52 (ws' := modelW c ad (va_up μ 15 (upd (μ 15) (3 * (fM μ)) w)) r) rfl (fun H locs hP hD hS => ?_)
  refine lv_aload_n hx hb dX8_found_53 rfl (lv_at hl 0 rfl) ?_
  refine wg_X8_15 hx hb hts iX8 hown hK hP 0 rfl k2 (v := .ref (ad 15)) rfl dX8_found_54 ?_
  refine lv_iconst (v := 3) hx hb dX8_found_57 (by decide) ?_
  refine lv_aload_n hx hb dX8_found_58 rfl (lv_at hl 0 rfl) ?_
  refine wg_X8_14 hx hb hts iX8 hown hK hP 0 rfl k1 (v := .int (μ 14 0)) rfl dX8_found_59 ?_
  refine wk_eqi (y := nI (fM μ)) (hF.1) ?_
  refine lv_imul hx hb dX8_found_62 ?_
  refine wk_eqi (pk_mul 3 (fM μ)) ?_
  refine lv_iconst (v := 1) hx hb dX8_found_63 (by decide) ?_
  refine lv_iadd hx hb dX8_found_64 ?_
  refine wk_eqi (nI_add (3 * (fM μ)) 1) ?_
  refine lv_iload_n hx hb dX8_found_65 rfl (lv_at hl 2 rfl) ?_
  refine wk_ast hx hb hK hP hD hS 7 0 rfl rfl ((3 * (fM μ)) + 1) rfl (by omega) (by decide) dX8_found_66 (ws' := modelW c ad (va_up μ 15 (upd (upd (μ 15) (3 * (fM μ)) w) ((3 * (fM μ)) + 1) x2)) r) rfl (fun H locs hP hD hS => ?_)
  refine lv_aload_n hx hb dX8_found_67 rfl (lv_at hl 0 rfl) ?_
  refine wg_X8_15 hx hb hts iX8 hown hK hP 0 rfl k2 (v := .ref (ad 15)) rfl dX8_found_68 ?_
  refine lv_iconst (v := 3) hx hb dX8_found_71 (by decide) ?_
  refine lv_aload_n hx hb dX8_found_72 rfl (lv_at hl 0 rfl) ?_
  refine wg_X8_14 hx hb hts iX8 hown hK hP 0 rfl k1 (v := .int (μ 14 0)) rfl dX8_found_73 ?_
  refine wk_eqi (y := nI (fM μ)) (hF.1) ?_
  refine lv_imul hx hb dX8_found_76 ?_
  refine wk_eqi (pk_mul 3 (fM μ)) ?_
  refine lv_iconst (v := 2) hx hb dX8_found_77 (by decide) ?_
  refine lv_iadd hx hb dX8_found_78 ?_
  refine wk_eqi (nI_add (3 * (fM μ)) 2) ?_
  refine lv_iload_n hx hb dX8_found_79 rfl (lv_at hl 3 rfl) ?_
  refine lv_iconst (v := -1) hx hb dX8_found_80 (by decide) ?_
  refine lv_icmp_ne (tgt := 89) hx hb dX8_found_81 (by decide) (fun h13 => ?_) (fun h13 => ?_)
  · refine lv_iload_n hx hb dX8_found_89 rfl (lv_at hl 3 rfl) ?_
    refine wk_eqi (y := if x3 = -1 then (-9 : Int32) else x3) (by first | contradiction | exact (if_pos h13).symm | exact (if_neg h13).symm) ?_
    refine lv_topi (fun v ev => ?_)
    refine wk_ast hx hb hK hP hD hS 7 0 rfl rfl ((3 * (fM μ)) + 2) rfl (by omega) (by decide) dX8_found_90 (ws' := modelW c ad (va_up μ 15 (upd (upd (upd (μ 15) (3 * (fM μ)) w) ((3 * (fM μ)) + 1) x2) ((3 * (fM μ)) + 2) v)) r) rfl (fun H locs hP hD hS => ?_)
    refine lv_aload_n hx hb dX8_found_91 rfl (lv_at hl 0 rfl) ?_
    refine lv_dup hx hb dX8_found_92 rfl ?_
    refine wg_X8_14 hx hb hts iX8 hown hK hP 0 rfl k1 (v := .int (μ 14 0)) rfl dX8_found_93 ?_
    refine wk_eqi (y := nI (fM μ)) (hF.1) ?_
    refine lv_iconst (v := 1) hx hb dX8_found_96 (by decide) ?_
    refine lv_iadd hx hb dX8_found_97 ?_
    refine wk_eqi (nI_add (fM μ) 1) ?_
    refine wp_X8_14 hx hb hts iX8 hown hK hP hD hS 0 rfl k1 (Nat.le_of_ble_eq_true rfl) dX8_found_98 (ws' := modelW c ad (va_up (va_up μ 15 (upd (upd (upd (μ 15) (3 * (fM μ)) w) ((3 * (fM μ)) + 1) x2) ((3 * (fM μ)) + 2) v)) 14 (fun _ => nI ((fM μ) + 1))) r) rfl (fun H locs hP hD hS => ?_)
    refine lv_aload_n hx hb dX8_found_101 rfl (lv_at hl 0 rfl) ?_
    refine wg_X8_14 hx hb hts iX8 hown hK hP 0 rfl k1 (v := .int (nI ((fM μ) + 1))) rfl dX8_found_102 ?_
    have eg14 : va_up (va_up μ 15 (upd (upd (upd (μ 15) (3 * (fM μ)) w) ((3 * (fM μ)) + 1) x2) ((3 * (fM μ)) + 2) v)) 14 (fun _ => nI ((fM μ) + 1)) = mfoF μ w x2 x3 := by rw [mfoF, if_pos ⟨hOK, by omega⟩, ev]
    have hP : va_P D vwCl (modelW c ad (mfoF μ w x2 x3) r) H := by rw [← eg14]; exact hP
    have hD : va_D A (modelW c ad (mfoF μ w x2 x3) r) := by rw [← eg14]; exact hD
    exact ret 105 ls H _ (nI ((fM μ) + 1)) (by rw [mfoV, if_pos hOK, if_neg (by omega)]) hP hS dX8_found_105
  refine lv_bipush (v := -9) hx hb dX8_found_84 (by decide) ?_
  refine lv_goto (tgt := 90) hx hb dX8_found_86 (by decide) ?_
  refine wk_eqi (y := if x3 = -1 then (-9 : Int32) else x3) (by first | contradiction | exact (if_pos h13).symm | exact (if_neg h13).symm) ?_
  refine lv_topi (fun v ev => ?_)
  refine wk_ast hx hb hK hP hD hS 7 0 rfl rfl ((3 * (fM μ)) + 2) rfl (by omega) (by decide) dX8_found_90 (ws' := modelW c ad (va_up μ 15 (upd (upd (upd (μ 15) (3 * (fM μ)) w) ((3 * (fM μ)) + 1) x2) ((3 * (fM μ)) + 2) v)) r) rfl (fun H locs hP hD hS => ?_)
  refine lv_aload_n hx hb dX8_found_91 rfl (lv_at hl 0 rfl) ?_
  refine lv_dup hx hb dX8_found_92 rfl ?_
  refine wg_X8_14 hx hb hts iX8 hown hK hP 0 rfl k1 (v := .int (μ 14 0)) rfl dX8_found_93 ?_
  refine wk_eqi (y := nI (fM μ)) (hF.1) ?_
  refine lv_iconst (v := 1) hx hb dX8_found_96 (by decide) ?_
  refine lv_iadd hx hb dX8_found_97 ?_
  refine wk_eqi (nI_add (fM μ) 1) ?_
  refine wp_X8_14 hx hb hts iX8 hown hK hP hD hS 0 rfl k1 (Nat.le_of_ble_eq_true rfl) dX8_found_98 (ws' := modelW c ad (va_up (va_up μ 15 (upd (upd (upd (μ 15) (3 * (fM μ)) w) ((3 * (fM μ)) + 1) x2) ((3 * (fM μ)) + 2) v)) 14 (fun _ => nI ((fM μ) + 1))) r) rfl (fun H locs hP hD hS => ?_)
  refine lv_aload_n hx hb dX8_found_101 rfl (lv_at hl 0 rfl) ?_
  refine wg_X8_14 hx hb hts iX8 hown hK hP 0 rfl k1 (v := .int (nI ((fM μ) + 1))) rfl dX8_found_102 ?_
  have eg15 : va_up (va_up μ 15 (upd (upd (upd (μ 15) (3 * (fM μ)) w) ((3 * (fM μ)) + 1) x2) ((3 * (fM μ)) + 2) v)) 14 (fun _ => nI ((fM μ) + 1)) = mfoF μ w x2 x3 := by rw [mfoF, if_pos ⟨hOK, by omega⟩, ev]
  have hP : va_P D vwCl (modelW c ad (mfoF μ w x2 x3) r) H := by rw [← eg15]; exact hP
  have hD : va_D A (modelW c ad (mfoF μ w x2 x3) r) := by rw [← eg15]; exact hD
  exact ret 105 ls H _ (nI ((fM μ) + 1)) (by rw [mfoV, if_pos hOK, if_neg (by omega)]) hP hS dX8_found_105

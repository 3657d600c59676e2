/-! ===== LastWordModel, walked: items, the paper ===== -/
abbrev rmX8_readItem : Room := { frames := 4, cells := 0, slots := 0, locals := 87 }
theorem hd_X8_readItem : yX8_readItem.cls = RX8 ∧ yX8_readItem.cls ≠ "java/lang/invoke/MethodHandle" ∧ yX8_readItem.cls ≠ "java/lang/invoke/VarHandle" ∧ (parseMethodDescriptor yX8_readItem.desc).map (fun d => d.parameters.length) = some 0 := by decide +kernel
set_option maxHeartbeats 4000000 in
set_option maxRecDepth 100000 in
theorem c_X8_readItem (l : Launch) (D : va_G) (c : Nat → ClassId) (ad : Nat → Nat) (μ : Nat → Nat → Int32) (r : Int64) (hM : wfM μ) (hMA : wfMA μ) (hR : wfR μ) : wk_UpI l yX8_readItem wsX8_readItem rmX8_readItem D (tysL c) [.ref (ad 0)] (modelW c ad μ r) (modelW c ad (miF μ) r) (if miOK μ then 1 else 0) := by
  refine wk_mkU (cc := cX8_readItem) (maxL := 2) (rt := .boolean) (by decide) rfl (Nat.le_of_ble_eq_true rfl) wk_narZ ?_
  intro A pr ev ss mm args below meth cd ls H H0 locs Q hst hP hK hD hS hA hl ret
  obtain ⟨hx, hb, hml, hown, hts, -⟩ := hst
  have hown : ss.vm.findClass RX8 = some mm.cls := hown
  have hl : lv_has ls 2 [(0, .ref (ad 0))] := hl
  have k1 := hts (.fieldLink RX8 60 "LastWordModel" "token" "I") (List.mem_of_getElem? (i := 1) rfl)
  have k2 := hts (.fieldLink RX8 67 "LastWordModel" "told" "I") (List.mem_of_getElem? (i := 2) rfl)
  have k3 := hts (.fieldLink RX8 13 "LastWordModel" "read" "[I") (List.mem_of_getElem? (i := 3) rfl)
  have iX8 : ∀ w ∈ u_ws RX8 TX8 18, w ∈ wsX8_readItem := fun _ h => (List.mem_cons_of_mem _ (List.mem_append_right _ h))
  have hR6 := hR.2
  refine lv_aload_n hx hb dX8_readItem_0 rfl (lv_at hl 0 rfl) ?_
  refine wg_X8_4 hx hb hts iX8 hown hK hP 0 rfl k1 (v := .int (μ 4 0)) rfl dX8_readItem_1 ?_
  refine lv_iconst (v := 1) hx hb dX8_readItem_4 (by decide) ?_
  refine lv_icmp_eq (tgt := 10) hx hb dX8_readItem_5 (by decide) (fun h1 => ?_) (fun h1 => ?_)
  rotate_left
  · refine lv_iconst (v := 0) hx hb dX8_readItem_8 (by decide) ?_
    have eg30 : μ = miF μ := by rw [miF, if_neg h1]
    have hP : va_P D vwCl (modelW c ad (miF μ) r) H := by rw [← eg30]; exact hP
    have hD : va_D A (modelW c ad (miF μ) r) := by rw [← eg30]; exact hD
    exact ret 9 ls H _ 0 ((if_neg (fun q => absurd q.1 h1)).symm) hP hS dX8_readItem_9
  refine lv_aload_n hx hb dX8_readItem_10 rfl (lv_at hl 0 rfl) ?_
  refine wg_X8_5 hx hb hts iX8 hown hK hP 0 rfl k2 (v := .int (μ 5 0)) rfl dX8_readItem_11 ?_
  refine lv_bipush (v := 116) hx hb dX8_readItem_14 (by decide) ?_
  refine lv_icmp_ne (tgt := 63) hx hb dX8_readItem_16 (by decide) (fun h2 => ?_) (fun h2 => ?_)
  · refine lv_aload_n hx hb dX8_readItem_63 rfl (lv_at hl 0 rfl) ?_
    refine wg_X8_6 hx hb hts iX8 hown hK hP 0 rfl k3 (v := .ref (ad 6)) rfl dX8_readItem_64 ?_
    refine lv_iconst (v := 0) hx hb dX8_readItem_67 (by decide) ?_
    refine wk_ald (f := μ 6) hx hb hK hP 2 0 rfl rfl 0 rfl (by omega) (by decide) dX8_readItem_68 ?_
    refine wk_eqi (y := nI (rN μ)) (hR.1) ?_
    refine lv_bipush (v := 6) hx hb dX8_readItem_69 (by decide) ?_
    refine wk_ne (tgt := 76) hx hb (rN μ) 6 rfl rfl (by omega) (by omega) dX8_readItem_71 (by decide) (fun h3 => ?_) (fun h3 => ?_)
    rotate_left
    · refine lv_iconst (v := 0) hx hb dX8_readItem_74 (by decide) ?_
      have eg23 : μ = miF μ := by rw [miF, if_pos h1, if_neg h2, if_pos h3]
      have hP : va_P D vwCl (modelW c ad (miF μ) r) H := by rw [← eg23]; exact hP
      have hD : va_D A (modelW c ad (miF μ) r) := by rw [← eg23]; exact hD
      exact ret 75 ls H _ 0 ((if_neg (fun q => q.2.elim (fun q => absurd q.1 h2) (fun q => absurd h3 q.2.1.1))).symm) hP hS dX8_readItem_75
    refine lv_iconst (v := 0) hx hb dX8_readItem_76 (by decide) ?_
    refine lv_istore_n (lv' := [(1, .int 0), (0, .ref (ad 0))]) hx hb dX8_readItem_77 rfl hl (by decide) rfl (fun ls hl => ?_)
    have lp78 : ∀ (n : Nat) (i : Nat), (i ≤ 7) → (mwC μ (rN μ) (7 - i) i = mwN μ) → 7 - i < n → ∀ (H : Heap) (locs : List Loc), va_P D vwCl (modelW c ad (mwK μ (rN μ) i) r) H → va_D A (modelW c ad (mwK μ (rN μ) i) r) → va_S A H0 H locs → ∀ ls : Array Slot, lv_has ls 2 [(0, .ref (ad 0)), (1, .int (nI i))] → W pr l ev rmX8_readItem ss mm args below meth cd H locs 0 0 Q (F0 mm 78 ls []) := by
      intro n
      induction n with
      | zero => intro i hi hv hn; exact absurd hn (Nat.not_lt_zero _)
      | succ n ih78 =>
        intro i hi hv hn H locs hP hD hS ls hl
        refine lv_iload_n hx hb dX8_readItem_78 rfl (lv_at hl 1 rfl) ?_
        refine lv_bipush (v := 7) hx hb dX8_readItem_79 (by decide) ?_
        refine wk_ge (tgt := 141) hx hb i 7 rfl rfl (by omega) (by omega) dX8_readItem_81 (by decide) (fun h4 => ?_) (fun h4 => ?_)
        · refine lv_aload_n hx hb dX8_readItem_141 rfl (lv_at hl 0 rfl) ?_
          refine wg_X8_6 hx hb hts iX8 hown hK hP 0 rfl k3 (v := .ref (ad 6)) rfl dX8_readItem_142 ?_
          refine lv_iconst (v := 0) hx hb dX8_readItem_145 (by decide) ?_
          refine lv_dup2_11 hx hb dX8_readItem_146 rfl rfl ?_
          refine wk_ald (f := (mwK μ (rN μ) i) 6) hx hb hK hP 2 0 rfl rfl 0 rfl (by omega) (by decide) dX8_readItem_147 ?_
          refine wk_eqi (y := nI (rN μ)) (by rw [mwK_0 (rN μ) i (by omega)]; exact hR.1) ?_
          refine lv_iconst (v := 1) hx hb dX8_readItem_148 (by decide) ?_
          refine lv_iadd hx hb dX8_readItem_149 ?_
          refine wk_eqi (nI_add (rN μ) 1) ?_
          refine wk_ast hx hb hK hP hD hS 2 0 rfl rfl 0 rfl (by omega) (by decide) dX8_readItem_150 (ws' := modelW c ad (va_up (mwK μ (rN μ) i) 6 (upd ((mwK μ (rN μ) i) 6) 0 (nI ((rN μ) + 1)))) r) rfl (fun H locs hP hD hS => ?_)
          have hi7 : i = 7 := by omega
          have eg5 : va_up (mwK μ (rN μ) i) 6 (upd ((mwK μ (rN μ) i) 6) 0 (nI ((rN μ) + 1))) = mwD μ := by rw [mwD, hi7]
          have hP : va_P D vwCl (modelW c ad (mwD μ) r) H := by rw [← eg5]; exact hP
          have hD : va_D A (modelW c ad (mwD μ) r) := by rw [← eg5]; exact hD
          refine lv_aload_n hx hb dX8_readItem_151 rfl (lv_at hl 0 rfl) ?_
          refine wk_callUV (As := []) (rest := []) ⟨hx, hb, hml, hown, hts⟩ (c_X8_itemEnds l D c ad (mwD μ) r (mwD_M hM) (mwD_A hM hMA)) (cwV 0 hts gX8_readItem_X8_itemEnds rfl rfl rfl hd_X8_itemEnds ⟨Nat.le_of_ble_eq_true rfl, Nat.le_of_ble_eq_true rfl⟩) hK hP hD hS hA [0, 1, 2, 3, 4, 5, 6, 7, 8] [] 9 rfl rfl [ad 0, ad 100, ad 6, ad 7, ad 8, ad 9, ad 12, ad 15, ad 17] rfl rfl (ws' := modelW c ad (rdF (mwD μ)) r) rfl (wr := []) rfl rfl rfl rfl 0 rfl rfl rfl hl.1 rfl (Nat.le_of_ble_eq_true rfl) dX8_readItem_152 (Nat.zero_le _) (Nat.zero_le _) (fun H locs hP hD hS => ?_)
          have eg6 : rdF (mwD μ) = miF μ := by rw [miF, if_pos h1, if_neg h2, if_neg h3, if_pos (show mwN μ = 7 from by rw [← hv, show 7 - i = 0 by omega]; exact hi7)]
          have hP : va_P D vwCl (modelW c ad (miF μ) r) H := by rw [← eg6]; exact hP
          have hD : va_D A (modelW c ad (miF μ) r) := by rw [← eg6]; exact hD
          exact ret 155 ls H _ (if rdK (mwD μ) = 3 then 1 else 0) (wk_iff ⟨fun q => ⟨h1, Or.inr ⟨h2, ⟨h3, by rw [← hv, show 7 - i = 0 by omega]; exact hi7⟩, q⟩⟩, fun q => q.2.elim (fun q => absurd q.1 h2) (fun q => q.2.2)⟩) hP hS dX8_readItem_155
        refine lv_aload_n hx hb dX8_readItem_84 rfl (lv_at hl 0 rfl) ?_
        refine lv_iload_n hx hb dX8_readItem_85 rfl (lv_at hl 1 rfl) ?_
        refine lv_if_ne (tgt := 93) hx hb dX8_readItem_86 (by decide) (fun h7 => ?_) (fun h7 => ?_)
        · refine lv_iconst (v := 0) hx hb dX8_readItem_93 (by decide) ?_
          refine wk_eqi (loK_0 h7) ?_
          refine lv_iload_n hx hb dX8_readItem_94 rfl (lv_at hl 1 rfl) ?_
          refine lv_iconst (v := 1) hx hb dX8_readItem_95 (by decide) ?_
          refine wk_ne (tgt := 103) hx hb i 1 rfl rfl (by omega) (by omega) dX8_readItem_96 (by decide) (fun h8 => ?_) (fun h8 => ?_)
          · refine lv_bipush (v := 9) hx hb dX8_readItem_103 (by decide) ?_
            refine wk_eqi (hiK_0 h8) ?_
            refine wk_callUV (As := [.int (loK i), .int (hiK i)]) (rest := []) ⟨hx, hb, hml, hown, hts⟩ (c_X8_number l D c ad (mwK μ (rN μ) i) r (loK i) (hiK i) (mwK_M hM _ i) (mwK_A hM hMA _ i)) (cwV 2 hts gX8_readItem_X8_number rfl rfl rfl hd_X8_number ⟨Nat.le_of_ble_eq_true rfl, Nat.le_of_ble_eq_true rfl⟩) hK hP hD hS hA [0, 1, 2, 3, 4, 5, 6, 7, 8] [] 9 rfl rfl [ad 0, ad 100, ad 6, ad 7, ad 8, ad 9, ad 12, ad 15, ad 17] rfl rfl (ws' := modelW c ad (rdF (mwK μ (rN μ) i)) r) rfl (wr := []) rfl rfl rfl rfl 0 rfl rfl rfl hl.1 rfl (Nat.le_of_ble_eq_true rfl) dX8_readItem_105 (Nat.zero_le _) (Nat.zero_le _) (fun H locs hP hD hS => ?_)
            refine wk_bnz (tgt := 113) hx hb dX8_readItem_108 (by decide) (fun hN => ?_) (fun hN => ?_)
            rotate_left
            · refine lv_iconst (v := 0) hx hb dX8_readItem_111 (by decide) ?_
              have eg11 : rdF (mwK μ (rN μ) i) = miF μ := by rw [miF, if_pos h1, if_neg h2, if_neg h3, show mwN μ = i from by rw [← hv, show 7 - i = (7 - (i + 1)) + 1 by omega, mwC, if_neg hN], if_neg (by omega)]
              have hP : va_P D vwCl (modelW c ad (miF μ) r) H := by rw [← eg11]; exact hP
              have hD : va_D A (modelW c ad (miF μ) r) := by rw [← eg11]; exact hD
              exact ret 112 ls H _ 0 ((if_neg (fun q => q.2.elim (fun q => absurd q.1 h2) (fun q => absurd q.2.1.2 (by rw [← hv, show 7 - i = (7 - (i + 1)) + 1 by omega, mwC, if_neg hN]; omega)))).symm) hP hS dX8_readItem_112
            refine lv_aload_n hx hb dX8_readItem_113 rfl (lv_at hl 0 rfl) ?_
            refine wg_X8_6 hx hb hts iX8 hown hK hP 0 rfl k3 (v := .ref (ad 6)) rfl dX8_readItem_114 ?_
            refine lv_iconst (v := 3) hx hb dX8_readItem_117 (by decide) ?_
            refine lv_bipush (v := 7) hx hb dX8_readItem_118 (by decide) ?_
            refine lv_aload_n hx hb dX8_readItem_120 rfl (lv_at hl 0 rfl) ?_
            refine wg_X8_6 hx hb hts iX8 hown hK hP 0 rfl k3 (v := .ref (ad 6)) rfl dX8_readItem_121 ?_
            refine lv_iconst (v := 0) hx hb dX8_readItem_124 (by decide) ?_
            refine wk_ald (f := (rdF (mwK μ (rN μ) i)) 6) hx hb hK hP 2 0 rfl rfl 0 rfl (by omega) (by decide) dX8_readItem_125 ?_
            refine wk_eqi (y := nI (rN μ)) (by show mwK μ (rN μ) i 6 0 = nI (rN μ); rw [mwK_0 (rN μ) i (by omega)]; exact hR.1) ?_
            refine lv_imul hx hb dX8_readItem_126 ?_
            refine wk_eqi (pk_mul 7 (rN μ)) ?_
            refine lv_iadd hx hb dX8_readItem_127 ?_
            refine wk_eqi (nI_add 3 (7 * (rN μ))) ?_
            refine lv_iload_n hx hb dX8_readItem_128 rfl (lv_at hl 1 rfl) ?_
            refine lv_iadd hx hb dX8_readItem_129 ?_
            refine wk_eqi (nI_add (3 + (7 * (rN μ))) i) ?_
            refine lv_aload_n hx hb dX8_readItem_130 rfl (lv_at hl 0 rfl) ?_
            refine wg_X8_5 hx hb hts iX8 hown hK hP 0 rfl k2 (v := .int ((rdF (mwK μ (rN μ) i)) 5 0)) rfl dX8_readItem_131 ?_
            refine wk_eqi (rdF_V (mwK μ (rN μ) i)) ?_
            refine lv_topi (fun v2 e2 => ?_)
            refine wk_ast hx hb hK hP hD hS 2 0 rfl rfl ((3 + (7 * (rN μ))) + i) rfl (by omega) (by decide) dX8_readItem_134 (ws' := modelW c ad (va_up (rdF (mwK μ (rN μ) i)) 6 (upd ((rdF (mwK μ (rN μ) i)) 6) ((3 + (7 * (rN μ))) + i) v2)) r) rfl (fun H locs hP hD hS => ?_)
            refine lv_iinc (v := nI (i + 1)) (lv' := [(1, .int (nI (i + 1))), (0, .ref (ad 0))]) hx hb dX8_readItem_135 hl (k := 1) rfl (nI_inc i 1) (by decide) rfl (fun ls hl => ?_)
            refine lv_goto (tgt := 78) hx hb dX8_readItem_138 (by decide) ?_
            have eg10 : va_up (rdF (mwK μ (rN μ) i)) 6 (upd ((rdF (mwK μ (rN μ) i)) 6) ((3 + (7 * (rN μ))) + i) v2) = mwK μ (rN μ) (i + 1) := by rw [e2]; rfl
            have hP : va_P D vwCl (modelW c ad (mwK μ (rN μ) (i + 1)) r) H := by rw [← eg10]; exact hP
            have hD : va_D A (modelW c ad (mwK μ (rN μ) (i + 1)) r) := by rw [← eg10]; exact hD
            have hl : lv_has ls 2 [(0, .ref (ad 0)), (1, .int (nI (i + 1)))] := lv_sub hl [1, 0] rfl
            exact ih78 (i + 1) (by omega) (by rw [← hv, show 7 - i = (7 - (i + 1)) + 1 by omega, mwC, if_pos hN]) (by omega) H _ hP hD hS ls hl
          refine lv_iconst (v := 5) hx hb dX8_readItem_99 (by decide) ?_
          refine lv_goto (tgt := 105) hx hb dX8_readItem_100 (by decide) ?_
          refine wk_eqi (hiK_1 h8) ?_
          refine wk_callUV (As := [.int (loK i), .int (hiK i)]) (rest := []) ⟨hx, hb, hml, hown, hts⟩ (c_X8_number l D c ad (mwK μ (rN μ) i) r (loK i) (hiK i) (mwK_M hM _ i) (mwK_A hM hMA _ i)) (cwV 2 hts gX8_readItem_X8_number rfl rfl rfl hd_X8_number ⟨Nat.le_of_ble_eq_true rfl, Nat.le_of_ble_eq_true rfl⟩) hK hP hD hS hA [0, 1, 2, 3, 4, 5, 6, 7, 8] [] 9 rfl rfl [ad 0, ad 100, ad 6, ad 7, ad 8, ad 9, ad 12, ad 15, ad 17] rfl rfl (ws' := modelW c ad (rdF (mwK μ (rN μ) i)) r) rfl (wr := []) rfl rfl rfl rfl 0 rfl rfl rfl hl.1 rfl (Nat.le_of_ble_eq_true rfl) dX8_readItem_105 (Nat.zero_le _) (Nat.zero_le _) (fun H locs hP hD hS => ?_)
          refine wk_bnz (tgt := 113) hx hb dX8_readItem_108 (by decide) (fun hN => ?_) (fun hN => ?_)
          rotate_left
          · refine lv_iconst (v := 0) hx hb dX8_readItem_111 (by decide) ?_
            have eg14 : rdF (mwK μ (rN μ) i) = miF μ := by rw [miF, if_pos h1, if_neg h2, if_neg h3, show mwN μ = i from by rw [← hv, show 7 - i = (7 - (i + 1)) + 1 by omega, mwC, if_neg hN], if_neg (by omega)]
            have hP : va_P D vwCl (modelW c ad (miF μ) r) H := by rw [← eg14]; exact hP
            have hD : va_D A (modelW c ad (miF μ) r) := by rw [← eg14]; exact hD
            exact ret 112 ls H _ 0 ((if_neg (fun q => q.2.elim (fun q => absurd q.1 h2) (fun q => absurd q.2.1.2 (by rw [← hv, show 7 - i = (7 - (i + 1)) + 1 by omega, mwC, if_neg hN]; omega)))).symm) hP hS dX8_readItem_112
          refine lv_aload_n hx hb dX8_readItem_113 rfl (lv_at hl 0 rfl) ?_
          refine wg_X8_6 hx hb hts iX8 hown hK hP 0 rfl k3 (v := .ref (ad 6)) rfl dX8_readItem_114 ?_
          refine lv_iconst (v := 3) hx hb dX8_readItem_117 (by decide) ?_
          refine lv_bipush (v := 7) hx hb dX8_readItem_118 (by decide) ?_
          refine lv_aload_n hx hb dX8_readItem_120 rfl (lv_at hl 0 rfl) ?_
          refine wg_X8_6 hx hb hts iX8 hown hK hP 0 rfl k3 (v := .ref (ad 6)) rfl dX8_readItem_121 ?_
          refine lv_iconst (v := 0) hx hb dX8_readItem_124 (by decide) ?_
          refine wk_ald (f := (rdF (mwK μ (rN μ) i)) 6) hx hb hK hP 2 0 rfl rfl 0 rfl (by omega) (by decide) dX8_readItem_125 ?_
          refine wk_eqi (y := nI (rN μ)) (by show mwK μ (rN μ) i 6 0 = nI (rN μ); rw [mwK_0 (rN μ) i (by omega)]; exact hR.1) ?_
          refine lv_imul hx hb dX8_readItem_126 ?_
          refine wk_eqi (pk_mul 7 (rN μ)) ?_
          refine lv_iadd hx hb dX8_readItem_127 ?_
          refine wk_eqi (nI_add 3 (7 * (rN μ))) ?_
          refine lv_iload_n hx hb dX8_readItem_128 rfl (lv_at hl 1 rfl) ?_
          refine lv_iadd hx hb dX8_readItem_129 ?_
          refine wk_eqi (nI_add (3 + (7 * (rN μ))) i) ?_
          refine lv_aload_n hx hb dX8_readItem_130 rfl (lv_at hl 0 rfl) ?_
          refine wg_X8_5 hx hb hts iX8 hown hK hP 0 rfl k2 (v := .int ((rdF (mwK μ (rN μ) i)) 5 0)) rfl dX8_readItem_131 ?_
          refine wk_eqi (rdF_V (mwK μ (rN μ) i)) ?_
          refine lv_topi (fun v2 e2 => ?_)
          refine wk_ast hx hb hK hP hD hS 2 0 rfl rfl ((3 + (7 * (rN μ))) + i) rfl (by omega) (by decide) dX8_readItem_134 (ws' := modelW c ad (va_up (rdF (mwK μ (rN μ) i)) 6 (upd ((rdF (mwK μ (rN μ) i)) 6) ((3 + (7 * (rN μ))) + i) v2)) r) rfl (fun H locs hP hD hS => ?_)
          refine lv_iinc (v := nI (i + 1)) (lv' := [(1, .int (nI (i + 1))), (0, .ref (ad 0))]) hx hb dX8_readItem_135 hl (k := 1) rfl (nI_inc i 1) (by decide) rfl (fun ls hl => ?_)
          refine lv_goto (tgt := 78) hx hb dX8_readItem_138 (by decide) ?_
          have eg13 : va_up (rdF (mwK μ (rN μ) i)) 6 (upd ((rdF (mwK μ (rN μ) i)) 6) ((3 + (7 * (rN μ))) + i) v2) = mwK μ (rN μ) (i + 1) := by rw [e2]; rfl
          have hP : va_P D vwCl (modelW c ad (mwK μ (rN μ) (i + 1)) r) H := by rw [← eg13]; exact hP
          have hD : va_D A (modelW c ad (mwK μ (rN μ) (i + 1)) r) := by rw [← eg13]; exact hD
          have hl : lv_has ls 2 [(0, .ref (ad 0)), (1, .int (nI (i + 1)))] := lv_sub hl [1, 0] rfl
          exact ih78 (i + 1) (by omega) (by rw [← hv, show 7 - i = (7 - (i + 1)) + 1 by omega, mwC, if_pos hN]) (by omega) H _ hP hD hS ls hl
        refine lv_iconst (v := 1) hx hb dX8_readItem_89 (by decide) ?_
        refine lv_goto (tgt := 94) hx hb dX8_readItem_90 (by decide) ?_
        refine wk_eqi (loK_1 (by omega) h7) ?_
        refine lv_iload_n hx hb dX8_readItem_94 rfl (lv_at hl 1 rfl) ?_
        refine lv_iconst (v := 1) hx hb dX8_readItem_95 (by decide) ?_
        refine wk_ne (tgt := 103) hx hb i 1 rfl rfl (by omega) (by omega) dX8_readItem_96 (by decide) (fun h15 => ?_) (fun h15 => ?_)
        · refine lv_bipush (v := 9) hx hb dX8_readItem_103 (by decide) ?_
          refine wk_eqi (hiK_0 h15) ?_
          refine wk_callUV (As := [.int (loK i), .int (hiK i)]) (rest := []) ⟨hx, hb, hml, hown, hts⟩ (c_X8_number l D c ad (mwK μ (rN μ) i) r (loK i) (hiK i) (mwK_M hM _ i) (mwK_A hM hMA _ i)) (cwV 2 hts gX8_readItem_X8_number rfl rfl rfl hd_X8_number ⟨Nat.le_of_ble_eq_true rfl, Nat.le_of_ble_eq_true rfl⟩) hK hP hD hS hA [0, 1, 2, 3, 4, 5, 6, 7, 8] [] 9 rfl rfl [ad 0, ad 100, ad 6, ad 7, ad 8, ad 9, ad 12, ad 15, ad 17] rfl rfl (ws' := modelW c ad (rdF (mwK μ (rN μ) i)) r) rfl (wr := []) rfl rfl rfl rfl 0 rfl rfl rfl hl.1 rfl (Nat.le_of_ble_eq_true rfl) dX8_readItem_105 (Nat.zero_le _) (Nat.zero_le _) (fun H locs hP hD hS => ?_)
          refine wk_bnz (tgt := 113) hx hb dX8_readItem_108 (by decide) (fun hN => ?_) (fun hN => ?_)
          rotate_left
          · refine lv_iconst (v := 0) hx hb dX8_readItem_111 (by decide) ?_
            have eg18 : rdF (mwK μ (rN μ) i) = miF μ := by rw [miF, if_pos h1, if_neg h2, if_neg h3, show mwN μ = i from by rw [← hv, show 7 - i = (7 - (i + 1)) + 1 by omega, mwC, if_neg hN], if_neg (by omega)]
            have hP : va_P D vwCl (modelW c ad (miF μ) r) H := by rw [← eg18]; exact hP
            have hD : va_D A (modelW c ad (miF μ) r) := by rw [← eg18]; exact hD
            exact ret 112 ls H _ 0 ((if_neg (fun q => q.2.elim (fun q => absurd q.1 h2) (fun q => absurd q.2.1.2 (by rw [← hv, show 7 - i = (7 - (i + 1)) + 1 by omega, mwC, if_neg hN]; omega)))).symm) hP hS dX8_readItem_112
          refine lv_aload_n hx hb dX8_readItem_113 rfl (lv_at hl 0 rfl) ?_
          refine wg_X8_6 hx hb hts iX8 hown hK hP 0 rfl k3 (v := .ref (ad 6)) rfl dX8_readItem_114 ?_
          refine lv_iconst (v := 3) hx hb dX8_readItem_117 (by decide) ?_
          refine lv_bipush (v := 7) hx hb dX8_readItem_118 (by decide) ?_
          refine lv_aload_n hx hb dX8_readItem_120 rfl (lv_at hl 0 rfl) ?_
          refine wg_X8_6 hx hb hts iX8 hown hK hP 0 rfl k3 (v := .ref (ad 6)) rfl dX8_readItem_121 ?_
          refine lv_iconst (v := 0) hx hb dX8_readItem_124 (by decide) ?_
          refine wk_ald (f := (rdF (mwK μ (rN μ) i)) 6) hx hb hK hP 2 0 rfl rfl 0 rfl (by omega) (by decide) dX8_readItem_125 ?_
          refine wk_eqi (y := nI (rN μ)) (by show mwK μ (rN μ) i 6 0 = nI (rN μ); rw [mwK_0 (rN μ) i (by omega)]; exact hR.1) ?_
          refine lv_imul hx hb dX8_readItem_126 ?_
          refine wk_eqi (pk_mul 7 (rN μ)) ?_
          refine lv_iadd hx hb dX8_readItem_127 ?_
          refine wk_eqi (nI_add 3 (7 * (rN μ))) ?_
          refine lv_iload_n hx hb dX8_readItem_128 rfl (lv_at hl 1 rfl) ?_
          refine lv_iadd hx hb dX8_readItem_129 ?_
          refine wk_eqi (nI_add (3 + (7 * (rN μ))) i) ?_
          refine lv_aload_n hx hb dX8_readItem_130 rfl (lv_at hl 0 rfl) ?_
          refine wg_X8_5 hx hb hts iX8 hown hK hP 0 rfl k2 (v := .int ((rdF (mwK μ (rN μ) i)) 5 0)) rfl dX8_readItem_131 ?_
          refine wk_eqi (rdF_V (mwK μ (rN μ) i)) ?_
          refine lv_topi (fun v2 e2 => ?_)
          refine wk_ast hx hb hK hP hD hS 2 0 rfl rfl ((3 + (7 * (rN μ))) + i) rfl (by omega) (by decide) dX8_readItem_134 (ws' := modelW c ad (va_up (rdF (mwK μ (rN μ) i)) 6 (upd ((rdF (mwK μ (rN μ) i)) 6) ((3 + (7 * (rN μ))) + i) v2)) r) rfl (fun H locs hP hD hS => ?_)
          refine lv_iinc (v := nI (i + 1)) (lv' := [(1, .int (nI (i + 1))), (0, .ref (ad 0))]) hx hb dX8_readItem_135 hl (k := 1) rfl (nI_inc i 1) (by decide) rfl (fun ls hl => ?_)
          refine lv_goto (tgt := 78) hx hb dX8_readItem_138 (by decide) ?_
          have eg17 : va_up (rdF (mwK μ (rN μ) i)) 6 (upd ((rdF (mwK μ (rN μ) i)) 6) ((3 + (7 * (rN μ))) + i) v2) = mwK μ (rN μ) (i + 1) := by rw [e2]; rfl
          have hP : va_P D vwCl (modelW c ad (mwK μ (rN μ) (i + 1)) r) H := by rw [← eg17]; exact hP
          have hD : va_D A (modelW c ad (mwK μ (rN μ) (i + 1)) r) := by rw [← eg17]; exact hD
          have hl : lv_has ls 2 [(0, .ref (ad 0)), (1, .int (nI (i + 1)))] := lv_sub hl [1, 0] rfl
          exact ih78 (i + 1) (by omega) (by rw [← hv, show 7 - i = (7 - (i + 1)) + 1 by omega, mwC, if_pos hN]) (by omega) H _ hP hD hS ls hl
        refine lv_iconst (v := 5) hx hb dX8_readItem_99 (by decide) ?_
        refine lv_goto (tgt := 105) hx hb dX8_readItem_100 (by decide) ?_
        refine wk_eqi (hiK_1 h15) ?_
        refine wk_callUV (As := [.int (loK i), .int (hiK i)]) (rest := []) ⟨hx, hb, hml, hown, hts⟩ (c_X8_number l D c ad (mwK μ (rN μ) i) r (loK i) (hiK i) (mwK_M hM _ i) (mwK_A hM hMA _ i)) (cwV 2 hts gX8_readItem_X8_number rfl rfl rfl hd_X8_number ⟨Nat.le_of_ble_eq_true rfl, Nat.le_of_ble_eq_true rfl⟩) hK hP hD hS hA [0, 1, 2, 3, 4, 5, 6, 7, 8] [] 9 rfl rfl [ad 0, ad 100, ad 6, ad 7, ad 8, ad 9, ad 12, ad 15, ad 17] rfl rfl (ws' := modelW c ad (rdF (mwK μ (rN μ) i)) r) rfl (wr := []) rfl rfl rfl rfl 0 rfl rfl rfl hl.1 rfl (Nat.le_of_ble_eq_true rfl) dX8_readItem_105 (Nat.zero_le _) (Nat.zero_le _) (fun H locs hP hD hS => ?_)
        refine wk_bnz (tgt := 113) hx hb dX8_readItem_108 (by decide) (fun hN => ?_) (fun hN => ?_)
        rotate_left
        · refine lv_iconst (v := 0) hx hb dX8_readItem_111 (by decide) ?_
          have eg21 : rdF (mwK μ (rN μ) i) = miF μ := by rw [miF, if_pos h1, if_neg h2, if_neg h3, show mwN μ = i from by rw [← hv, show 7 - i = (7 - (i + 1)) + 1 by omega, mwC, if_neg hN], if_neg (by omega)]
          have hP : va_P D vwCl (modelW c ad (miF μ) r) H := by rw [← eg21]; exact hP
          have hD : va_D A (modelW c ad (miF μ) r) := by rw [← eg21]; exact hD
          exact ret 112 ls H _ 0 ((if_neg (fun q => q.2.elim (fun q => absurd q.1 h2) (fun q => absurd q.2.1.2 (by rw [← hv, show 7 - i = (7 - (i + 1)) + 1 by omega, mwC, if_neg hN]; omega)))).symm) hP hS dX8_readItem_112
        refine lv_aload_n hx hb dX8_readItem_113 rfl (lv_at hl 0 rfl) ?_
        refine wg_X8_6 hx hb hts iX8 hown hK hP 0 rfl k3 (v := .ref (ad 6)) rfl dX8_readItem_114 ?_
        refine lv_iconst (v := 3) hx hb dX8_readItem_117 (by decide) ?_
        refine lv_bipush (v := 7) hx hb dX8_readItem_118 (by decide) ?_
        refine lv_aload_n hx hb dX8_readItem_120 rfl (lv_at hl 0 rfl) ?_
        refine wg_X8_6 hx hb hts iX8 hown hK hP 0 rfl k3 (v := .ref (ad 6)) rfl dX8_readItem_121 ?_
        refine lv_iconst (v := 0) hx hb dX8_readItem_124 (by decide) ?_
        refine wk_ald (f := (rdF (mwK μ (rN μ) i)) 6) hx hb hK hP 2 0 rfl rfl 0 rfl (by omega) (by decide) dX8_readItem_125 ?_
        refine wk_eqi (y := nI (rN μ)) (by show mwK μ (rN μ) i 6 0 = nI (rN μ); rw [mwK_0 (rN μ) i (by omega)]; exact hR.1) ?_
        refine lv_imul hx hb dX8_readItem_126 ?_
        refine wk_eqi (pk_mul 7 (rN μ)) ?_
        refine lv_iadd hx hb dX8_readItem_127 ?_
        refine wk_eqi (nI_add 3 (7 * (rN μ))) ?_
        refine lv_iload_n hx hb dX8_readItem_128 rfl (lv_at hl 1 rfl) ?_
        refine lv_iadd hx hb dX8_readItem_129 ?_
        refine wk_eqi (nI_add (3 + (7 * (rN μ))) i) ?_
        refine lv_aload_n hx hb dX8_readItem_130 rfl (lv_at hl 0 rfl) ?_
        refine wg_X8_5 hx hb hts iX8 hown hK hP 0 rfl k2 (v := .int ((rdF (mwK μ (rN μ) i)) 5 0)) rfl dX8_readItem_131 ?_
        refine wk_eqi (rdF_V (mwK μ (rN μ) i)) ?_
        refine lv_topi (fun v2 e2 => ?_)
        refine wk_ast hx hb hK hP hD hS 2 0 rfl rfl ((3 + (7 * (rN μ))) + i) rfl (by omega) (by decide) dX8_readItem_134 (ws' := modelW c ad (va_up (rdF (mwK μ (rN μ) i)) 6 (upd ((rdF (mwK μ (rN μ) i)) 6) ((3 + (7 * (rN μ))) + i) v2)) r) rfl (fun H locs hP hD hS => ?_)
        refine lv_iinc (v := nI (i + 1)) (lv' := [(1, .int (nI (i + 1))), (0, .ref (ad 0))]) hx hb dX8_readItem_135 hl (k := 1) rfl (nI_inc i 1) (by decide) rfl (fun ls hl => ?_)
        refine lv_goto (tgt := 78) hx hb dX8_readItem_138 (by decide) ?_
        have eg20 : va_up (rdF (mwK μ (rN μ) i)) 6 (upd ((rdF (mwK μ (rN μ) i)) 6) ((3 + (7 * (rN μ))) + i) v2) = mwK μ (rN μ) (i + 1) := by rw [e2]; rfl
        have hP : va_P D vwCl (modelW c ad (mwK μ (rN μ) (i + 1)) r) H := by rw [← eg20]; exact hP
        have hD : va_D A (modelW c ad (mwK μ (rN μ) (i + 1)) r) := by rw [← eg20]; exact hD
        have hl : lv_has ls 2 [(0, .ref (ad 0)), (1, .int (nI (i + 1)))] := lv_sub hl [1, 0] rfl
        exact ih78 (i + 1) (by omega) (by rw [← hv, show 7 - i = (7 - (i + 1)) + 1 by omega, mwC, if_pos hN]) (by omega) H _ hP hD hS ls hl
    have eg22 : μ = mwK μ (rN μ) 0 := by rfl
    have hP : va_P D vwCl (modelW c ad (mwK μ (rN μ) 0) r) H := by rw [← eg22]; exact hP
    have hD : va_D A (modelW c ad (mwK μ (rN μ) 0) r) := by rw [← eg22]; exact hD
    have hl : lv_has ls 2 [(0, .ref (ad 0)), (1, .int 0)] := lv_sub hl [1, 0] rfl
    have hl := wk_lset (y := nI 0) (lv_sub (l' := [(1, .int 0), (0, .ref (ad 0))]) hl [1, 0] rfl) (by rfl)
    have hl : lv_has ls 2 [(0, .ref (ad 0)), (1, .int (nI 0))] := lv_sub hl [1, 0] rfl
    exact lp78 _ 0 (by omega) (rfl) (Nat.lt_succ_self _) H _ hP hD hS ls hl
  refine lv_aload_n hx hb dX8_readItem_19 rfl (lv_at hl 0 rfl) ?_
  refine wg_X8_6 hx hb hts iX8 hown hK hP 0 rfl k3 (v := .ref (ad 6)) rfl dX8_readItem_20 ?_
  refine lv_iconst (v := 2) hx hb dX8_readItem_23 (by decide) ?_
  refine wk_ald (f := μ 6) hx hb hK hP 2 0 rfl rfl 2 rfl (by omega) (by decide) dX8_readItem_24 ?_
  refine lv_iconst (v := 1) hx hb dX8_readItem_25 (by decide) ?_
  refine lv_icmp_eq (tgt := 39) hx hb dX8_readItem_26 (by decide) (fun h24 => ?_) (fun h24 => ?_)
  · refine lv_iconst (v := 0) hx hb dX8_readItem_39 (by decide) ?_
    have eg25 : μ = miF μ := by rw [miF, if_pos h1, if_pos h2, if_pos h24]
    have hP : va_P D vwCl (modelW c ad (miF μ) r) H := by rw [← eg25]; exact hP
    have hD : va_D A (modelW c ad (miF μ) r) := by rw [← eg25]; exact hD
    exact ret 40 ls H _ 0 ((if_neg (fun q => q.2.elim (fun q => absurd h24 q.2.1.1) (fun q => absurd h2 q.1))).symm) hP hS dX8_readItem_40
  refine lv_aload_n hx hb dX8_readItem_29 rfl (lv_at hl 0 rfl) ?_
  refine lv_iconst (v := 1) hx hb dX8_readItem_30 (by decide) ?_
  refine lv_bipush (v := 20) hx hb dX8_readItem_31 (by decide) ?_
  refine wk_callUV (As := [.int 1, .int 20]) (rest := []) ⟨hx, hb, hml, hown, hts⟩ (c_X8_number l D c ad μ r 1 20 (hM) (hMA)) (cwV 2 hts gX8_readItem_X8_number rfl rfl rfl hd_X8_number ⟨Nat.le_of_ble_eq_true rfl, Nat.le_of_ble_eq_true rfl⟩) hK hP hD hS hA [0, 1, 2, 3, 4, 5, 6, 7, 8] [] 9 rfl rfl [ad 0, ad 100, ad 6, ad 7, ad 8, ad 9, ad 12, ad 15, ad 17] rfl rfl (ws' := modelW c ad (rdF μ) r) rfl (wr := []) rfl rfl rfl rfl 0 rfl rfl rfl hl.1 rfl (Nat.le_of_ble_eq_true rfl) dX8_readItem_33 (Nat.zero_le _) (Nat.zero_le _) (fun H locs hP hD hS => ?_)
  refine wk_bnz (tgt := 41) hx hb dX8_readItem_36 (by decide) (fun hN1 => ?_) (fun hN1 => ?_)
  rotate_left
  · refine lv_iconst (v := 0) hx hb dX8_readItem_39 (by decide) ?_
    have eg29 : rdF μ = miF μ := by rw [miF, if_pos h1, if_pos h2, if_neg h24, if_neg hN1]
    have hP : va_P D vwCl (modelW c ad (miF μ) r) H := by rw [← eg29]; exact hP
    have hD : va_D A (modelW c ad (miF μ) r) := by rw [← eg29]; exact hD
    exact ret 40 ls H _ 0 ((if_neg (fun q => q.2.elim (fun q => absurd q.2.1.2 hN1) (fun q => absurd h2 q.1))).symm) hP hS dX8_readItem_40
  refine lv_aload_n hx hb dX8_readItem_41 rfl (lv_at hl 0 rfl) ?_
  refine wg_X8_6 hx hb hts iX8 hown hK hP 0 rfl k3 (v := .ref (ad 6)) rfl dX8_readItem_42 ?_
  refine lv_iconst (v := 1) hx hb dX8_readItem_45 (by decide) ?_
  refine lv_aload_n hx hb dX8_readItem_46 rfl (lv_at hl 0 rfl) ?_
  refine wg_X8_5 hx hb hts iX8 hown hK hP 0 rfl k2 (v := .int ((rdF μ) 5 0)) rfl dX8_readItem_47 ?_
  refine wk_eqi (rdF_V μ) ?_
  refine lv_topi (fun v1 e1 => ?_)
  refine wk_ast hx hb hK hP hD hS 2 0 rfl rfl 1 rfl (by omega) (by decide) dX8_readItem_50 (ws' := modelW c ad (va_up (rdF μ) 6 (upd ((rdF μ) 6) 1 v1)) r) rfl (fun H locs hP hD hS => ?_)
  refine lv_aload_n hx hb dX8_readItem_51 rfl (lv_at hl 0 rfl) ?_
  refine wg_X8_6 hx hb hts iX8 hown hK hP 0 rfl k3 (v := .ref (ad 6)) rfl dX8_readItem_52 ?_
  refine lv_iconst (v := 2) hx hb dX8_readItem_55 (by decide) ?_
  refine lv_iconst (v := 1) hx hb dX8_readItem_56 (by decide) ?_
  refine wk_ast hx hb hK hP hD hS 2 0 rfl rfl 2 rfl (by omega) (by decide) dX8_readItem_57 (ws' := modelW c ad (va_up (rdF μ) 6 (upd (upd ((rdF μ) 6) 1 v1) 2 1)) r) rfl (fun H locs hP hD hS => ?_)
  have eg27 : va_up (rdF μ) 6 (upd (upd ((rdF μ) 6) 1 v1) 2 1) = mtS μ := by rw [e1]; rfl
  have hP : va_P D vwCl (modelW c ad (mtS μ) r) H := by rw [← eg27]; exact hP
  have hD : va_D A (modelW c ad (mtS μ) r) := by rw [← eg27]; exact hD
  refine lv_aload_n hx hb dX8_readItem_58 rfl (lv_at hl 0 rfl) ?_
  refine wk_callUV (As := []) (rest := []) ⟨hx, hb, hml, hown, hts⟩ (c_X8_itemEnds l D c ad (mtS μ) r (mtS_M hM) (mtS_A hM hMA)) (cwV 0 hts gX8_readItem_X8_itemEnds rfl rfl rfl hd_X8_itemEnds ⟨Nat.le_of_ble_eq_true rfl, Nat.le_of_ble_eq_true rfl⟩) hK hP hD hS hA [0, 1, 2, 3, 4, 5, 6, 7, 8] [] 9 rfl rfl [ad 0, ad 100, ad 6, ad 7, ad 8, ad 9, ad 12, ad 15, ad 17] rfl rfl (ws' := modelW c ad (rdF (mtS μ)) r) rfl (wr := []) rfl rfl rfl rfl 0 rfl rfl rfl hl.1 rfl (Nat.le_of_ble_eq_true rfl) dX8_readItem_59 (Nat.zero_le _) (Nat.zero_le _) (fun H locs hP hD hS => ?_)
  have eg28 : rdF (mtS μ) = miF μ := by rw [miF, if_pos h1, if_pos h2, if_neg h24, if_pos hN1]
  have hP : va_P D vwCl (modelW c ad (miF μ) r) H := by rw [← eg28]; exact hP
  have hD : va_D A (modelW c ad (miF μ) r) := by rw [← eg28]; exact hD
  exact ret 62 ls H _ (if rdK (mtS μ) = 3 then 1 else 0) (wk_iff ⟨fun q => ⟨h1, Or.inl ⟨h2, ⟨h24, hN1⟩, q⟩⟩, fun q => q.2.elim (fun q => q.2.2) (fun q => absurd h2 q.1)⟩) hP hS dX8_readItem_62

abbrev rmX8_takes : Room := { frames := 0, cells := 0, slots := 0, locals := 0 }
theorem hd_X8_takes : yX8_takes.cls = RX8 ∧ yX8_takes.cls ≠ "java/lang/invoke/MethodHandle" ∧ yX8_takes.cls ≠ "java/lang/invoke/VarHandle" ∧ (parseMethodDescriptor yX8_takes.desc).map (fun d => d.parameters.length) = some 0 := by decide +kernel
set_option maxHeartbeats 4000000 in
set_option maxRecDepth 100000 in
theorem c_X8_takes (l : Launch) (D : va_G) (c : Nat → ClassId) (ad : Nat → Nat) (μ : Nat → Nat → Int32) (r : Int64) : wk_UpV l yX8_takes wsX8_takes rmX8_takes D (tysL c) [.ref (ad 0)] (modelW c ad μ r) (modelW c ad (mtkF μ) r) := by
  refine wk_mkV (cc := cX8_takes) (maxL := 2) (by decide) rfl (Nat.le_of_ble_eq_true rfl) ?_
  intro A pr ev ss mm args below meth cd ls H H0 locs Q hst hP hK hD hS hA hl ret
  obtain ⟨hx, hb, hml, hown, hts, -⟩ := hst
  have hown : ss.vm.findClass RX8 = some mm.cls := hown
  have hl : lv_has ls 2 [(0, .ref (ad 0))] := hl
  have k4 := hts (.fieldLink RX8 84 "LastWordModel" "founds" "I") (List.mem_of_getElem? (i := 4) rfl)
  have k5 := hts (.fieldLink RX8 87 "LastWordModel" "undos" "I") (List.mem_of_getElem? (i := 5) rfl)
  have k6 := hts (.fieldLink RX8 31 "LastWordModel" "kept" "[I") (List.mem_of_getElem? (i := 6) rfl)
  have k3 := hts (.fieldLink RX8 19 "LastWordModel" "now" "[I") (List.mem_of_getElem? (i := 3) rfl)
  have k1 := hts (.fieldLink RX8 16 "LastWordModel" "paper" "[I") (List.mem_of_getElem? (i := 1) rfl)
  have k2 := hts (.fieldLink RX8 13 "LastWordModel" "read" "[I") (List.mem_of_getElem? (i := 2) rfl)
  have iX8 : ∀ w ∈ u_ws RX8 TX8 18, w ∈ wsX8_takes := fun _ h => (List.mem_cons_of_mem _ (List.mem_append_right _ h))
  refine lv_iconst (v := 0) hx hb dX8_takes_0 (by decide) ?_
  refine lv_istore_n (lv' := [(1, .int 0), (0, .ref (ad 0))]) hx hb dX8_takes_1 rfl hl (by decide) rfl (fun ls hl => ?_)
  have lp2 : ∀ (n : Nat) (i : Nat), (i ≤ 45) → 45 - i < n → ∀ (H : Heap) (locs : List Loc), va_P D vwCl (modelW c ad (va_up μ 7 (fun k => if k < i then μ 6 k else μ 7 k)) r) H → va_D A (modelW c ad (va_up μ 7 (fun k => if k < i then μ 6 k else μ 7 k)) r) → va_S A H0 H locs → ∀ ls : Array Slot, lv_has ls 2 [(0, .ref (ad 0)), (1, .int (nI i))] → W pr l ev rmX8_takes ss mm args below meth cd H locs 0 0 Q (F0 mm 2 ls []) := by
    intro n
    induction n with
    | zero => intro i hi hn; exact absurd hn (Nat.not_lt_zero _)
    | succ n ih2 =>
      intro i hi hn H locs hP hD hS ls hl
      refine lv_iload_n hx hb dX8_takes_2 rfl (lv_at hl 1 rfl) ?_
      refine lv_bipush (v := 45) hx hb dX8_takes_3 (by decide) ?_
      refine wk_ge (tgt := 26) hx hb i 45 rfl rfl (by omega) (by omega) dX8_takes_5 (by decide) (fun h1 => ?_) (fun h1 => ?_)
      · refine lv_iconst (v := 0) hx hb dX8_takes_26 (by decide) ?_
        refine lv_istore_n (lv' := [(1, .int 0), (0, .ref (ad 0))]) hx hb dX8_takes_27 rfl hl (by decide) rfl (fun ls hl => ?_)
        have lp28 : ∀ (n : Nat) (j : Nat), (j ≤ 46) → 46 - j < n → ∀ (H : Heap) (locs : List Loc), va_P D vwCl (modelW c ad (va_up (va_up μ 7 (fun k => if k < 45 then μ 6 k else μ 7 k)) 8 (fun k => if k < j then 0 else μ 8 k)) r) H → va_D A (modelW c ad (va_up (va_up μ 7 (fun k => if k < 45 then μ 6 k else μ 7 k)) 8 (fun k => if k < j then 0 else μ 8 k)) r) → va_S A H0 H locs → ∀ ls : Array Slot, lv_has ls 2 [(0, .ref (ad 0)), (1, .int (nI j))] → W pr l ev rmX8_takes ss mm args below meth cd H locs 0 0 Q (F0 mm 28 ls []) := by
          intro n
          induction n with
          | zero => intro j hj hn; exact absurd hn (Nat.not_lt_zero _)
          | succ n ih28 =>
            intro j hj hn H locs hP hD hS ls hl
            refine lv_iload_n hx hb dX8_takes_28 rfl (lv_at hl 1 rfl) ?_
            refine lv_bipush (v := 46) hx hb dX8_takes_29 (by decide) ?_
            refine wk_ge (tgt := 47) hx hb j 46 rfl rfl (by omega) (by omega) dX8_takes_31 (by decide) (fun h2 => ?_) (fun h2 => ?_)
            rotate_left
            · refine lv_aload_n hx hb dX8_takes_34 rfl (lv_at hl 0 rfl) ?_
              refine wg_X8_8 hx hb hts iX8 hown hK hP 0 rfl k3 (v := .ref (ad 8)) rfl dX8_takes_35 ?_
              refine lv_iload_n hx hb dX8_takes_38 rfl (lv_at hl 1 rfl) ?_
              refine lv_iconst (v := 0) hx hb dX8_takes_39 (by decide) ?_
              refine wk_ast hx hb hK hP hD hS 4 0 rfl rfl j rfl (by omega) (by decide) dX8_takes_40 (ws' := modelW c ad (va_up (va_up μ 7 (fun k => if k < 45 then μ 6 k else μ 7 k)) 8 (upd (fun k => if k < j then 0 else μ 8 k) j 0)) r) rfl (fun H locs hP hD hS => ?_)
              refine lv_iinc (v := nI (j + 1)) (lv' := [(1, .int (nI (j + 1))), (0, .ref (ad 0))]) hx hb dX8_takes_41 hl (k := 1) rfl (nI_inc j 1) (by decide) rfl (fun ls hl => ?_)
              refine lv_goto (tgt := 28) hx hb dX8_takes_44 (by decide) ?_
              have eg4 : va_up (va_up μ 7 (fun k => if k < 45 then μ 6 k else μ 7 k)) 8 (upd (fun k => if k < j then 0 else μ 8 k) j 0) = va_up (va_up μ 7 (fun k => if k < 45 then μ 6 k else μ 7 k)) 8 (fun k => if k < (j + 1) then 0 else μ 8 k) := by exact congrArg (va_up (va_up μ 7 (fun k => if k < 45 then μ 6 k else μ 7 k)) 8) (fill_s (fun _ => 0) (μ 8) j)
              have hP : va_P D vwCl (modelW c ad (va_up (va_up μ 7 (fun k => if k < 45 then μ 6 k else μ 7 k)) 8 (fun k => if k < (j + 1) then 0 else μ 8 k)) r) H := by rw [← eg4]; exact hP
              have hD : va_D A (modelW c ad (va_up (va_up μ 7 (fun k => if k < 45 then μ 6 k else μ 7 k)) 8 (fun k => if k < (j + 1) then 0 else μ 8 k)) r) := by rw [← eg4]; exact hD
              have hl : lv_has ls 2 [(0, .ref (ad 0)), (1, .int (nI (j + 1)))] := lv_sub hl [1, 0] rfl
              exact ih28 (j + 1) (by omega) (by omega) H _ hP hD hS ls hl
            refine lv_aload_n hx hb dX8_takes_47 rfl (lv_at hl 0 rfl) ?_
            refine lv_iconst (v := 0) hx hb dX8_takes_48 (by decide) ?_
            refine wp_X8_14 hx hb hts iX8 hown hK hP hD hS 0 rfl k4 (Nat.le_of_ble_eq_true rfl) dX8_takes_49 (ws' := modelW c ad (va_up (va_up (va_up μ 7 (fun k => if k < 45 then μ 6 k else μ 7 k)) 8 (fun k => if k < j then 0 else μ 8 k)) 14 (fun _ => 0)) r) rfl (fun H locs hP hD hS => ?_)
            refine lv_aload_n hx hb dX8_takes_52 rfl (lv_at hl 0 rfl) ?_
            refine lv_iconst (v := 0) hx hb dX8_takes_53 (by decide) ?_
            refine wp_X8_10 hx hb hts iX8 hown hK hP hD hS 0 rfl k5 (Nat.le_of_ble_eq_true rfl) dX8_takes_54 (ws' := modelW c ad (va_up (va_up (va_up (va_up μ 7 (fun k => if k < 45 then μ 6 k else μ 7 k)) 8 (fun k => if k < j then 0 else μ 8 k)) 14 (fun _ => 0)) 10 (fun _ => 0)) r) rfl (fun H locs hP hD hS => ?_)
            refine lv_aload_n hx hb dX8_takes_57 rfl (lv_at hl 0 rfl) ?_
            refine wg_X8_17 hx hb hts iX8 hown hK hP 0 rfl k6 (v := .ref (ad 17)) rfl dX8_takes_58 ?_
            refine lv_iconst (v := 0) hx hb dX8_takes_61 (by decide) ?_
            refine lv_iconst (v := 0) hx hb dX8_takes_62 (by decide) ?_
            refine wk_ast hx hb hK hP hD hS 8 0 rfl rfl 0 rfl (by omega) (by decide) dX8_takes_63 (ws' := modelW c ad (va_up (va_up (va_up (va_up (va_up μ 7 (fun k => if k < 45 then μ 6 k else μ 7 k)) 8 (fun k => if k < j then 0 else μ 8 k)) 14 (fun _ => 0)) 10 (fun _ => 0)) 17 (upd (μ 17) 0 0)) r) rfl (fun H locs hP hD hS => ?_)
            refine lv_aload_n hx hb dX8_takes_64 rfl (lv_at hl 0 rfl) ?_
            refine wg_X8_17 hx hb hts iX8 hown hK hP 0 rfl k6 (v := .ref (ad 17)) rfl dX8_takes_65 ?_
            refine lv_bipush (v := 47) hx hb dX8_takes_68 (by decide) ?_
            refine lv_iconst (v := 0) hx hb dX8_takes_70 (by decide) ?_
            refine wk_ast hx hb hK hP hD hS 8 0 rfl rfl 47 rfl (by omega) (by decide) dX8_takes_71 (ws' := modelW c ad (va_up (va_up (va_up (va_up (va_up μ 7 (fun k => if k < 45 then μ 6 k else μ 7 k)) 8 (fun k => if k < j then 0 else μ 8 k)) 14 (fun _ => 0)) 10 (fun _ => 0)) 17 (upd (upd (μ 17) 0 0) 47 0)) r) rfl (fun H locs hP hD hS => ?_)
            have eg3 : va_up (va_up (va_up (va_up (va_up μ 7 (fun k => if k < 45 then μ 6 k else μ 7 k)) 8 (fun k => if k < j then 0 else μ 8 k)) 14 (fun _ => 0)) 10 (fun _ => 0)) 17 (upd (upd (μ 17) 0 0) 47 0) = mtkF μ := by rw [mtkF, show j = 46 by omega]
            have hP : va_P D vwCl (modelW c ad (mtkF μ) r) H := by rw [← eg3]; exact hP
            have hD : va_D A (modelW c ad (mtkF μ) r) := by rw [← eg3]; exact hD
            exact ret 72 ls H _ hP hS dX8_takes_72
        have eg5 : va_up μ 7 (fun k => if k < i then μ 6 k else μ 7 k) = va_up (va_up μ 7 (fun k => if k < 45 then μ 6 k else μ 7 k)) 8 (fun k => if k < 0 then 0 else μ 8 k) := by rw [show i = 45 by omega]; exact (up_self (μ := va_up μ 7 (fun k => if k < 45 then μ 6 k else μ 7 k)) (fill_0 (fun _ => 0) (μ 8))).symm
        have hP : va_P D vwCl (modelW c ad (va_up (va_up μ 7 (fun k => if k < 45 then μ 6 k else μ 7 k)) 8 (fun k => if k < 0 then 0 else μ 8 k)) r) H := by rw [← eg5]; exact hP
        have hD : va_D A (modelW c ad (va_up (va_up μ 7 (fun k => if k < 45 then μ 6 k else μ 7 k)) 8 (fun k => if k < 0 then 0 else μ 8 k)) r) := by rw [← eg5]; exact hD
        have hl : lv_has ls 2 [(0, .ref (ad 0)), (1, .int 0)] := lv_sub hl [1, 0] rfl
        have hl := wk_lset (y := nI 0) (lv_sub (l' := [(1, .int 0), (0, .ref (ad 0))]) hl [1, 0] rfl) (by rfl)
        have hl : lv_has ls 2 [(0, .ref (ad 0)), (1, .int (nI 0))] := lv_sub hl [1, 0] rfl
        exact lp28 _ 0 (by omega) (Nat.lt_succ_self _) H _ hP hD hS ls hl
      refine lv_aload_n hx hb dX8_takes_8 rfl (lv_at hl 0 rfl) ?_
      refine wg_X8_7 hx hb hts iX8 hown hK hP 0 rfl k1 (v := .ref (ad 7)) rfl dX8_takes_9 ?_
      refine lv_iload_n hx hb dX8_takes_12 rfl (lv_at hl 1 rfl) ?_
      refine lv_aload_n hx hb dX8_takes_13 rfl (lv_at hl 0 rfl) ?_
      refine wg_X8_6 hx hb hts iX8 hown hK hP 0 rfl k2 (v := .ref (ad 6)) rfl dX8_takes_14 ?_
      refine lv_iload_n hx hb dX8_takes_17 rfl (lv_at hl 1 rfl) ?_
      refine wk_ald (f := μ 6) hx hb hK hP 2 0 rfl rfl i rfl (by omega) (by decide) dX8_takes_18 ?_
      refine wk_ast hx hb hK hP hD hS 3 0 rfl rfl i rfl (by omega) (by decide) dX8_takes_19 (ws' := modelW c ad (va_up μ 7 (upd (fun k => if k < i then μ 6 k else μ 7 k) i (μ 6 i))) r) rfl (fun H locs hP hD hS => ?_)
      refine lv_iinc (v := nI (i + 1)) (lv' := [(1, .int (nI (i + 1))), (0, .ref (ad 0))]) hx hb dX8_takes_20 hl (k := 1) rfl (nI_inc i 1) (by decide) rfl (fun ls hl => ?_)
      refine lv_goto (tgt := 2) hx hb dX8_takes_23 (by decide) ?_
      have eg6 : va_up μ 7 (upd (fun k => if k < i then μ 6 k else μ 7 k) i (μ 6 i)) = va_up μ 7 (fun k => if k < (i + 1) then μ 6 k else μ 7 k) := by exact congrArg (va_up μ 7) (fill_s (μ 6) (μ 7) i)
      have hP : va_P D vwCl (modelW c ad (va_up μ 7 (fun k => if k < (i + 1) then μ 6 k else μ 7 k)) r) H := by rw [← eg6]; exact hP
      have hD : va_D A (modelW c ad (va_up μ 7 (fun k => if k < (i + 1) then μ 6 k else μ 7 k)) r) := by rw [← eg6]; exact hD
      have hl : lv_has ls 2 [(0, .ref (ad 0)), (1, .int (nI (i + 1)))] := lv_sub hl [1, 0] rfl
      exact ih2 (i + 1) (by omega) (by omega) H _ hP hD hS ls hl
  have eg7 : μ = va_up μ 7 (fun k => if k < 0 then μ 6 k else μ 7 k) := by exact (up_self (fill_0 (μ 6) (μ 7))).symm
  have hP : va_P D vwCl (modelW c ad (va_up μ 7 (fun k => if k < 0 then μ 6 k else μ 7 k)) r) H := by rw [← eg7]; exact hP
  have hD : va_D A (modelW c ad (va_up μ 7 (fun k => if k < 0 then μ 6 k else μ 7 k)) r) := by rw [← eg7]; exact hD
  have hl : lv_has ls 2 [(0, .ref (ad 0)), (1, .int 0)] := lv_sub hl [1, 0] rfl
  have hl := wk_lset (y := nI 0) (lv_sub (l' := [(1, .int 0), (0, .ref (ad 0))]) hl [1, 0] rfl) (by rfl)
  have hl : lv_has ls 2 [(0, .ref (ad 0)), (1, .int (nI 0))] := lv_sub hl [1, 0] rfl
  exact lp2 _ 0 (by omega) (Nat.lt_succ_self _) H _ hP hD hS ls hl

abbrev rmX8_paper : Room := { frames := 5, cells := 0, slots := 0, locals := 108 }
theorem hd_X8_paper : yX8_paper.cls = RX8 ∧ yX8_paper.cls ≠ "java/lang/invoke/MethodHandle" ∧ yX8_paper.cls ≠ "java/lang/invoke/VarHandle" ∧ (parseMethodDescriptor yX8_paper.desc).map (fun d => d.parameters.length) = some 0 := by decide +kernel
set_option maxHeartbeats 4000000 in
set_option maxRecDepth 100000 in
theorem c_X8_paper (l : Launch) (D : va_G) (c : Nat → ClassId) (ad : Nat → Nat) (μ : Nat → Nat → Int32) (r : Int64) (hM : wfM μ) : wk_UpI l yX8_paper wsX8_paper rmX8_paper D (tysL c) [.ref (ad 0)] (modelW c ad μ r) (modelW c ad (mpE μ 8 0) r) (mpV μ 8 0) := by
  refine wk_mkU (cc := cX8_paper) (maxL := 2) (rt := .int) (by decide) rfl (Nat.le_of_ble_eq_true rfl) rfl ?_
  intro A pr ev ss mm args below meth cd ls H H0 locs Q hst hP hK hD hS hA hl ret
  obtain ⟨hx, hb, hml, hown, hts, -⟩ := hst
  have hown : ss.vm.findClass RX8 = some mm.cls := hown
  have hl : lv_has ls 2 [(0, .ref (ad 0))] := hl
  have k1 := hts (.fieldLink RX8 54 "LastWordModel" "at" "I") (List.mem_of_getElem? (i := 1) rfl)
  have k2 := hts (.fieldLink RX8 60 "LastWordModel" "token" "I") (List.mem_of_getElem? (i := 2) rfl)
  have k4 := hts (.fieldLink RX8 46 "LastWordModel" "size" "I") (List.mem_of_getElem? (i := 4) rfl)
  have k3 := hts (.fieldLink RX8 57 "LastWordModel" "begin" "I") (List.mem_of_getElem? (i := 3) rfl)
  have iX8 : ∀ w ∈ u_ws RX8 TX8 18, w ∈ wsX8_paper := fun _ h => (List.mem_cons_of_mem _ (List.mem_append_right _ h))
  have h0A0 : wfMA (mp0 μ) := by show (0 : Int32) = nI (0 : Int32).toNatClampNeg ∧ (0 : Int32).toNatClampNeg ≤ lnM μ; exact ⟨by decide, by rw [show (0 : Int32).toNatClampNeg = 0 from by decide]; omega⟩
  have h0M : wfM (mpA μ 0) := hM
  have h0A : wfMA (mpA μ 0) := rdF_A (μ := mp0 μ) hM h0A0
  have h0R : wfR (mpA μ 0) := by show (0 : Int32) = nI (0 : Int32).toNatClampNeg ∧ (0 : Int32).toNatClampNeg ≤ 6; decide
  have h0N : miN (mpA μ 0) = 0 := by show (0 : Int32).toNatClampNeg + (if (0 : Int32) = 1 then 1 else 0) = 0; decide
  refine lv_aload_n hx hb dX8_paper_0 rfl (lv_at hl 0 rfl) ?_
  refine wk_callVV (As := []) (rest := []) ⟨hx, hb, hml, hown, hts⟩ (c_X8_plain l D c ad μ r) (cwV 0 hts gX8_paper_X8_plain rfl rfl rfl hd_X8_plain ⟨Nat.le_of_ble_eq_true rfl, Nat.le_of_ble_eq_true rfl⟩) hK hP hD hS hA [0, 1, 2, 3, 4, 5, 6, 7, 8] [] 9 rfl rfl [ad 0, ad 100, ad 6, ad 7, ad 8, ad 9, ad 12, ad 15, ad 17] rfl rfl (ws' := modelW c ad (plF μ) r) rfl (wr := []) rfl rfl rfl rfl 0 rfl rfl rfl hl.1 rfl (Nat.le_of_ble_eq_true rfl) dX8_paper_1 (Nat.zero_le _) (Nat.zero_le _) (fun H locs hP hD hS => ?_)
  refine lv_aload_n hx hb dX8_paper_4 rfl (lv_at hl 0 rfl) ?_
  refine lv_iconst (v := 0) hx hb dX8_paper_5 (by decide) ?_
  refine wp_X8_2 hx hb hts iX8 hown hK hP hD hS 0 rfl k1 (Nat.le_of_ble_eq_true rfl) dX8_paper_6 (ws' := modelW c ad (va_up (plF μ) 2 (fun _ => 0)) r) rfl (fun H locs hP hD hS => ?_)
  refine lv_iconst (v := 0) hx hb dX8_paper_9 (by decide) ?_
  refine lv_istore_n (lv' := [(1, .int 0), (0, .ref (ad 0))]) hx hb dX8_paper_10 rfl hl (by decide) rfl (fun ls hl => ?_)
  refine lv_aload_n hx hb dX8_paper_11 rfl (lv_at hl 1 rfl) ?_
  refine wk_callVV (As := []) (rest := []) ⟨hx, hb, hml, hown, hts⟩ (c_X8_reads l D c ad (va_up (plF μ) 2 (fun _ => 0)) r (hM) (h0A0)) (cwV 0 hts gX8_paper_X8_reads rfl rfl rfl hd_X8_reads ⟨Nat.le_of_ble_eq_true rfl, Nat.le_of_ble_eq_true rfl⟩) hK hP hD hS hA [0, 1, 2, 3, 4, 5, 6, 7, 8] [] 9 rfl rfl [ad 0, ad 100, ad 6, ad 7, ad 8, ad 9, ad 12, ad 15, ad 17] rfl rfl (ws' := modelW c ad (rdF (va_up (plF μ) 2 (fun _ => 0))) r) rfl (wr := []) rfl rfl rfl rfl 0 rfl rfl rfl hl.1 rfl (Nat.le_of_ble_eq_true rfl) dX8_paper_12 (Nat.zero_le _) (Nat.zero_le _) (fun H locs hP hD hS => ?_)
  have lp15 : ∀ (n : Nat) (i : Nat), (i ≤ 7) → (wfM (mpA μ i)) → (wfMA (mpA μ i)) → (wfR (mpA μ i)) → (miN (mpA μ i) = i) → (mpV μ (8 - i) i = mpV μ 8 0) → (mpE μ (8 - i) i = mpE μ 8 0) → 8 - i < n → ∀ (H : Heap) (locs : List Loc), va_P D vwCl (modelW c ad (mpA μ i) r) H → va_D A (modelW c ad (mpA μ i) r) → va_S A H0 H locs → ∀ ls : Array Slot, lv_has ls 2 [(0, .ref (ad 0)), (1, .int (nI i))] → W pr l ev rmX8_paper ss mm args below meth cd H locs 0 0 Q (F0 mm 15 ls []) := by
    intro n
    induction n with
    | zero => intro i hi hA1 hA2 hA3 hA4 hv he hn; exact absurd hn (Nat.not_lt_zero _)
    | succ n ih15 =>
      intro i hi hA1 hA2 hA3 hA4 hv he hn H locs hP hD hS ls hl
      refine lv_aload_n hx hb dX8_paper_15 rfl (lv_at hl 0 rfl) ?_
      refine wg_X8_4 hx hb hts iX8 hown hK hP 0 rfl k2 (v := .int ((mpA μ i) 4 0)) rfl dX8_paper_16 ?_
      refine lv_if_eq (tgt := 47) hx hb dX8_paper_19 (by decide) (fun h1 => ?_) (fun h1 => ?_)
      · refine lv_aload_n hx hb dX8_paper_47 rfl (lv_at hl 0 rfl) ?_
        refine lv_iconst (v := 0) hx hb dX8_paper_48 (by decide) ?_
        refine wp_X8_1 hx hb hts iX8 hown hK hP hD hS 0 rfl k4 (Nat.le_of_ble_eq_true rfl) dX8_paper_49 (ws' := modelW c ad (va_up (mpA μ i) 1 (fun _ => 0)) r) rfl (fun H locs hP hD hS => ?_)
        refine lv_aload_n hx hb dX8_paper_52 rfl (lv_at hl 0 rfl) ?_
        refine wk_callVV (As := []) (rest := []) ⟨hx, hb, hml, hown, hts⟩ (c_X8_takes l D c ad (va_up (mpA μ i) 1 (fun _ => 0)) r) (cwV 0 hts gX8_paper_X8_takes rfl rfl rfl hd_X8_takes ⟨Nat.le_of_ble_eq_true rfl, Nat.le_of_ble_eq_true rfl⟩) hK hP hD hS hA [0, 1, 2, 3, 4, 5, 6, 7, 8] [] 9 rfl rfl [ad 0, ad 100, ad 6, ad 7, ad 8, ad 9, ad 12, ad 15, ad 17] rfl rfl (ws' := modelW c ad (mtkF (va_up (mpA μ i) 1 (fun _ => 0))) r) rfl (wr := []) rfl rfl rfl rfl 0 rfl rfl rfl hl.1 rfl (Nat.le_of_ble_eq_true rfl) dX8_paper_53 (Nat.zero_le _) (Nat.zero_le _) (fun H locs hP hD hS => ?_)
        refine lv_iload_n hx hb dX8_paper_56 rfl (lv_at hl 1 rfl) ?_
        have eg2 : mtkF (va_up (mpA μ i) 1 (fun _ => 0)) = mpE μ 8 0 := by rw [← he, show 8 - i = (8 - (i + 1)) + 1 by omega, mpE, if_pos h1]; rfl
        have hP : va_P D vwCl (modelW c ad (mpE μ 8 0) r) H := by rw [← eg2]; exact hP
        have hD : va_D A (modelW c ad (mpE μ 8 0) r) := by rw [← eg2]; exact hD
        exact ret 57 ls H _ (nI i) (by rw [← hv, show 8 - i = (8 - (i + 1)) + 1 by omega, mpV, if_pos h1]) hP hS dX8_paper_57
      have hne : ¬ mpA μ i 4 0 = 0 := h1
      refine lv_aload_n hx hb dX8_paper_22 rfl (lv_at hl 0 rfl) ?_
      refine wk_callUV (As := []) (rest := []) ⟨hx, hb, hml, hown, hts⟩ (c_X8_readItem l D c ad (mpA μ i) r (hA1) (hA2) (hA3)) (cwV 0 hts gX8_paper_X8_readItem rfl rfl rfl hd_X8_readItem ⟨Nat.le_of_ble_eq_true rfl, Nat.le_of_ble_eq_true rfl⟩) hK hP hD hS hA [0, 1, 2, 3, 4, 5, 6, 7, 8] [] 9 rfl rfl [ad 0, ad 100, ad 6, ad 7, ad 8, ad 9, ad 12, ad 15, ad 17] rfl rfl (ws' := modelW c ad (miF (mpA μ i)) r) rfl (wr := []) rfl rfl rfl rfl 0 rfl rfl rfl hl.1 rfl (Nat.le_of_ble_eq_true rfl) dX8_paper_23 (Nat.zero_le _) (Nat.zero_le _) (fun H locs hP hD hS => ?_)
      refine wk_bnz (tgt := 37) hx hb dX8_paper_26 (by decide) (fun hIt => ?_) (fun hIt => ?_)
      rotate_left
      · refine lv_bipush (v := -10) hx hb dX8_paper_29 (by decide) ?_
        refine lv_aload_n hx hb dX8_paper_31 rfl (lv_at hl 0 rfl) ?_
        refine wg_X8_3 hx hb hts iX8 hown hK hP 0 rfl k3 (v := .int ((miF (mpA μ i)) 3 0)) rfl dX8_paper_32 ?_
        refine lv_isub hx hb dX8_paper_35 ?_
        have eg5 : miF (mpA μ i) = mpE μ 8 0 := by rw [← he, show 8 - i = (8 - (i + 1)) + 1 by omega, mpE, if_neg hne, if_neg hIt]
        have hP : va_P D vwCl (modelW c ad (mpE μ 8 0) r) H := by rw [← eg5]; exact hP
        have hD : va_D A (modelW c ad (mpE μ 8 0) r) := by rw [← eg5]; exact hD
        exact ret 36 ls H _ (((-10)) - ((miF (mpA μ i)) 3 0)) (by rw [← hv, show 8 - i = (8 - (i + 1)) + 1 by omega, mpV, if_neg hne, if_neg hIt]) hP hS dX8_paper_36
      have hi7 : i < 7 := Nat.lt_of_le_of_ne hi (fun e => mi_full hA3 (hA4.trans e) hIt)
      refine lv_iinc (v := nI (i + 1)) (lv' := [(1, .int (nI (i + 1))), (0, .ref (ad 0))]) hx hb dX8_paper_37 hl (k := 1) rfl (nI_inc i 1) (by decide) rfl (fun ls hl => ?_)
      refine lv_aload_n hx hb dX8_paper_40 rfl (lv_at hl 1 rfl) ?_
      refine wk_callVV (As := []) (rest := []) ⟨hx, hb, hml, hown, hts⟩ (c_X8_reads l D c ad (miF (mpA μ i)) r (mi_M hA1) (mi_A hA1 hA2)) (cwV 0 hts gX8_paper_X8_reads rfl rfl rfl hd_X8_reads ⟨Nat.le_of_ble_eq_true rfl, Nat.le_of_ble_eq_true rfl⟩) hK hP hD hS hA [0, 1, 2, 3, 4, 5, 6, 7, 8] [] 9 rfl rfl [ad 0, ad 100, ad 6, ad 7, ad 8, ad 9, ad 12, ad 15, ad 17] rfl rfl (ws' := modelW c ad (rdF (miF (mpA μ i))) r) rfl (wr := []) rfl rfl rfl rfl 0 rfl rfl rfl hl.1 rfl (Nat.le_of_ble_eq_true rfl) dX8_paper_41 (Nat.zero_le _) (Nat.zero_le _) (fun H locs hP hD hS => ?_)
      refine lv_goto (tgt := 15) hx hb dX8_paper_44 (by decide) ?_
      have eg4 : rdF (miF (mpA μ i)) = mpA μ (i + 1) := by rfl
      have hP : va_P D vwCl (modelW c ad (mpA μ (i + 1)) r) H := by rw [← eg4]; exact hP
      have hD : va_D A (modelW c ad (mpA μ (i + 1)) r) := by rw [← eg4]; exact hD
      have hl : lv_has ls 2 [(0, .ref (ad 0)), (1, .int (nI (i + 1)))] := lv_sub hl [1, 0] rfl
      exact ih15 (i + 1) (by omega) (rdF_M (mi_M hA1)) (rdF_A (mi_M hA1) (mi_A hA1 hA2)) (wfR_of (mi_R hA3 hIt).1 rfl) (((mi_R hA3 hIt).2).trans (by omega)) (by rw [← hv, show 8 - i = (8 - (i + 1)) + 1 by omega, mpV, if_neg hne, if_pos hIt]) (by rw [← he, show 8 - i = (8 - (i + 1)) + 1 by omega, mpE, if_neg hne, if_pos hIt]) (by omega) H _ hP hD hS ls hl
  have eg6 : rdF (va_up (plF μ) 2 (fun _ => 0)) = mpA μ 0 := by rfl
  have hP : va_P D vwCl (modelW c ad (mpA μ 0) r) H := by rw [← eg6]; exact hP
  have hD : va_D A (modelW c ad (mpA μ 0) r) := by rw [← eg6]; exact hD
  have hl : lv_has ls 2 [(0, .ref (ad 0)), (1, .int 0)] := lv_sub hl [1, 0] rfl
  have hl := wk_lset (y := nI 0) (lv_sub (l' := [(1, .int 0), (0, .ref (ad 0))]) hl [1, 0] rfl) (by rfl)
  have hl : lv_has ls 2 [(0, .ref (ad 0)), (1, .int (nI 0))] := lv_sub hl [1, 0] rfl
  exact lp15 _ 0 (by omega) (h0M) (h0A) (h0R) (h0N) (rfl) (rfl) (Nat.lt_succ_self _) H locs hP hD hS ls hl

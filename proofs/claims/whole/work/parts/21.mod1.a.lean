/-! ===== LastWordModel, walked: the text ===== -/
abbrev rmX8_in : Room := { frames := 0, cells := 0, slots := 0, locals := 0 }
theorem hd_X8_in : yX8_in.cls ≠ "java/lang/invoke/MethodHandle" ∧ yX8_in.cls ≠ "java/lang/invoke/VarHandle" ∧ (parseMethodDescriptor yX8_in.desc).map (fun d => d.parameters.length) = some 3 := by decide +kernel
set_option maxHeartbeats 4000000 in
set_option maxRecDepth 100000 in
theorem c_X8_in (l : Launch) (D : va_G) (c : Nat → ClassId) (v : Int32) (lo : Int32) (hi : Int32) : wk_RdI l yX8_in wsX8_in rmX8_in D (tysL c) [.long (Int32.toInt64 v), .long (Int32.toInt64 lo), .long (Int32.toInt64 hi)] ([]) (if inB v lo hi then 1 else 0) := by
  refine wk_mkR (cc := cX8_in) (maxL := 6) (rt := .boolean) (by decide) rfl (Nat.le_of_ble_eq_true rfl) wk_narZ ?_
  intro pr ev ss mm args below meth cd ls H Q hst hP hK hl ret
  obtain ⟨hx, hb, hml, hown, hts, -⟩ := hst
  have hown : ss.vm.findClass RX8 = some mm.cls := hown
  have hl : lv_has ls 6 [(0, .long (Int32.toInt64 v)), (2, .long (Int32.toInt64 lo)), (4, .long (Int32.toInt64 hi))] := hl
  refine lv_lload_n hx hb dX8_in_0 rfl (lv_at hl 0 rfl) ?_
  refine lv_lload_n hx hb dX8_in_1 rfl (lv_at hl 1 rfl) ?_
  refine W.lcmp hx hb dX8_in_2 ?_
  refine lv_if_lt (tgt := 17) hx hb dX8_in_3 (by decide) (fun h1 => ?_) (fun h1 => ?_)
  · refine lv_iconst (v := 0) hx hb dX8_in_17 (by decide) ?_
    exact ret 18 ls 0 ((if_neg (fun q => absurd (in_lo.mp h1) (Int32.not_lt.mpr q.1))).symm) dX8_in_18
  refine lv_lload_n hx hb dX8_in_6 rfl (lv_at hl 0 rfl) ?_
  refine lv_lload hx hb dX8_in_7 (lv_at hl 2 rfl) ?_
  refine W.lcmp hx hb dX8_in_9 ?_
  refine lv_if_gt (tgt := 17) hx hb dX8_in_10 (by decide) (fun h2 => ?_) (fun h2 => ?_)
  · refine lv_iconst (v := 0) hx hb dX8_in_17 (by decide) ?_
    exact ret 18 ls 0 ((if_neg (fun q => absurd (in_hi.mp h2) (Int32.not_lt.mpr q.2))).symm) dX8_in_18
  refine lv_iconst (v := 1) hx hb dX8_in_13 (by decide) ?_
  refine lv_goto (tgt := 18) hx hb dX8_in_14 (by decide) ?_
  exact ret 18 ls 1 ((if_pos ⟨Int32.not_lt.mp (fun q => h1 (in_lo.mpr q)), Int32.not_lt.mp (fun q => h2 (in_hi.mpr q))⟩).symm) dX8_in_18

abbrev rmX8_type : Room := { frames := 1, cells := 0, slots := 0, locals := 25 }
theorem hd_X8_type : yX8_type.cls = RX8 ∧ yX8_type.cls ≠ "java/lang/invoke/MethodHandle" ∧ yX8_type.cls ≠ "java/lang/invoke/VarHandle" ∧ (parseMethodDescriptor yX8_type.desc).map (fun d => d.parameters.length) = some 1 := by decide +kernel
set_option maxHeartbeats 4000000 in
set_option maxRecDepth 100000 in
theorem c_X8_type (l : Launch) (D : va_G) (c : Nat → ClassId) (ad : Nat → Nat) (μ : Nat → Nat → Int32) (r : Int64) (x2 : Int32) (hM : wfM μ) : wk_UpI l yX8_type wsX8_type rmX8_type D (tysL c) [.ref (ad 0), .int x2] (modelW c ad μ r) (modelW c ad (mtypeF μ x2) r) (mtypeV μ x2) := by
  refine wk_mkU (cc := cX8_type) (maxL := 2) (rt := .int) (by decide) rfl (Nat.le_of_ble_eq_true rfl) rfl ?_
  intro A pr ev ss mm args below meth cd ls H H0 locs Q hst hP hK hD hS hA hl ret
  obtain ⟨hx, hb, hml, hown, hts, -⟩ := hst
  have hown : ss.vm.findClass RX8 = some mm.cls := hown
  have hl : lv_has ls 2 [(0, .ref (ad 0)), (1, .int x2)] := hl
  have k1 := hts (.constantLong RX8 40 (255)) (List.mem_of_getElem? (i := 1) rfl)
  have k2 := hts (.fieldLink RX8 46 "LastWordModel" "size" "I") (List.mem_of_getElem? (i := 2) rfl)
  have k3 := hts (.fieldLink RX8 7 "LastWordModel" "text" "[I") (List.mem_of_getElem? (i := 3) rfl)
  have iX8 : ∀ w ∈ u_ws RX8 TX8 18, w ∈ wsX8_type := fun _ h => (List.mem_cons_of_mem _ (List.mem_append_right _ h))
  have hM2 := hM.2
  refine lv_iload_n hx hb dX8_type_0 rfl (lv_at hl 1 rfl) ?_
  refine lv_i2l (v := Int32.toInt64 x2) hx hb dX8_type_1 rfl ?_
  refine lv_lconst (v := 0) hx hb dX8_type_2 (by decide) ?_
  refine lv_ldc2 hx hb hown k1 dX8_type_3 ?_
  refine wk_callRS (As := [.long (Int32.toInt64 x2), .long (Int32.toInt64 0), .long (Int32.toInt64 255)]) (rest := []) ⟨hx, hb, hml, hown, hts⟩ (c_X8_in l D c x2 0 255) (va_cwS 3 hts gX8_type_X8_in rfl rfl rfl hd_X8_in ⟨Nat.le_of_ble_eq_true rfl, Nat.le_of_ble_eq_true rfl⟩) hK hP [] rfl rfl hl.1 rfl (Nat.le_of_ble_eq_true rfl) dX8_type_6 (Nat.zero_le _) (Nat.zero_le _) ?_
  refine wk_bnz (tgt := 14) hx hb dX8_type_9 (by decide) (fun h1 => ?_) (fun h1 => ?_)
  rotate_left
  · refine lv_iconst (v := -1) hx hb dX8_type_12 (by decide) ?_
    have eg5 : μ = mtypeF μ x2 := by rw [mtypeF, if_neg h1]
    have hP : va_P D vwCl (modelW c ad (mtypeF μ x2) r) H := by rw [← eg5]; exact hP
    have hD : va_D A (modelW c ad (mtypeF μ x2) r) := by rw [← eg5]; exact hD
    exact ret 13 ls H _ ((-1)) (by rw [mtypeV, if_neg h1]) hP hS dX8_type_13
  refine lv_aload_n hx hb dX8_type_14 rfl (lv_at hl 0 rfl) ?_
  refine wg_X8_1 hx hb hts iX8 hown hK hP 0 rfl k2 (v := .int (μ 1 0)) rfl dX8_type_15 ?_
  refine wk_eqi (hM.1) ?_
  refine lv_sipush (v := 200) hx hb dX8_type_18 (by decide) ?_
  refine wk_ne (tgt := 27) hx hb (lnM μ) 200 rfl rfl (by omega) (by omega) dX8_type_21 (by decide) (fun h2 => ?_) (fun h2 => ?_)
  rotate_left
  · refine lv_bipush (v := -3) hx hb dX8_type_24 (by decide) ?_
    have eg4 : μ = mtypeF μ x2 := by rw [mtypeF, if_pos h1, if_pos h2]
    have hP : va_P D vwCl (modelW c ad (mtypeF μ x2) r) H := by rw [← eg4]; exact hP
    have hD : va_D A (modelW c ad (mtypeF μ x2) r) := by rw [← eg4]; exact hD
    exact ret 26 ls H _ ((-3)) (by rw [mtypeV, if_pos h1, if_pos h2]) hP hS dX8_type_26
  refine lv_aload_n hx hb dX8_type_27 rfl (lv_at hl 0 rfl) ?_
  refine wg_X8_0 hx hb hts iX8 hown hK hP 0 rfl k3 (v := .ref (ad 100)) rfl dX8_type_28 ?_
  refine lv_aload_n hx hb dX8_type_31 rfl (lv_at hl 0 rfl) ?_
  refine wg_X8_1 hx hb hts iX8 hown hK hP 0 rfl k2 (v := .int (μ 1 0)) rfl dX8_type_32 ?_
  refine wk_eqi (hM.1) ?_
  refine lv_iload_n hx hb dX8_type_35 rfl (lv_at hl 1 rfl) ?_
  refine wk_ast hx hb hK hP hD hS 1 0 rfl rfl (lnM μ) rfl (by omega) (by decide) dX8_type_36 (ws' := modelW c ad (va_up μ 0 (upd (μ 0) (lnM μ) x2)) r) rfl (fun H locs hP hD hS => ?_)
  refine lv_aload_n hx hb dX8_type_37 rfl (lv_at hl 0 rfl) ?_
  refine lv_dup hx hb dX8_type_38 rfl ?_
  refine wg_X8_1 hx hb hts iX8 hown hK hP 0 rfl k2 (v := .int (μ 1 0)) rfl dX8_type_39 ?_
  refine wk_eqi (hM.1) ?_
  refine lv_iconst (v := 1) hx hb dX8_type_42 (by decide) ?_
  refine lv_iadd hx hb dX8_type_43 ?_
  refine wk_eqi (nI_add (lnM μ) 1) ?_
  refine wp_X8_1 hx hb hts iX8 hown hK hP hD hS 0 rfl k2 (Nat.le_of_ble_eq_true rfl) dX8_type_44 (ws' := modelW c ad (va_up (va_up μ 0 (upd (μ 0) (lnM μ) x2)) 1 (fun _ => nI ((lnM μ) + 1))) r) rfl (fun H locs hP hD hS => ?_)
  refine lv_aload_n hx hb dX8_type_47 rfl (lv_at hl 0 rfl) ?_
  refine wg_X8_1 hx hb hts iX8 hown hK hP 0 rfl k2 (v := .int (nI ((lnM μ) + 1))) rfl dX8_type_48 ?_
  have eg3 : va_up (va_up μ 0 (upd (μ 0) (lnM μ) x2)) 1 (fun _ => nI ((lnM μ) + 1)) = mtypeF μ x2 := by rw [mtypeF, if_pos h1, if_neg h2]
  have hP : va_P D vwCl (modelW c ad (mtypeF μ x2) r) H := by rw [← eg3]; exact hP
  have hD : va_D A (modelW c ad (mtypeF μ x2) r) := by rw [← eg3]; exact hD
  exact ret 51 ls H _ (nI ((lnM μ) + 1)) (by rw [mtypeV, if_pos h1, if_neg h2]) hP hS dX8_type_51

abbrev rmX8_clear : Room := { frames := 0, cells := 0, slots := 0, locals := 0 }
theorem hd_X8_clear : yX8_clear.cls = RX8 ∧ yX8_clear.cls ≠ "java/lang/invoke/MethodHandle" ∧ yX8_clear.cls ≠ "java/lang/invoke/VarHandle" ∧ (parseMethodDescriptor yX8_clear.desc).map (fun d => d.parameters.length) = some 0 := by decide +kernel
set_option maxHeartbeats 4000000 in
set_option maxRecDepth 100000 in
theorem c_X8_clear (l : Launch) (D : va_G) (c : Nat → ClassId) (ad : Nat → Nat) (μ : Nat → Nat → Int32) (r : Int64) : wk_UpI l yX8_clear wsX8_clear rmX8_clear D (tysL c) [.ref (ad 0)] (modelW c ad μ r) (modelW c ad (mclearF μ) r) (μ 1 0) := by
  refine wk_mkU (cc := cX8_clear) (maxL := 2) (rt := .int) (by decide) rfl (Nat.le_of_ble_eq_true rfl) rfl ?_
  intro A pr ev ss mm args below meth cd ls H H0 locs Q hst hP hK hD hS hA hl ret
  obtain ⟨hx, hb, hml, hown, hts, -⟩ := hst
  have hown : ss.vm.findClass RX8 = some mm.cls := hown
  have hl : lv_has ls 2 [(0, .ref (ad 0))] := hl
  have k1 := hts (.fieldLink RX8 46 "LastWordModel" "size" "I") (List.mem_of_getElem? (i := 1) rfl)
  have iX8 : ∀ w ∈ u_ws RX8 TX8 18, w ∈ wsX8_clear := fun _ h => (List.mem_cons_of_mem _ (List.mem_append_right _ h))
  refine lv_aload_n hx hb dX8_clear_0 rfl (lv_at hl 0 rfl) ?_
  refine wg_X8_1 hx hb hts iX8 hown hK hP 0 rfl k1 (v := .int (μ 1 0)) rfl dX8_clear_1 ?_
  refine lv_istore_n (lv' := [(1, .int (μ 1 0)), (0, .ref (ad 0))]) hx hb dX8_clear_4 rfl hl (by decide) rfl (fun ls hl => ?_)
  refine lv_aload_n hx hb dX8_clear_5 rfl (lv_at hl 1 rfl) ?_
  refine lv_iconst (v := 0) hx hb dX8_clear_6 (by decide) ?_
  refine wp_X8_1 hx hb hts iX8 hown hK hP hD hS 0 rfl k1 (Nat.le_of_ble_eq_true rfl) dX8_clear_7 (ws' := modelW c ad (va_up μ 1 (fun _ => 0)) r) rfl (fun H locs hP hD hS => ?_)
  refine lv_iload_n hx hb dX8_clear_10 rfl (lv_at hl 0 rfl) ?_
  exact ret 11 ls H _ (μ 1 0) (by rfl) hP hS dX8_clear_11

abbrev rmX8_isFigure : Room := { frames := 1, cells := 0, slots := 0, locals := 25 }
theorem hd_X8_isFigure : yX8_isFigure.cls ≠ "java/lang/invoke/MethodHandle" ∧ yX8_isFigure.cls ≠ "java/lang/invoke/VarHandle" ∧ (parseMethodDescriptor yX8_isFigure.desc).map (fun d => d.parameters.length) = some 1 := by decide +kernel
set_option maxHeartbeats 4000000 in
set_option maxRecDepth 100000 in
theorem c_X8_isFigure (l : Launch) (D : va_G) (c : Nat → ClassId) (x2 : Int32) : wk_RdI l yX8_isFigure wsX8_isFigure rmX8_isFigure D (tysL c) [.int x2] ([]) (if isDg x2 then 1 else 0) := by
  refine wk_mkR (cc := cX8_isFigure) (maxL := 1) (rt := .boolean) (by decide) rfl (Nat.le_of_ble_eq_true rfl) wk_narZ ?_
  intro pr ev ss mm args below meth cd ls H Q hst hP hK hl ret
  obtain ⟨hx, hb, hml, hown, hts, -⟩ := hst
  have hown : ss.vm.findClass RX8 = some mm.cls := hown
  have hl : lv_has ls 1 [(0, .int x2)] := hl
  have k1 := hts (.constantLong RX8 50 (48)) (List.mem_of_getElem? (i := 1) rfl)
  have k2 := hts (.constantLong RX8 52 (57)) (List.mem_of_getElem? (i := 2) rfl)
  refine lv_iload_n hx hb dX8_isFigure_0 rfl (lv_at hl 0 rfl) ?_
  refine lv_i2l (v := Int32.toInt64 x2) hx hb dX8_isFigure_1 rfl ?_
  refine lv_ldc2 hx hb hown k1 dX8_isFigure_2 ?_
  refine lv_ldc2 hx hb hown k2 dX8_isFigure_5 ?_
  refine wk_callRS (As := [.long (Int32.toInt64 x2), .long (Int32.toInt64 48), .long (Int32.toInt64 57)]) (rest := []) ⟨hx, hb, hml, hown, hts⟩ (c_X8_in l D c x2 48 57) (va_cwS 3 hts gX8_isFigure_X8_in rfl rfl rfl hd_X8_in ⟨Nat.le_of_ble_eq_true rfl, Nat.le_of_ble_eq_true rfl⟩) hK hP [] rfl rfl hl.1 rfl (Nat.le_of_ble_eq_true rfl) dX8_isFigure_8 (Nat.zero_le _) (Nat.zero_le _) ?_
  exact ret 11 ls (if inB x2 48 57 then 1 else 0) (by rfl) dX8_isFigure_11

abbrev rmX8_reads : Room := { frames := 2, cells := 0, slots := 0, locals := 45 }
theorem hd_X8_reads : yX8_reads.cls = RX8 ∧ yX8_reads.cls ≠ "java/lang/invoke/MethodHandle" ∧ yX8_reads.cls ≠ "java/lang/invoke/VarHandle" ∧ (parseMethodDescriptor yX8_reads.desc).map (fun d => d.parameters.length) = some 0 := by decide +kernel
set_option maxHeartbeats 4000000 in
set_option maxRecDepth 100000 in
theorem c_X8_reads (l : Launch) (D : va_G) (c : Nat → ClassId) (ad : Nat → Nat) (μ : Nat → Nat → Int32) (r : Int64) (hM : wfM μ) (hMA : wfMA μ) : wk_UpV l yX8_reads wsX8_reads rmX8_reads D (tysL c) [.ref (ad 0)] (modelW c ad μ r) (modelW c ad (rdF μ) r) := by
  refine wk_mkV (cc := cX8_reads) (maxL := 1) (by decide) rfl (Nat.le_of_ble_eq_true rfl) ?_
  intro A pr ev ss mm args below meth cd ls H H0 locs Q hst hP hK hD hS hA hl ret
  obtain ⟨hx, hb, hml, hown, hts, -⟩ := hst
  have hown : ss.vm.findClass RX8 = some mm.cls := hown
  have hl : lv_has ls 1 [(0, .ref (ad 0))] := hl
  have k1 := hts (.fieldLink RX8 54 "LastWordModel" "at" "I") (List.mem_of_getElem? (i := 1) rfl)
  have k4 := hts (.fieldLink RX8 57 "LastWordModel" "begin" "I") (List.mem_of_getElem? (i := 4) rfl)
  have k5 := hts (.fieldLink RX8 60 "LastWordModel" "token" "I") (List.mem_of_getElem? (i := 5) rfl)
  have k2 := hts (.fieldLink RX8 46 "LastWordModel" "size" "I") (List.mem_of_getElem? (i := 2) rfl)
  have k3 := hts (.fieldLink RX8 7 "LastWordModel" "text" "[I") (List.mem_of_getElem? (i := 3) rfl)
  have k6 := hts (.fieldLink RX8 67 "LastWordModel" "told" "I") (List.mem_of_getElem? (i := 6) rfl)
  have iX8 : ∀ w ∈ u_ws RX8 TX8 18, w ∈ wsX8_reads := fun _ h => (List.mem_cons_of_mem _ (List.mem_append_right _ h))
  have hM2 := hM.2
  have hsl := (rdS_le hMA).2
  have jn38 : ∀ (p : Nat), (rdS μ = p) → ∀ (H : Heap) (locs : List Loc), va_P D vwCl (modelW c ad (va_up μ 2 (fun _ => nI p)) r) H → va_D A (modelW c ad (va_up μ 2 (fun _ => nI p)) r) → va_S A H0 H locs → ∀ ls : Array Slot, lv_has ls 1 [(0, .ref (ad 0))] → W pr l ev rmX8_reads ss mm args below meth cd H locs 0 0 Q (F0 mm 38 ls []) := by
    intro p hs H locs hP hD hS ls hl
    refine lv_aload_n hx hb dX8_reads_38 rfl (lv_at hl 0 rfl) ?_
    refine lv_aload_n hx hb dX8_reads_39 rfl (lv_at hl 0 rfl) ?_
    refine wg_X8_2 hx hb hts iX8 hown hK hP 0 rfl k1 (v := .int (nI p)) rfl dX8_reads_40 ?_
    refine wp_X8_3 hx hb hts iX8 hown hK hP hD hS 0 rfl k4 (Nat.le_of_ble_eq_true rfl) dX8_reads_43 (ws' := modelW c ad (va_up (va_up μ 2 (fun _ => nI p)) 3 (fun _ => nI p)) r) rfl (fun H locs hP hD hS => ?_)
    refine lv_aload_n hx hb dX8_reads_46 rfl (lv_at hl 0 rfl) ?_
    refine lv_iconst (v := 0) hx hb dX8_reads_47 (by decide) ?_
    refine wp_X8_4 hx hb hts iX8 hown hK hP hD hS 0 rfl k5 (Nat.le_of_ble_eq_true rfl) dX8_reads_48 (ws' := modelW c ad (va_up (va_up (va_up μ 2 (fun _ => nI p)) 3 (fun _ => nI p)) 4 (fun _ => 0)) r) rfl (fun H locs hP hD hS => ?_)
    refine lv_aload_n hx hb dX8_reads_51 rfl (lv_at hl 0 rfl) ?_
    refine wg_X8_2 hx hb hts iX8 hown hK hP 0 rfl k1 (v := .int (nI p)) rfl dX8_reads_52 ?_
    refine lv_aload_n hx hb dX8_reads_55 rfl (lv_at hl 0 rfl) ?_
    refine wg_X8_1 hx hb hts iX8 hown hK hP 0 rfl k2 (v := .int (μ 1 0)) rfl dX8_reads_56 ?_
    refine wk_eqi (hM.1) ?_
    refine wk_ge (tgt := 209) hx hb p (lnM μ) rfl rfl (by omega) (by omega) dX8_reads_59 (by decide) (fun h1 => ?_) (fun h1 => ?_)
    · refine lv_aload_n hx hb dX8_reads_209 rfl (lv_at hl 0 rfl) ?_
      refine wg_X8_2 hx hb hts iX8 hown hK hP 0 rfl k1 (v := .int (nI p)) rfl dX8_reads_210 ?_
      refine lv_aload_n hx hb dX8_reads_213 rfl (lv_at hl 0 rfl) ?_
      refine wg_X8_1 hx hb hts iX8 hown hK hP 0 rfl k2 (v := .int (μ 1 0)) rfl dX8_reads_214 ?_
      refine wk_eqi (hM.1) ?_
      refine wk_ge (tgt := 283) hx hb p (lnM μ) rfl rfl (by omega) (by omega) dX8_reads_217 (by decide) (fun h2 => ?_) (fun h2 => ?_)
      rotate_left
      · exfalso; omega
      have eM3 : rdF μ = va_up (va_up (va_up (va_up μ 2 (fun _ => nI p)) 3 (fun _ => nI p)) 4 (fun _ => 0)) 5 (fun _ => μ 5 0) := by rw [rdF, rdP, rdK, rdV, hs, if_pos (show lnM μ ≤ p by omega), if_pos (show lnM μ ≤ p by omega), if_pos (show lnM μ ≤ p by omega)]
      have hP : va_P D vwCl (modelW c ad (rdF μ) r) H := by rw [eM3]; exact hP
      have hD : va_D A (modelW c ad (rdF μ) r) := wk_D_ad hD [ad 0, ad 100, ad 6, ad 7, ad 8, ad 9, ad 12, ad 15, ad 17] rfl rfl
      exact ret 283 ls H _ hP hS dX8_reads_283
    refine lv_aload_n hx hb dX8_reads_62 rfl (lv_at hl 0 rfl) ?_
    refine wg_X8_0 hx hb hts iX8 hown hK hP 0 rfl k3 (v := .ref (ad 100)) rfl dX8_reads_63 ?_
    refine lv_aload_n hx hb dX8_reads_66 rfl (lv_at hl 0 rfl) ?_
    refine wg_X8_2 hx hb hts iX8 hown hK hP 0 rfl k1 (v := .int (nI p)) rfl dX8_reads_67 ?_
    refine wk_ald (f := μ 0) hx hb hK hP 1 0 rfl rfl p rfl (by omega) (by decide) dX8_reads_70 ?_
    refine wk_callRS (As := [.int (μ 0 p)]) (rest := []) ⟨hx, hb, hml, hown, hts⟩ (c_X8_isFigure l D c (μ 0 p)) (va_cwS 1 hts gX8_reads_X8_isFigure rfl rfl rfl hd_X8_isFigure ⟨Nat.le_of_ble_eq_true rfl, Nat.le_of_ble_eq_true rfl⟩) hK hP [] rfl rfl hl.1 rfl (Nat.le_of_ble_eq_true rfl) dX8_reads_71 (Nat.zero_le _) (Nat.zero_le _) ?_
    refine wk_bz (tgt := 209) hx hb dX8_reads_74 (by decide) (fun hdg => ?_) (fun hdg => ?_)
    rotate_left
    · refine lv_aload_n hx hb dX8_reads_77 rfl (lv_at hl 0 rfl) ?_
      refine lv_iconst (v := 0) hx hb dX8_reads_78 (by decide) ?_
      refine wp_X8_5 hx hb hts iX8 hown hK hP hD hS 0 rfl k6 (Nat.le_of_ble_eq_true rfl) dX8_reads_79 (ws' := modelW c ad (va_up (va_up (va_up (va_up μ 2 (fun _ => nI p)) 3 (fun _ => nI p)) 4 (fun _ => 0)) 5 (fun _ => 0)) r) rfl (fun H locs hP hD hS => ?_)
      have jn161 : ∀ (p2 : Nat) (v : Int32), (rdD μ = (p2, v)) → ∀ (H : Heap) (locs : List Loc), va_P D vwCl (modelW c ad (va_up (va_up (va_up (va_up μ 2 (fun _ => nI p2)) 3 (fun _ => nI p)) 4 (fun _ => 0)) 5 (fun _ => v)) r) H → va_D A (modelW c ad (va_up (va_up (va_up (va_up μ 2 (fun _ => nI p2)) 3 (fun _ => nI p)) 4 (fun _ => 0)) 5 (fun _ => v)) r) → va_S A H0 H locs → ∀ ls : Array Slot, lv_has ls 1 [(0, .ref (ad 0))] → W pr l ev rmX8_reads ss mm args below meth cd H locs 0 0 Q (F0 mm 161 ls []) := by
        intro p2 v hd H locs hP hD hS ls hl
        refine lv_aload_n hx hb dX8_reads_161 rfl (lv_at hl 0 rfl) ?_
        refine lv_aload_n hx hb dX8_reads_162 rfl (lv_at hl 0 rfl) ?_
        refine wg_X8_5 hx hb hts iX8 hown hK hP 0 rfl k6 (v := .int v) rfl dX8_reads_163 ?_
        refine lv_bipush (v := 20) hx hb dX8_reads_166 (by decide) ?_
        refine lv_icmp_gt (tgt := 198) hx hb dX8_reads_168 (by decide) (fun h13 => ?_) (fun h13 => ?_)
        · refine lv_iconst (v := 4) hx hb dX8_reads_198 (by decide) ?_
          refine lv_goto (tgt := 203) hx hb dX8_reads_199 (by decide) ?_
          refine wp_X8_4 hx hb hts iX8 hown hK hP hD hS 0 rfl k5 (Nat.le_of_ble_eq_true rfl) dX8_reads_203 (ws' := modelW c ad (va_up (va_up (va_up (va_up μ 2 (fun _ => nI p2)) 3 (fun _ => nI p)) 4 (fun _ => 4)) 5 (fun _ => v)) r) rfl (fun H locs hP hD hS => ?_)
          refine lv_goto (tgt := 283) hx hb dX8_reads_206 (by decide) ?_
          have eM14 : rdF μ = va_up (va_up (va_up (va_up μ 2 (fun _ => nI p2)) 3 (fun _ => nI p)) 4 (fun _ => 4)) 5 (fun _ => v) := by rw [rdF, rdP, rdK, rdV, hs, hd, if_neg (show ¬ lnM μ ≤ p by omega), if_neg (show ¬ lnM μ ≤ p by omega), if_neg (show ¬ lnM μ ≤ p by omega), if_pos hdg, if_pos hdg, if_pos hdg]; simp [h13]
          have hP : va_P D vwCl (modelW c ad (rdF μ) r) H := by rw [eM14]; exact hP
          have hD : va_D A (modelW c ad (rdF μ) r) := wk_D_ad hD [ad 0, ad 100, ad 6, ad 7, ad 8, ad 9, ad 12, ad 15, ad 17] rfl rfl
          exact ret 283 ls H _ hP hS dX8_reads_283
        refine lv_aload_n hx hb dX8_reads_171 rfl (lv_at hl 0 rfl) ?_
        refine wg_X8_2 hx hb hts iX8 hown hK hP 0 rfl k1 (v := .int (nI p2)) rfl dX8_reads_172 ?_
        refine lv_aload_n hx hb dX8_reads_175 rfl (lv_at hl 0 rfl) ?_
        refine wg_X8_3 hx hb hts iX8 hown hK hP 0 rfl k4 (v := .int (nI p)) rfl dX8_reads_176 ?_
        refine lv_isub hx hb dX8_reads_179 ?_
        refine lv_iconst (v := 1) hx hb dX8_reads_180 (by decide) ?_
        refine lv_icmp_le (tgt := 202) hx hb dX8_reads_181 (by decide) (fun h15 => ?_) (fun h15 => ?_)
        · refine lv_iconst (v := 2) hx hb dX8_reads_202 (by decide) ?_
          refine wp_X8_4 hx hb hts iX8 hown hK hP hD hS 0 rfl k5 (Nat.le_of_ble_eq_true rfl) dX8_reads_203 (ws' := modelW c ad (va_up (va_up (va_up (va_up μ 2 (fun _ => nI p2)) 3 (fun _ => nI p)) 4 (fun _ => 2)) 5 (fun _ => v)) r) rfl (fun H locs hP hD hS => ?_)
          refine lv_goto (tgt := 283) hx hb dX8_reads_206 (by decide) ?_
          have eM16 : rdF μ = va_up (va_up (va_up (va_up μ 2 (fun _ => nI p2)) 3 (fun _ => nI p)) 4 (fun _ => 2)) 5 (fun _ => v) := by rw [rdF, rdP, rdK, rdV, hs, hd, if_neg (show ¬ lnM μ ≤ p by omega), if_neg (show ¬ lnM μ ≤ p by omega), if_neg (show ¬ lnM μ ≤ p by omega), if_pos hdg, if_pos hdg, if_pos hdg]; simp [h13, h15]
          have hP : va_P D vwCl (modelW c ad (rdF μ) r) H := by rw [eM16]; exact hP
          have hD : va_D A (modelW c ad (rdF μ) r) := wk_D_ad hD [ad 0, ad 100, ad 6, ad 7, ad 8, ad 9, ad 12, ad 15, ad 17] rfl rfl
          exact ret 283 ls H _ hP hS dX8_reads_283
        refine lv_aload_n hx hb dX8_reads_184 rfl (lv_at hl 0 rfl) ?_
        refine wg_X8_0 hx hb hts iX8 hown hK hP 0 rfl k3 (v := .ref (ad 100)) rfl dX8_reads_185 ?_
        refine lv_aload_n hx hb dX8_reads_188 rfl (lv_at hl 0 rfl) ?_
        refine wg_X8_3 hx hb hts iX8 hown hK hP 0 rfl k4 (v := .int (nI p)) rfl dX8_reads_189 ?_
        refine wk_ald (f := μ 0) hx hb hK hP 1 0 rfl rfl p rfl (by omega) (by decide) dX8_reads_192 ?_
        refine lv_bipush (v := 48) hx hb dX8_reads_193 (by decide) ?_
        refine lv_icmp_ne (tgt := 202) hx hb dX8_reads_195 (by decide) (fun h17 => ?_) (fun h17 => ?_)
        · refine lv_iconst (v := 2) hx hb dX8_reads_202 (by decide) ?_
          refine wp_X8_4 hx hb hts iX8 hown hK hP hD hS 0 rfl k5 (Nat.le_of_ble_eq_true rfl) dX8_reads_203 (ws' := modelW c ad (va_up (va_up (va_up (va_up μ 2 (fun _ => nI p2)) 3 (fun _ => nI p)) 4 (fun _ => 2)) 5 (fun _ => v)) r) rfl (fun H locs hP hD hS => ?_)
          refine lv_goto (tgt := 283) hx hb dX8_reads_206 (by decide) ?_
          have eM18 : rdF μ = va_up (va_up (va_up (va_up μ 2 (fun _ => nI p2)) 3 (fun _ => nI p)) 4 (fun _ => 2)) 5 (fun _ => v) := by rw [rdF, rdP, rdK, rdV, hs, hd, if_neg (show ¬ lnM μ ≤ p by omega), if_neg (show ¬ lnM μ ≤ p by omega), if_neg (show ¬ lnM μ ≤ p by omega), if_pos hdg, if_pos hdg, if_pos hdg]; simp [h13, h15, h17]
          have hP : va_P D vwCl (modelW c ad (rdF μ) r) H := by rw [eM18]; exact hP
          have hD : va_D A (modelW c ad (rdF μ) r) := wk_D_ad hD [ad 0, ad 100, ad 6, ad 7, ad 8, ad 9, ad 12, ad 15, ad 17] rfl rfl
          exact ret 283 ls H _ hP hS dX8_reads_283
        refine lv_iconst (v := 4) hx hb dX8_reads_198 (by decide) ?_
        refine lv_goto (tgt := 203) hx hb dX8_reads_199 (by decide) ?_
        refine wp_X8_4 hx hb hts iX8 hown hK hP hD hS 0 rfl k5 (Nat.le_of_ble_eq_true rfl) dX8_reads_203 (ws' := modelW c ad (va_up (va_up (va_up (va_up μ 2 (fun _ => nI p2)) 3 (fun _ => nI p)) 4 (fun _ => 4)) 5 (fun _ => v)) r) rfl (fun H locs hP hD hS => ?_)
        refine lv_goto (tgt := 283) hx hb dX8_reads_206 (by decide) ?_
        have eM19 : rdF μ = va_up (va_up (va_up (va_up μ 2 (fun _ => nI p2)) 3 (fun _ => nI p)) 4 (fun _ => 4)) 5 (fun _ => v) := by rw [rdF, rdP, rdK, rdV, hs, hd, if_neg (show ¬ lnM μ ≤ p by omega), if_neg (show ¬ lnM μ ≤ p by omega), if_neg (show ¬ lnM μ ≤ p by omega), if_pos hdg, if_pos hdg, if_pos hdg]; simp [h13, h15, h17]
        have hP : va_P D vwCl (modelW c ad (rdF μ) r) H := by rw [eM19]; exact hP
        have hD : va_D A (modelW c ad (rdF μ) r) := wk_D_ad hD [ad 0, ad 100, ad 6, ad 7, ad 8, ad 9, ad 12, ad 15, ad 17] rfl rfl
        exact ret 283 ls H _ hP hS dX8_reads_283
      have lp82 : ∀ (n : Nat) (p2 : Nat) (v : Int32), (p2 ≤ lnM μ) → (dgL (μ 0) (lnM μ - p2) p2 v = rdD μ) → lnM μ - p2 < n → ∀ (H : Heap) (locs : List Loc), va_P D vwCl (modelW c ad (va_up (va_up (va_up (va_up μ 2 (fun _ => nI p2)) 3 (fun _ => nI p)) 4 (fun _ => 0)) 5 (fun _ => v)) r) H → va_D A (modelW c ad (va_up (va_up (va_up (va_up μ 2 (fun _ => nI p2)) 3 (fun _ => nI p)) 4 (fun _ => 0)) 5 (fun _ => v)) r) → va_S A H0 H locs → ∀ ls : Array Slot, lv_has ls 1 [(0, .ref (ad 0))] → W pr l ev rmX8_reads ss mm args below meth cd H locs 0 0 Q (F0 mm 82 ls []) := by
        intro n
        induction n with
        | zero => intro p2 v hi2 hv2 hn; exact absurd hn (Nat.not_lt_zero _)
        | succ n ih82 =>
          intro p2 v hi2 hv2 hn H locs hP hD hS ls hl
          refine lv_aload_n hx hb dX8_reads_82 rfl (lv_at hl 0 rfl) ?_
          refine wg_X8_2 hx hb hts iX8 hown hK hP 0 rfl k1 (v := .int (nI p2)) rfl dX8_reads_83 ?_
          refine lv_aload_n hx hb dX8_reads_86 rfl (lv_at hl 0 rfl) ?_
          refine wg_X8_1 hx hb hts iX8 hown hK hP 0 rfl k2 (v := .int (μ 1 0)) rfl dX8_reads_87 ?_
          refine wk_eqi (hM.1) ?_
          refine wk_ge (tgt := 161) hx hb p2 (lnM μ) rfl rfl (by omega) (by omega) dX8_reads_90 (by decide) (fun h20 => ?_) (fun h20 => ?_)
          · have hd : rdD μ = (p2, v) := by rw [← hv2, show lnM μ - p2 = 0 by omega]; rfl
            have hl : lv_has ls 1 [(0, .ref (ad 0))] := lv_sub hl [0] rfl
            exact jn161 p2 v hd H _ hP hD hS ls hl
          refine lv_aload_n hx hb dX8_reads_93 rfl (lv_at hl 0 rfl) ?_
          refine wg_X8_0 hx hb hts iX8 hown hK hP 0 rfl k3 (v := .ref (ad 100)) rfl dX8_reads_94 ?_
          refine lv_aload_n hx hb dX8_reads_97 rfl (lv_at hl 0 rfl) ?_
          refine wg_X8_2 hx hb hts iX8 hown hK hP 0 rfl k1 (v := .int (nI p2)) rfl dX8_reads_98 ?_
          refine wk_ald (f := μ 0) hx hb hK hP 1 0 rfl rfl p2 rfl (by omega) (by decide) dX8_reads_101 ?_
          refine wk_callRS (As := [.int (μ 0 p2)]) (rest := []) ⟨hx, hb, hml, hown, hts⟩ (c_X8_isFigure l D c (μ 0 p2)) (va_cwS 1 hts gX8_reads_X8_isFigure rfl rfl rfl hd_X8_isFigure ⟨Nat.le_of_ble_eq_true rfl, Nat.le_of_ble_eq_true rfl⟩) hK hP [] rfl rfl hl.1 rfl (Nat.le_of_ble_eq_true rfl) dX8_reads_102 (Nat.zero_le _) (Nat.zero_le _) ?_
          refine wk_bz (tgt := 161) hx hb dX8_reads_105 (by decide) (fun hF => ?_) (fun hF => ?_)
          · have hd : rdD μ = (p2, v) := by rw [← hv2, show lnM μ - p2 = (lnM μ - (p2 + 1)) + 1 by omega, dgL, if_neg hF]
            have hl : lv_has ls 1 [(0, .ref (ad 0))] := lv_sub hl [0] rfl
            exact jn161 p2 v hd H _ hP hD hS ls hl
          refine lv_aload_n hx hb dX8_reads_108 rfl (lv_at hl 0 rfl) ?_
          refine lv_aload_n hx hb dX8_reads_109 rfl (lv_at hl 0 rfl) ?_
          refine wg_X8_5 hx hb hts iX8 hown hK hP 0 rfl k6 (v := .int v) rfl dX8_reads_110 ?_
          refine lv_bipush (v := 20) hx hb dX8_reads_113 (by decide) ?_
          refine lv_icmp_le (tgt := 125) hx hb dX8_reads_115 (by decide) (fun h22 => ?_) (fun h22 => ?_)
          rotate_left
          · refine lv_aload_n hx hb dX8_reads_118 rfl (lv_at hl 0 rfl) ?_
            refine wg_X8_5 hx hb hts iX8 hown hK hP 0 rfl k6 (v := .int v) rfl dX8_reads_119 ?_
            refine lv_goto (tgt := 145) hx hb dX8_reads_122 (by decide) ?_
            refine wp_X8_5 hx hb hts iX8 hown hK hP hD hS 0 rfl k6 (Nat.le_of_ble_eq_true rfl) dX8_reads_145 (ws' := modelW c ad (va_up (va_up (va_up (va_up μ 2 (fun _ => nI p2)) 3 (fun _ => nI p)) 4 (fun _ => 0)) 5 (fun _ => v)) r) rfl (fun H locs hP hD hS => ?_)
            refine lv_aload_n hx hb dX8_reads_148 rfl (lv_at hl 0 rfl) ?_
            refine lv_dup hx hb dX8_reads_149 rfl ?_
            refine wg_X8_2 hx hb hts iX8 hown hK hP 0 rfl k1 (v := .int (nI p2)) rfl dX8_reads_150 ?_
            refine lv_iconst (v := 1) hx hb dX8_reads_153 (by decide) ?_
            refine lv_iadd hx hb dX8_reads_154 ?_
            refine wk_eqi (nI_add p2 1) ?_
            refine wp_X8_2 hx hb hts iX8 hown hK hP hD hS 0 rfl k1 (Nat.le_of_ble_eq_true rfl) dX8_reads_155 (ws' := modelW c ad (va_up (va_up (va_up (va_up μ 2 (fun _ => nI (p2 + 1))) 3 (fun _ => nI p)) 4 (fun _ => 0)) 5 (fun _ => v)) r) rfl (fun H locs hP hD hS => ?_)
            refine lv_goto (tgt := 82) hx hb dX8_reads_158 (by decide) ?_
            have eg24 : va_up (va_up (va_up (va_up μ 2 (fun _ => nI (p2 + 1))) 3 (fun _ => nI p)) 4 (fun _ => 0)) 5 (fun _ => v) = va_up (va_up (va_up (va_up μ 2 (fun _ => nI (p2 + 1))) 3 (fun _ => nI p)) 4 (fun _ => 0)) 5 (fun _ => (if v ≤ 20 then v * 10 + μ 0 p2 - 48 else v)) := by first | rfl | rw [if_neg h22] | rw [if_pos h22, Int32.mul_comm v 10]
            have hP : va_P D vwCl (modelW c ad (va_up (va_up (va_up (va_up μ 2 (fun _ => nI (p2 + 1))) 3 (fun _ => nI p)) 4 (fun _ => 0)) 5 (fun _ => (if v ≤ 20 then v * 10 + μ 0 p2 - 48 else v))) r) H := by rw [← eg24]; exact hP
            have hD : va_D A (modelW c ad (va_up (va_up (va_up (va_up μ 2 (fun _ => nI (p2 + 1))) 3 (fun _ => nI p)) 4 (fun _ => 0)) 5 (fun _ => (if v ≤ 20 then v * 10 + μ 0 p2 - 48 else v))) r) := by rw [← eg24]; exact hD
            have hl : lv_has ls 1 [(0, .ref (ad 0))] := lv_sub hl [0] rfl
            exact ih82 (p2 + 1) (if v ≤ 20 then v * 10 + μ 0 p2 - 48 else v) (by omega) (by rw [← hv2, show lnM μ - p2 = (lnM μ - (p2 + 1)) + 1 by omega, dgL, if_pos hF]) (by omega) H _ hP hD hS ls hl
          refine lv_bipush (v := 10) hx hb dX8_reads_125 (by decide) ?_
          refine lv_aload_n hx hb dX8_reads_127 rfl (lv_at hl 0 rfl) ?_
          refine wg_X8_5 hx hb hts iX8 hown hK hP 0 rfl k6 (v := .int v) rfl dX8_reads_128 ?_
          refine lv_imul hx hb dX8_reads_131 ?_
          refine lv_aload_n hx hb dX8_reads_132 rfl (lv_at hl 0 rfl) ?_
          refine wg_X8_0 hx hb hts iX8 hown hK hP 0 rfl k3 (v := .ref (ad 100)) rfl dX8_reads_133 ?_
          refine lv_aload_n hx hb dX8_reads_136 rfl (lv_at hl 0 rfl) ?_
          refine wg_X8_2 hx hb hts iX8 hown hK hP 0 rfl k1 (v := .int (nI p2)) rfl dX8_reads_137 ?_
          refine wk_ald (f := μ 0) hx hb hK hP 1 0 rfl rfl p2 rfl (by omega) (by decide) dX8_reads_140 ?_
          refine lv_iadd hx hb dX8_reads_141 ?_
          refine lv_bipush (v := 48) hx hb dX8_reads_142 (by decide) ?_
          refine lv_isub hx hb dX8_reads_144 ?_
          refine wp_X8_5 hx hb hts iX8 hown hK hP hD hS 0 rfl k6 (Nat.le_of_ble_eq_true rfl) dX8_reads_145 (ws' := modelW c ad (va_up (va_up (va_up (va_up μ 2 (fun _ => nI p2)) 3 (fun _ => nI p)) 4 (fun _ => 0)) 5 (fun _ => ((10 * v) + (μ 0 p2)) - 48)) r) rfl (fun H locs hP hD hS => ?_)
          refine lv_aload_n hx hb dX8_reads_148 rfl (lv_at hl 0 rfl) ?_
          refine lv_dup hx hb dX8_reads_149 rfl ?_
          refine wg_X8_2 hx hb hts iX8 hown hK hP 0 rfl k1 (v := .int (nI p2)) rfl dX8_reads_150 ?_
          refine lv_iconst (v := 1) hx hb dX8_reads_153 (by decide) ?_
          refine lv_iadd hx hb dX8_reads_154 ?_
          refine wk_eqi (nI_add p2 1) ?_
          refine wp_X8_2 hx hb hts iX8 hown hK hP hD hS 0 rfl k1 (Nat.le_of_ble_eq_true rfl) dX8_reads_155 (ws' := modelW c ad (va_up (va_up (va_up (va_up μ 2 (fun _ => nI (p2 + 1))) 3 (fun _ => nI p)) 4 (fun _ => 0)) 5 (fun _ => ((10 * v) + (μ 0 p2)) - 48)) r) rfl (fun H locs hP hD hS => ?_)
          refine lv_goto (tgt := 82) hx hb dX8_reads_158 (by decide) ?_
          have eg23 : va_up (va_up (va_up (va_up μ 2 (fun _ => nI (p2 + 1))) 3 (fun _ => nI p)) 4 (fun _ => 0)) 5 (fun _ => ((10 * v) + (μ 0 p2)) - 48) = va_up (va_up (va_up (va_up μ 2 (fun _ => nI (p2 + 1))) 3 (fun _ => nI p)) 4 (fun _ => 0)) 5 (fun _ => (if v ≤ 20 then v * 10 + μ 0 p2 - 48 else v)) := by first | rfl | rw [if_neg h22] | rw [if_pos h22, Int32.mul_comm v 10]
          have hP : va_P D vwCl (modelW c ad (va_up (va_up (va_up (va_up μ 2 (fun _ => nI (p2 + 1))) 3 (fun _ => nI p)) 4 (fun _ => 0)) 5 (fun _ => (if v ≤ 20 then v * 10 + μ 0 p2 - 48 else v))) r) H := by rw [← eg23]; exact hP
          have hD : va_D A (modelW c ad (va_up (va_up (va_up (va_up μ 2 (fun _ => nI (p2 + 1))) 3 (fun _ => nI p)) 4 (fun _ => 0)) 5 (fun _ => (if v ≤ 20 then v * 10 + μ 0 p2 - 48 else v))) r) := by rw [← eg23]; exact hD
          have hl : lv_has ls 1 [(0, .ref (ad 0))] := lv_sub hl [0] rfl
          exact ih82 (p2 + 1) (if v ≤ 20 then v * 10 + μ 0 p2 - 48 else v) (by omega) (by rw [← hv2, show lnM μ - p2 = (lnM μ - (p2 + 1)) + 1 by omega, dgL, if_pos hF]) (by omega) H _ hP hD hS ls hl
      have hl : lv_has ls 1 [(0, .ref (ad 0))] := lv_sub hl [0] rfl
      exact lp82 _ p 0 (by omega) (by rw [rdD, hs]) (Nat.lt_succ_self _) H locs hP hD hS ls hl
    refine lv_aload_n hx hb dX8_reads_209 rfl (lv_at hl 0 rfl) ?_
    refine wg_X8_2 hx hb hts iX8 hown hK hP 0 rfl k1 (v := .int (nI p)) rfl dX8_reads_210 ?_
    refine lv_aload_n hx hb dX8_reads_213 rfl (lv_at hl 0 rfl) ?_
    refine wg_X8_1 hx hb hts iX8 hown hK hP 0 rfl k2 (v := .int (μ 1 0)) rfl dX8_reads_214 ?_
    refine wk_eqi (hM.1) ?_
    refine wk_ge (tgt := 283) hx hb p (lnM μ) rfl rfl (by omega) (by omega) dX8_reads_217 (by decide) (fun h5 => ?_) (fun h5 => ?_)
    · exfalso; omega
    refine lv_aload_n hx hb dX8_reads_220 rfl (lv_at hl 0 rfl) ?_
    refine lv_aload_n hx hb dX8_reads_221 rfl (lv_at hl 0 rfl) ?_
    refine wg_X8_0 hx hb hts iX8 hown hK hP 0 rfl k3 (v := .ref (ad 100)) rfl dX8_reads_222 ?_
    refine lv_aload_n hx hb dX8_reads_225 rfl (lv_at hl 0 rfl) ?_
    refine wg_X8_2 hx hb hts iX8 hown hK hP 0 rfl k1 (v := .int (nI p)) rfl dX8_reads_226 ?_
    refine wk_ald (f := μ 0) hx hb hK hP 1 0 rfl rfl p rfl (by omega) (by decide) dX8_reads_229 ?_
    refine wp_X8_5 hx hb hts iX8 hown hK hP hD hS 0 rfl k6 (Nat.le_of_ble_eq_true rfl) dX8_reads_230 (ws' := modelW c ad (va_up (va_up (va_up (va_up μ 2 (fun _ => nI p)) 3 (fun _ => nI p)) 4 (fun _ => 0)) 5 (fun _ => μ 0 p)) r) rfl (fun H locs hP hD hS => ?_)
    refine lv_aload_n hx hb dX8_reads_233 rfl (lv_at hl 0 rfl) ?_
    refine lv_aload_n hx hb dX8_reads_234 rfl (lv_at hl 0 rfl) ?_
    refine wg_X8_5 hx hb hts iX8 hown hK hP 0 rfl k6 (v := .int (μ 0 p)) rfl dX8_reads_235 ?_
    refine lv_bipush (v := 119) hx hb dX8_reads_238 (by decide) ?_
    refine lv_icmp_eq (tgt := 252) hx hb dX8_reads_240 (by decide) (fun h6 => ?_) (fun h6 => ?_)
    · refine lv_iconst (v := 1) hx hb dX8_reads_252 (by decide) ?_
      refine lv_goto (tgt := 270) hx hb dX8_reads_253 (by decide) ?_
      refine wp_X8_4 hx hb hts iX8 hown hK hP hD hS 0 rfl k5 (Nat.le_of_ble_eq_true rfl) dX8_reads_270 (ws' := modelW c ad (va_up (va_up (va_up (va_up μ 2 (fun _ => nI p)) 3 (fun _ => nI p)) 4 (fun _ => 1)) 5 (fun _ => μ 0 p)) r) rfl (fun H locs hP hD hS => ?_)
      refine lv_aload_n hx hb dX8_reads_273 rfl (lv_at hl 0 rfl) ?_
      refine lv_dup hx hb dX8_reads_274 rfl ?_
      refine wg_X8_2 hx hb hts iX8 hown hK hP 0 rfl k1 (v := .int (nI p)) rfl dX8_reads_275 ?_
      refine lv_iconst (v := 1) hx hb dX8_reads_278 (by decide) ?_
      refine lv_iadd hx hb dX8_reads_279 ?_
      refine wk_eqi (nI_add p 1) ?_
      refine wp_X8_2 hx hb hts iX8 hown hK hP hD hS 0 rfl k1 (Nat.le_of_ble_eq_true rfl) dX8_reads_280 (ws' := modelW c ad (va_up (va_up (va_up (va_up μ 2 (fun _ => nI (p + 1))) 3 (fun _ => nI p)) 4 (fun _ => 1)) 5 (fun _ => μ 0 p)) r) rfl (fun H locs hP hD hS => ?_)
      have eM7 : rdF μ = va_up (va_up (va_up (va_up μ 2 (fun _ => nI (p + 1))) 3 (fun _ => nI p)) 4 (fun _ => 1)) 5 (fun _ => μ 0 p) := by rw [rdF, rdP, rdK, rdV, hs, if_neg (show ¬ lnM μ ≤ p by omega), if_neg (show ¬ lnM μ ≤ p by omega), if_neg (show ¬ lnM μ ≤ p by omega), if_neg hdg, if_neg hdg, if_neg hdg]; simp [h5, h6]
      have hP : va_P D vwCl (modelW c ad (rdF μ) r) H := by rw [eM7]; exact hP
      have hD : va_D A (modelW c ad (rdF μ) r) := wk_D_ad hD [ad 0, ad 100, ad 6, ad 7, ad 8, ad 9, ad 12, ad 15, ad 17] rfl rfl
      exact ret 283 ls H _ hP hS dX8_reads_283
    refine lv_aload_n hx hb dX8_reads_243 rfl (lv_at hl 0 rfl) ?_
    refine wg_X8_5 hx hb hts iX8 hown hK hP 0 rfl k6 (v := .int (μ 0 p)) rfl dX8_reads_244 ?_
    refine lv_bipush (v := 116) hx hb dX8_reads_247 (by decide) ?_
    refine lv_icmp_ne (tgt := 256) hx hb dX8_reads_249 (by decide) (fun h8 => ?_) (fun h8 => ?_)
    rotate_left
    · refine lv_iconst (v := 1) hx hb dX8_reads_252 (by decide) ?_
      refine lv_goto (tgt := 270) hx hb dX8_reads_253 (by decide) ?_
      refine wp_X8_4 hx hb hts iX8 hown hK hP hD hS 0 rfl k5 (Nat.le_of_ble_eq_true rfl) dX8_reads_270 (ws' := modelW c ad (va_up (va_up (va_up (va_up μ 2 (fun _ => nI p)) 3 (fun _ => nI p)) 4 (fun _ => 1)) 5 (fun _ => μ 0 p)) r) rfl (fun H locs hP hD hS => ?_)
      refine lv_aload_n hx hb dX8_reads_273 rfl (lv_at hl 0 rfl) ?_
      refine lv_dup hx hb dX8_reads_274 rfl ?_
      refine wg_X8_2 hx hb hts iX8 hown hK hP 0 rfl k1 (v := .int (nI p)) rfl dX8_reads_275 ?_
      refine lv_iconst (v := 1) hx hb dX8_reads_278 (by decide) ?_
      refine lv_iadd hx hb dX8_reads_279 ?_
      refine wk_eqi (nI_add p 1) ?_
      refine wp_X8_2 hx hb hts iX8 hown hK hP hD hS 0 rfl k1 (Nat.le_of_ble_eq_true rfl) dX8_reads_280 (ws' := modelW c ad (va_up (va_up (va_up (va_up μ 2 (fun _ => nI (p + 1))) 3 (fun _ => nI p)) 4 (fun _ => 1)) 5 (fun _ => μ 0 p)) r) rfl (fun H locs hP hD hS => ?_)
      have eM12 : rdF μ = va_up (va_up (va_up (va_up μ 2 (fun _ => nI (p + 1))) 3 (fun _ => nI p)) 4 (fun _ => 1)) 5 (fun _ => μ 0 p) := by rw [rdF, rdP, rdK, rdV, hs, if_neg (show ¬ lnM μ ≤ p by omega), if_neg (show ¬ lnM μ ≤ p by omega), if_neg (show ¬ lnM μ ≤ p by omega), if_neg hdg, if_neg hdg, if_neg hdg]; simp [h5, h6, h8]
      have hP : va_P D vwCl (modelW c ad (rdF μ) r) H := by rw [eM12]; exact hP
      have hD : va_D A (modelW c ad (rdF μ) r) := wk_D_ad hD [ad 0, ad 100, ad 6, ad 7, ad 8, ad 9, ad 12, ad 15, ad 17] rfl rfl
      exact ret 283 ls H _ hP hS dX8_reads_283
    refine lv_aload_n hx hb dX8_reads_256 rfl (lv_at hl 0 rfl) ?_
    refine wg_X8_5 hx hb hts iX8 hown hK hP 0 rfl k6 (v := .int (μ 0 p)) rfl dX8_reads_257 ?_
    refine lv_bipush (v := 59) hx hb dX8_reads_260 (by decide) ?_
    refine lv_icmp_ne (tgt := 269) hx hb dX8_reads_262 (by decide) (fun h9 => ?_) (fun h9 => ?_)
    · refine lv_iconst (v := 4) hx hb dX8_reads_269 (by decide) ?_
      refine wp_X8_4 hx hb hts iX8 hown hK hP hD hS 0 rfl k5 (Nat.le_of_ble_eq_true rfl) dX8_reads_270 (ws' := modelW c ad (va_up (va_up (va_up (va_up μ 2 (fun _ => nI p)) 3 (fun _ => nI p)) 4 (fun _ => 4)) 5 (fun _ => μ 0 p)) r) rfl (fun H locs hP hD hS => ?_)
      refine lv_aload_n hx hb dX8_reads_273 rfl (lv_at hl 0 rfl) ?_
      refine lv_dup hx hb dX8_reads_274 rfl ?_
      refine wg_X8_2 hx hb hts iX8 hown hK hP 0 rfl k1 (v := .int (nI p)) rfl dX8_reads_275 ?_
      refine lv_iconst (v := 1) hx hb dX8_reads_278 (by decide) ?_
      refine lv_iadd hx hb dX8_reads_279 ?_
      refine wk_eqi (nI_add p 1) ?_
      refine wp_X8_2 hx hb hts iX8 hown hK hP hD hS 0 rfl k1 (Nat.le_of_ble_eq_true rfl) dX8_reads_280 (ws' := modelW c ad (va_up (va_up (va_up (va_up μ 2 (fun _ => nI (p + 1))) 3 (fun _ => nI p)) 4 (fun _ => 4)) 5 (fun _ => μ 0 p)) r) rfl (fun H locs hP hD hS => ?_)
      have eM10 : rdF μ = va_up (va_up (va_up (va_up μ 2 (fun _ => nI (p + 1))) 3 (fun _ => nI p)) 4 (fun _ => 4)) 5 (fun _ => μ 0 p) := by rw [rdF, rdP, rdK, rdV, hs, if_neg (show ¬ lnM μ ≤ p by omega), if_neg (show ¬ lnM μ ≤ p by omega), if_neg (show ¬ lnM μ ≤ p by omega), if_neg hdg, if_neg hdg, if_neg hdg]; simp [h5, h6, h8, h9]
      have hP : va_P D vwCl (modelW c ad (rdF μ) r) H := by rw [eM10]; exact hP
      have hD : va_D A (modelW c ad (rdF μ) r) := wk_D_ad hD [ad 0, ad 100, ad 6, ad 7, ad 8, ad 9, ad 12, ad 15, ad 17] rfl rfl
      exact ret 283 ls H _ hP hS dX8_reads_283
    refine lv_iconst (v := 3) hx hb dX8_reads_265 (by decide) ?_
    refine lv_goto (tgt := 270) hx hb dX8_reads_266 (by decide) ?_
    refine wp_X8_4 hx hb hts iX8 hown hK hP hD hS 0 rfl k5 (Nat.le_of_ble_eq_true rfl) dX8_reads_270 (ws' := modelW c ad (va_up (va_up (va_up (va_up μ 2 (fun _ => nI p)) 3 (fun _ => nI p)) 4 (fun _ => 3)) 5 (fun _ => μ 0 p)) r) rfl (fun H locs hP hD hS => ?_)
    refine lv_aload_n hx hb dX8_reads_273 rfl (lv_at hl 0 rfl) ?_
    refine lv_dup hx hb dX8_reads_274 rfl ?_
    refine wg_X8_2 hx hb hts iX8 hown hK hP 0 rfl k1 (v := .int (nI p)) rfl dX8_reads_275 ?_
    refine lv_iconst (v := 1) hx hb dX8_reads_278 (by decide) ?_
    refine lv_iadd hx hb dX8_reads_279 ?_
    refine wk_eqi (nI_add p 1) ?_
    refine wp_X8_2 hx hb hts iX8 hown hK hP hD hS 0 rfl k1 (Nat.le_of_ble_eq_true rfl) dX8_reads_280 (ws' := modelW c ad (va_up (va_up (va_up (va_up μ 2 (fun _ => nI (p + 1))) 3 (fun _ => nI p)) 4 (fun _ => 3)) 5 (fun _ => μ 0 p)) r) rfl (fun H locs hP hD hS => ?_)
    have eM11 : rdF μ = va_up (va_up (va_up (va_up μ 2 (fun _ => nI (p + 1))) 3 (fun _ => nI p)) 4 (fun _ => 3)) 5 (fun _ => μ 0 p) := by rw [rdF, rdP, rdK, rdV, hs, if_neg (show ¬ lnM μ ≤ p by omega), if_neg (show ¬ lnM μ ≤ p by omega), if_neg (show ¬ lnM μ ≤ p by omega), if_neg hdg, if_neg hdg, if_neg hdg]; simp [h5, h6, h8, h9]
    have hP : va_P D vwCl (modelW c ad (rdF μ) r) H := by rw [eM11]; exact hP
    have hD : va_D A (modelW c ad (rdF μ) r) := wk_D_ad hD [ad 0, ad 100, ad 6, ad 7, ad 8, ad 9, ad 12, ad 15, ad 17] rfl rfl
    exact ret 283 ls H _ hP hS dX8_reads_283
  have lp0 : ∀ (n : Nat) (p : Nat), (p ≤ lnM μ) → (skL (μ 0) (lnM μ - p) p = rdS μ) → lnM μ - p < n → ∀ (H : Heap) (locs : List Loc), va_P D vwCl (modelW c ad (va_up μ 2 (fun _ => nI p)) r) H → va_D A (modelW c ad (va_up μ 2 (fun _ => nI p)) r) → va_S A H0 H locs → ∀ ls : Array Slot, lv_has ls 1 [(0, .ref (ad 0))] → W pr l ev rmX8_reads ss mm args below meth cd H locs 0 0 Q (F0 mm 0 ls []) := by
    intro n
    induction n with
    | zero => intro p hi hv hn; exact absurd hn (Nat.not_lt_zero _)
    | succ n ih0 =>
      intro p hi hv hn H locs hP hD hS ls hl
      refine lv_aload_n hx hb dX8_reads_0 rfl (lv_at hl 0 rfl) ?_
      refine wg_X8_2 hx hb hts iX8 hown hK hP 0 rfl k1 (v := .int (nI p)) rfl dX8_reads_1 ?_
      refine lv_aload_n hx hb dX8_reads_4 rfl (lv_at hl 0 rfl) ?_
      refine wg_X8_1 hx hb hts iX8 hown hK hP 0 rfl k2 (v := .int (μ 1 0)) rfl dX8_reads_5 ?_
      refine wk_eqi (hM.1) ?_
      refine wk_ge (tgt := 38) hx hb p (lnM μ) rfl rfl (by omega) (by omega) dX8_reads_8 (by decide) (fun h25 => ?_) (fun h25 => ?_)
      · have hs : rdS μ = p := by rw [← hv, show lnM μ - p = 0 by omega]; rfl
        have hl : lv_has ls 1 [(0, .ref (ad 0))] := lv_sub hl [0] rfl
        exact jn38 p hs H _ hP hD hS ls hl
      refine lv_aload_n hx hb dX8_reads_11 rfl (lv_at hl 0 rfl) ?_
      refine wg_X8_0 hx hb hts iX8 hown hK hP 0 rfl k3 (v := .ref (ad 100)) rfl dX8_reads_12 ?_
      refine lv_aload_n hx hb dX8_reads_15 rfl (lv_at hl 0 rfl) ?_
      refine wg_X8_2 hx hb hts iX8 hown hK hP 0 rfl k1 (v := .int (nI p)) rfl dX8_reads_16 ?_
      refine wk_ald (f := μ 0) hx hb hK hP 1 0 rfl rfl p rfl (by omega) (by decide) dX8_reads_19 ?_
      refine lv_bipush (v := 32) hx hb dX8_reads_20 (by decide) ?_
      refine lv_icmp_ne (tgt := 38) hx hb dX8_reads_22 (by decide) (fun h26 => ?_) (fun h26 => ?_)
      · have hs : rdS μ = p := by rw [← hv, show lnM μ - p = (lnM μ - (p + 1)) + 1 by omega, skL, if_neg h26]
        have hl : lv_has ls 1 [(0, .ref (ad 0))] := lv_sub hl [0] rfl
        exact jn38 p hs H _ hP hD hS ls hl
      refine lv_aload_n hx hb dX8_reads_25 rfl (lv_at hl 0 rfl) ?_
      refine lv_dup hx hb dX8_reads_26 rfl ?_
      refine wg_X8_2 hx hb hts iX8 hown hK hP 0 rfl k1 (v := .int (nI p)) rfl dX8_reads_27 ?_
      refine lv_iconst (v := 1) hx hb dX8_reads_30 (by decide) ?_
      refine lv_iadd hx hb dX8_reads_31 ?_
      refine wk_eqi (nI_add p 1) ?_
      refine wp_X8_2 hx hb hts iX8 hown hK hP hD hS 0 rfl k1 (Nat.le_of_ble_eq_true rfl) dX8_reads_32 (ws' := modelW c ad (va_up μ 2 (fun _ => nI (p + 1))) r) rfl (fun H locs hP hD hS => ?_)
      refine lv_goto (tgt := 0) hx hb dX8_reads_35 (by decide) ?_
      have hl : lv_has ls 1 [(0, .ref (ad 0))] := lv_sub hl [0] rfl
      exact ih0 (p + 1) (by omega) (by rw [← hv, show lnM μ - p = (lnM μ - (p + 1)) + 1 by omega, skL, if_pos h26]) (by omega) H _ hP hD hS ls hl
  have hP : va_P D vwCl (modelW c ad (va_up μ 2 (fun _ => nI (atM μ))) r) H := by rw [← hMA.1]; exact hP
  have hD : va_D A (modelW c ad (va_up μ 2 (fun _ => nI (atM μ))) r) := wk_D_ad hD [ad 0, ad 100, ad 6, ad 7, ad 8, ad 9, ad 12, ad 15, ad 17] rfl rfl
  have hl : lv_has ls 1 [(0, .ref (ad 0))] := lv_sub hl [0] rfl
  exact lp0 _ (atM μ) (hMA.2) (rfl) (Nat.lt_succ_self _) H _ hP hD hS ls hl

abbrev rmX8_number : Room := { frames := 3, cells := 0, slots := 0, locals := 65 }
theorem hd_X8_number : yX8_number.cls = RX8 ∧ yX8_number.cls ≠ "java/lang/invoke/MethodHandle" ∧ yX8_number.cls ≠ "java/lang/invoke/VarHandle" ∧ (parseMethodDescriptor yX8_number.desc).map (fun d => d.parameters.length) = some 2 := by decide +kernel
set_option maxHeartbeats 4000000 in
set_option maxRecDepth 100000 in
theorem c_X8_number (l : Launch) (D : va_G) (c : Nat → ClassId) (ad : Nat → Nat) (μ : Nat → Nat → Int32) (r : Int64) (lo : Int32) (hi : Int32) (hM : wfM μ) (hMA : wfMA μ) : wk_UpI l yX8_number wsX8_number rmX8_number D (tysL c) [.ref (ad 0), .int lo, .int hi] (modelW c ad μ r) (modelW c ad (rdF μ) r) (if mnumOK μ lo hi then 1 else 0) := by
  refine wk_mkU (cc := cX8_number) (maxL := 3) (rt := .boolean) (by decide) rfl (Nat.le_of_ble_eq_true rfl) wk_narZ ?_
  intro A pr ev ss mm args below meth cd ls H H0 locs Q hst hP hK hD hS hA hl ret
  obtain ⟨hx, hb, hml, hown, hts, -⟩ := hst
  have hown : ss.vm.findClass RX8 = some mm.cls := hown
  have hl : lv_has ls 3 [(0, .ref (ad 0)), (1, .int lo), (2, .int hi)] := hl
  have k1 := hts (.fieldLink RX8 60 "LastWordModel" "token" "I") (List.mem_of_getElem? (i := 1) rfl)
  have k2 := hts (.fieldLink RX8 67 "LastWordModel" "told" "I") (List.mem_of_getElem? (i := 2) rfl)
  have iX8 : ∀ w ∈ u_ws RX8 TX8 18, w ∈ wsX8_number := fun _ h => (List.mem_cons_of_mem _ (List.mem_append_right _ h))
  refine lv_aload_n hx hb dX8_number_0 rfl (lv_at hl 0 rfl) ?_
  refine wk_callVV (As := []) (rest := []) ⟨hx, hb, hml, hown, hts⟩ (c_X8_reads l D c ad μ r (hM) (hMA)) (cwV 0 hts gX8_number_X8_reads rfl rfl rfl hd_X8_reads ⟨Nat.le_of_ble_eq_true rfl, Nat.le_of_ble_eq_true rfl⟩) hK hP hD hS hA [0, 1, 2, 3, 4, 5, 6, 7, 8] [] 9 rfl rfl [ad 0, ad 100, ad 6, ad 7, ad 8, ad 9, ad 12, ad 15, ad 17] rfl rfl (ws' := modelW c ad (rdF μ) r) rfl (wr := []) rfl rfl rfl rfl 0 rfl rfl rfl hl.1 rfl (Nat.le_of_ble_eq_true rfl) dX8_number_1 (Nat.zero_le _) (Nat.zero_le _) (fun H locs hP hD hS => ?_)
  refine lv_aload_n hx hb dX8_number_4 rfl (lv_at hl 0 rfl) ?_
  refine wg_X8_4 hx hb hts iX8 hown hK hP 0 rfl k1 (v := .int ((rdF μ) 4 0)) rfl dX8_number_5 ?_
  refine wk_eqi (rdF_K μ) ?_
  refine lv_iconst (v := 2) hx hb dX8_number_8 (by decide) ?_
  refine lv_icmp_ne (tgt := 31) hx hb dX8_number_9 (by decide) (fun h1 => ?_) (fun h1 => ?_)
  · refine lv_iconst (v := 0) hx hb dX8_number_31 (by decide) ?_
    exact ret 32 ls H _ 0 ((if_neg (fun q => absurd q.1 h1)).symm) hP hS dX8_number_32
  refine lv_aload_n hx hb dX8_number_12 rfl (lv_at hl 0 rfl) ?_
  refine wg_X8_5 hx hb hts iX8 hown hK hP 0 rfl k2 (v := .int ((rdF μ) 5 0)) rfl dX8_number_13 ?_
  refine wk_eqi (rdF_V μ) ?_
  refine lv_i2l (v := Int32.toInt64 (rdV μ)) hx hb dX8_number_16 rfl ?_
  refine lv_iload_n hx hb dX8_number_17 rfl (lv_at hl 1 rfl) ?_
  refine lv_i2l (v := Int32.toInt64 lo) hx hb dX8_number_18 rfl ?_
  refine lv_iload_n hx hb dX8_number_19 rfl (lv_at hl 2 rfl) ?_
  refine lv_i2l (v := Int32.toInt64 hi) hx hb dX8_number_20 rfl ?_
  refine wk_callRS (As := [.long (Int32.toInt64 (rdV μ)), .long (Int32.toInt64 lo), .long (Int32.toInt64 hi)]) (rest := []) ⟨hx, hb, hml, hown, hts⟩ (c_X8_in l D c (rdV μ) lo hi) (va_cwS 3 hts gX8_number_X8_in rfl rfl rfl hd_X8_in ⟨Nat.le_of_ble_eq_true rfl, Nat.le_of_ble_eq_true rfl⟩) hK hP [] rfl rfl hl.1 rfl (Nat.le_of_ble_eq_true rfl) dX8_number_21 (Nat.zero_le _) (Nat.zero_le _) ?_
  refine wk_bz (tgt := 31) hx hb dX8_number_24 (by decide) (fun h2 => ?_) (fun h2 => ?_)
  · refine lv_iconst (v := 0) hx hb dX8_number_31 (by decide) ?_
    exact ret 32 ls H _ 0 ((if_neg (fun q => absurd q.2 h2)).symm) hP hS dX8_number_32
  refine lv_iconst (v := 1) hx hb dX8_number_27 (by decide) ?_
  refine lv_goto (tgt := 32) hx hb dX8_number_28 (by decide) ?_
  exact ret 32 ls H _ 1 ((if_pos ⟨h1, h2⟩).symm) hP hS dX8_number_32

abbrev rmX8_itemEnds : Room := { frames := 3, cells := 0, slots := 0, locals := 65 }
theorem hd_X8_itemEnds : yX8_itemEnds.cls = RX8 ∧ yX8_itemEnds.cls ≠ "java/lang/invoke/MethodHandle" ∧ yX8_itemEnds.cls ≠ "java/lang/invoke/VarHandle" ∧ (parseMethodDescriptor yX8_itemEnds.desc).map (fun d => d.parameters.length) = some 0 := by decide +kernel
set_option maxHeartbeats 4000000 in
set_option maxRecDepth 100000 in
theorem c_X8_itemEnds (l : Launch) (D : va_G) (c : Nat → ClassId) (ad : Nat → Nat) (μ : Nat → Nat → Int32) (r : Int64) (hM : wfM μ) (hMA : wfMA μ) : wk_UpI l yX8_itemEnds wsX8_itemEnds rmX8_itemEnds D (tysL c) [.ref (ad 0)] (modelW c ad μ r) (modelW c ad (rdF μ) r) (if rdK μ = 3 then 1 else 0) := by
  refine wk_mkU (cc := cX8_itemEnds) (maxL := 1) (rt := .boolean) (by decide) rfl (Nat.le_of_ble_eq_true rfl) wk_narZ ?_
  intro A pr ev ss mm args below meth cd ls H H0 locs Q hst hP hK hD hS hA hl ret
  obtain ⟨hx, hb, hml, hown, hts, -⟩ := hst
  have hown : ss.vm.findClass RX8 = some mm.cls := hown
  have hl : lv_has ls 1 [(0, .ref (ad 0))] := hl
  have k1 := hts (.fieldLink RX8 60 "LastWordModel" "token" "I") (List.mem_of_getElem? (i := 1) rfl)
  have iX8 : ∀ w ∈ u_ws RX8 TX8 18, w ∈ wsX8_itemEnds := fun _ h => (List.mem_cons_of_mem _ (List.mem_append_right _ h))
  refine lv_aload_n hx hb dX8_itemEnds_0 rfl (lv_at hl 0 rfl) ?_
  refine wk_callVV (As := []) (rest := []) ⟨hx, hb, hml, hown, hts⟩ (c_X8_reads l D c ad μ r (hM) (hMA)) (cwV 0 hts gX8_itemEnds_X8_reads rfl rfl rfl hd_X8_reads ⟨Nat.le_of_ble_eq_true rfl, Nat.le_of_ble_eq_true rfl⟩) hK hP hD hS hA [0, 1, 2, 3, 4, 5, 6, 7, 8] [] 9 rfl rfl [ad 0, ad 100, ad 6, ad 7, ad 8, ad 9, ad 12, ad 15, ad 17] rfl rfl (ws' := modelW c ad (rdF μ) r) rfl (wr := []) rfl rfl rfl rfl 0 rfl rfl rfl hl.1 rfl (Nat.le_of_ble_eq_true rfl) dX8_itemEnds_1 (Nat.zero_le _) (Nat.zero_le _) (fun H locs hP hD hS => ?_)
  refine lv_aload_n hx hb dX8_itemEnds_4 rfl (lv_at hl 0 rfl) ?_
  refine wg_X8_4 hx hb hts iX8 hown hK hP 0 rfl k1 (v := .int ((rdF μ) 4 0)) rfl dX8_itemEnds_5 ?_
  refine wk_eqi (rdF_K μ) ?_
  refine lv_iconst (v := 3) hx hb dX8_itemEnds_8 (by decide) ?_
  refine lv_icmp_ne (tgt := 16) hx hb dX8_itemEnds_9 (by decide) (fun h1 => ?_) (fun h1 => ?_)
  · refine lv_iconst (v := 0) hx hb dX8_itemEnds_16 (by decide) ?_
    exact ret 17 ls H _ 0 ((if_neg h1).symm) hP hS dX8_itemEnds_17
  refine lv_iconst (v := 1) hx hb dX8_itemEnds_12 (by decide) ?_
  refine lv_goto (tgt := 17) hx hb dX8_itemEnds_13 (by decide) ?_
  exact ret 17 ls H _ 1 ((if_pos h1).symm) hP hS dX8_itemEnds_17

abbrev rmX8_plain : Room := { frames := 0, cells := 0, slots := 0, locals := 0 }
theorem hd_X8_plain : yX8_plain.cls = RX8 ∧ yX8_plain.cls ≠ "java/lang/invoke/MethodHandle" ∧ yX8_plain.cls ≠ "java/lang/invoke/VarHandle" ∧ (parseMethodDescriptor yX8_plain.desc).map (fun d => d.parameters.length) = some 0 := by decide +kernel
set_option maxHeartbeats 4000000 in
set_option maxRecDepth 100000 in
theorem c_X8_plain (l : Launch) (D : va_G) (c : Nat → ClassId) (ad : Nat → Nat) (μ : Nat → Nat → Int32) (r : Int64) : wk_UpV l yX8_plain wsX8_plain rmX8_plain D (tysL c) [.ref (ad 0)] (modelW c ad μ r) (modelW c ad (plF μ) r) := by
  refine wk_mkV (cc := cX8_plain) (maxL := 2) (by decide) rfl (Nat.le_of_ble_eq_true rfl) ?_
  intro A pr ev ss mm args below meth cd ls H H0 locs Q hst hP hK hD hS hA hl ret
  obtain ⟨hx, hb, hml, hown, hts, -⟩ := hst
  have hown : ss.vm.findClass RX8 = some mm.cls := hown
  have hl : lv_has ls 2 [(0, .ref (ad 0))] := hl
  have k1 := hts (.fieldLink RX8 13 "LastWordModel" "read" "[I") (List.mem_of_getElem? (i := 1) rfl)
  have iX8 : ∀ w ∈ u_ws RX8 TX8 18, w ∈ wsX8_plain := fun _ h => (List.mem_cons_of_mem _ (List.mem_append_right _ h))
  refine lv_iconst (v := 0) hx hb dX8_plain_0 (by decide) ?_
  refine lv_istore_n (lv' := [(1, .int 0), (0, .ref (ad 0))]) hx hb dX8_plain_1 rfl hl (by decide) rfl (fun ls hl => ?_)
  have lp2 : ∀ (n : Nat) (i : Nat), (i ≤ 45) → 45 - i < n → ∀ (H : Heap) (locs : List Loc), va_P D vwCl (modelW c ad (va_up μ 6 (fun k => if k < i then 0 else μ 6 k)) r) H → va_D A (modelW c ad (va_up μ 6 (fun k => if k < i then 0 else μ 6 k)) r) → va_S A H0 H locs → ∀ ls : Array Slot, lv_has ls 2 [(0, .ref (ad 0)), (1, .int (nI i))] → W pr l ev rmX8_plain ss mm args below meth cd H locs 0 0 Q (F0 mm 2 ls []) := by
    intro n
    induction n with
    | zero => intro i hi hn; exact absurd hn (Nat.not_lt_zero _)
    | succ n ih2 =>
      intro i hi hn H locs hP hD hS ls hl
      refine lv_iload_n hx hb dX8_plain_2 rfl (lv_at hl 1 rfl) ?_
      refine lv_bipush (v := 45) hx hb dX8_plain_3 (by decide) ?_
      refine wk_ge (tgt := 21) hx hb i 45 rfl rfl (by omega) (by omega) dX8_plain_5 (by decide) (fun h1 => ?_) (fun h1 => ?_)
      · refine lv_aload_n hx hb dX8_plain_21 rfl (lv_at hl 0 rfl) ?_
        refine wg_X8_6 hx hb hts iX8 hown hK hP 0 rfl k1 (v := .ref (ad 6)) rfl dX8_plain_22 ?_
        refine lv_iconst (v := 1) hx hb dX8_plain_25 (by decide) ?_
        refine lv_bipush (v := 9) hx hb dX8_plain_26 (by decide) ?_
        refine wk_ast hx hb hK hP hD hS 2 0 rfl rfl 1 rfl (by omega) (by decide) dX8_plain_28 (ws' := modelW c ad (va_up μ 6 (upd (fun k => if k < i then 0 else μ 6 k) 1 9)) r) rfl (fun H locs hP hD hS => ?_)
        have eg2 : va_up μ 6 (upd (fun k => if k < i then 0 else μ 6 k) 1 9) = plF μ := by rw [plF, show i = 45 by omega]
        have hP : va_P D vwCl (modelW c ad (plF μ) r) H := by rw [← eg2]; exact hP
        have hD : va_D A (modelW c ad (plF μ) r) := by rw [← eg2]; exact hD
        exact ret 29 ls H _ hP hS dX8_plain_29
      refine lv_aload_n hx hb dX8_plain_8 rfl (lv_at hl 0 rfl) ?_
      refine wg_X8_6 hx hb hts iX8 hown hK hP 0 rfl k1 (v := .ref (ad 6)) rfl dX8_plain_9 ?_
      refine lv_iload_n hx hb dX8_plain_12 rfl (lv_at hl 1 rfl) ?_
      refine lv_iconst (v := 0) hx hb dX8_plain_13 (by decide) ?_
      refine wk_ast hx hb hK hP hD hS 2 0 rfl rfl i rfl (by omega) (by decide) dX8_plain_14 (ws' := modelW c ad (va_up μ 6 (upd (fun k => if k < i then 0 else μ 6 k) i 0)) r) rfl (fun H locs hP hD hS => ?_)
      refine lv_iinc (v := nI (i + 1)) (lv' := [(1, .int (nI (i + 1))), (0, .ref (ad 0))]) hx hb dX8_plain_15 hl (k := 1) rfl (nI_inc i 1) (by decide) rfl (fun ls hl => ?_)
      refine lv_goto (tgt := 2) hx hb dX8_plain_18 (by decide) ?_
      have eg3 : va_up μ 6 (upd (fun k => if k < i then 0 else μ 6 k) i 0) = va_up μ 6 (fun k => if k < (i + 1) then 0 else μ 6 k) := by exact congrArg (va_up μ 6) (fill_s (fun _ => 0) (μ 6) i)
      have hP : va_P D vwCl (modelW c ad (va_up μ 6 (fun k => if k < (i + 1) then 0 else μ 6 k)) r) H := by rw [← eg3]; exact hP
      have hD : va_D A (modelW c ad (va_up μ 6 (fun k => if k < (i + 1) then 0 else μ 6 k)) r) := by rw [← eg3]; exact hD
      have hl : lv_has ls 2 [(0, .ref (ad 0)), (1, .int (nI (i + 1)))] := lv_sub hl [1, 0] rfl
      exact ih2 (i + 1) (by omega) (by omega) H _ hP hD hS ls hl
  have eg4 : μ = va_up μ 6 (fun k => if k < 0 then 0 else μ 6 k) := by exact (up_self (fill_0 (fun _ => 0) (μ 6))).symm
  have hP : va_P D vwCl (modelW c ad (va_up μ 6 (fun k => if k < 0 then 0 else μ 6 k)) r) H := by rw [← eg4]; exact hP
  have hD : va_D A (modelW c ad (va_up μ 6 (fun k => if k < 0 then 0 else μ 6 k)) r) := by rw [← eg4]; exact hD
  have hl : lv_has ls 2 [(0, .ref (ad 0)), (1, .int 0)] := lv_sub hl [1, 0] rfl
  have hl := wk_lset (y := nI 0) (lv_sub (l' := [(1, .int 0), (0, .ref (ad 0))]) hl [1, 0] rfl) (by rfl)
  have hl : lv_has ls 2 [(0, .ref (ad 0)), (1, .int (nI 0))] := lv_sub hl [1, 0] rfl
  exact lp2 _ 0 (by omega) (Nat.lt_succ_self _) H _ hP hD hS ls hl

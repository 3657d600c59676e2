/-! ===== LastWordModel, walked: forget, count ===== -/
abbrev rmX8_forget : Room := { frames := 0, cells := 0, slots := 0, locals := 0 }
theorem hd_X8_forget : yX8_forget.cls = RX8 ∧ yX8_forget.cls ≠ "java/lang/invoke/MethodHandle" ∧ yX8_forget.cls ≠ "java/lang/invoke/VarHandle" ∧ (parseMethodDescriptor yX8_forget.desc).map (fun d => d.parameters.length) = some 0 := by decide +kernel
set_option maxHeartbeats 4000000 in
set_option maxRecDepth 100000 in
theorem c_X8_forget (l : Launch) (D : va_G) (c : Nat → ClassId) (ad : Nat → Nat) (μ : Nat → Nat → Int32) (r : Int64) : wk_UpI l yX8_forget wsX8_forget rmX8_forget D (tysL c) [.ref (ad 0)] (modelW c ad μ r) (modelW c ad (mfgF μ) r) (μ 14 0) := by
  refine wk_mkU (cc := cX8_forget) (maxL := 2) (rt := .int) (by decide) rfl (Nat.le_of_ble_eq_true rfl) rfl ?_
  intro A pr ev ss mm args below meth cd ls H H0 locs Q hst hP hK hD hS hA hl ret
  obtain ⟨hx, hb, hml, hown, hts, -⟩ := hst
  have hown : ss.vm.findClass RX8 = some mm.cls := hown
  have hl : lv_has ls 2 [(0, .ref (ad 0))] := hl
  have k1 := hts (.fieldLink RX8 84 "LastWordModel" "founds" "I") (List.mem_of_getElem? (i := 1) rfl)
  have iX8 : ∀ w ∈ u_ws RX8 TX8 18, w ∈ wsX8_forget := fun _ h => (List.mem_cons_of_mem _ (List.mem_append_right _ h))
  refine lv_aload_n hx hb dX8_forget_0 rfl (lv_at hl 0 rfl) ?_
  refine wg_X8_14 hx hb hts iX8 hown hK hP 0 rfl k1 (v := .int (μ 14 0)) rfl dX8_forget_1 ?_
  refine lv_istore_n (lv' := [(1, .int (μ 14 0)), (0, .ref (ad 0))]) hx hb dX8_forget_4 rfl hl (by decide) rfl (fun ls hl => ?_)
  refine lv_aload_n hx hb dX8_forget_5 rfl (lv_at hl 1 rfl) ?_
  refine lv_iconst (v := 0) hx hb dX8_forget_6 (by decide) ?_
  refine wp_X8_14 hx hb hts iX8 hown hK hP hD hS 0 rfl k1 (Nat.le_of_ble_eq_true rfl) dX8_forget_7 (ws' := modelW c ad (va_up μ 14 (fun _ => 0)) r) rfl (fun H locs hP hD hS => ?_)
  refine lv_iload_n hx hb dX8_forget_10 rfl (lv_at hl 0 rfl) ?_
  have eg1 : va_up μ 14 (fun _ => 0) = mfgF μ := by rfl
  have hP : va_P D vwCl (modelW c ad (mfgF μ) r) H := by rw [← eg1]; exact hP
  have hD : va_D A (modelW c ad (mfgF μ) r) := by rw [← eg1]; exact hD
  exact ret 11 ls H _ (μ 14 0) (by rfl) hP hS dX8_forget_11

abbrev rmX8_count : Room := { frames := 0, cells := 0, slots := 0, locals := 0 }
theorem hd_X8_count : yX8_count.cls = RX8 ∧ yX8_count.cls ≠ "java/lang/invoke/MethodHandle" ∧ yX8_count.cls ≠ "java/lang/invoke/VarHandle" ∧ (parseMethodDescriptor yX8_count.desc).map (fun d => d.parameters.length) = some 1 := by decide +kernel
set_option maxHeartbeats 4000000 in
set_option maxRecDepth 100000 in
theorem c_X8_count (l : Launch) (D : va_G) (c : Nat → ClassId) (ad : Nat → Nat) (μ : Nat → Nat → Int32) (r : Int64) (x2 : Int32) : wk_RdI l yX8_count wsX8_count rmX8_count D (tysL c) [.ref (ad 0), .int x2] (modelW c ad μ r) (mcoV μ x2) := by
  refine wk_mkR (cc := cX8_count) (maxL := 2) (rt := .int) (by decide) rfl (Nat.le_of_ble_eq_true rfl) rfl ?_
  intro pr ev ss mm args below meth cd ls H Q hst hP hK hl ret
  obtain ⟨hx, hb, hml, hown, hts, -⟩ := hst
  have hown : ss.vm.findClass RX8 = some mm.cls := hown
  have hl : lv_has ls 2 [(0, .ref (ad 0)), (1, .int x2)] := hl
  have k1 := hts (.fieldLink RX8 16 "LastWordModel" "paper" "[I") (List.mem_of_getElem? (i := 1) rfl)
  have k2 := hts (.fieldLink RX8 84 "LastWordModel" "founds" "I") (List.mem_of_getElem? (i := 2) rfl)
  have k3 := hts (.fieldLink RX8 46 "LastWordModel" "size" "I") (List.mem_of_getElem? (i := 3) rfl)
  have iX8 : ∀ w ∈ u_ws RX8 TX8 18, w ∈ wsX8_count := fun _ h => (List.mem_cons_of_mem _ (List.mem_append_right _ h))
  refine lv_iload_n hx hb dX8_count_0 rfl (lv_at hl 1 rfl) ?_
  rcases wk_sw x2 4 (by omega) with hsw | ⟨ksw, hksw, rfl⟩
  · refine lv_tableOut (tgt := 49) hx hb dX8_count_1 (by omega) (by decide) ?_
    refine lv_iconst (v := -1) hx hb dX8_count_49 (by decide) ?_
    exact ret 50 ls ((-1)) (by rw [mcoV, if_neg (fun q => by omega)]) dX8_count_50
  rcases (show ksw = 0 ∨ ksw = 1 ∨ ksw = 2 ∨ ksw = 3 by omega) with rfl | rfl | rfl | rfl
  · refine lv_tableIn (off := 31) (tgt := 32) hx hb dX8_count_1 (by decide) (by decide) (by decide) (by decide) ?_
    refine lv_aload_n hx hb dX8_count_32 rfl (lv_at hl 0 rfl) ?_
    refine wg_X8_7 hx hb hts iX8 hown hK hP 0 rfl k1 (v := .ref (ad 7)) rfl dX8_count_33 ?_
    refine lv_iload_n hx hb dX8_count_36 rfl (lv_at hl 1 rfl) ?_
    refine wk_eqi (y := nI 0) rfl ?_
    refine wk_ald (f := μ 7) hx hb hK hP 3 0 rfl rfl 0 rfl (by omega) (by decide) dX8_count_37 ?_
    exact ret 38 ls (μ 7 0) (by rw [mcoV, if_pos ⟨by decide, by decide⟩]; rfl) dX8_count_38
  · refine lv_tableIn (off := 31) (tgt := 32) hx hb dX8_count_1 (by decide) (by decide) (by decide) (by decide) ?_
    refine lv_aload_n hx hb dX8_count_32 rfl (lv_at hl 0 rfl) ?_
    refine wg_X8_7 hx hb hts iX8 hown hK hP 0 rfl k1 (v := .ref (ad 7)) rfl dX8_count_33 ?_
    refine lv_iload_n hx hb dX8_count_36 rfl (lv_at hl 1 rfl) ?_
    refine wk_eqi (y := nI 1) rfl ?_
    refine wk_ald (f := μ 7) hx hb hK hP 3 0 rfl rfl 1 rfl (by omega) (by decide) dX8_count_37 ?_
    exact ret 38 ls (μ 7 1) (by rw [mcoV, if_pos ⟨by decide, by decide⟩]; rfl) dX8_count_38
  · refine lv_tableIn (off := 38) (tgt := 39) hx hb dX8_count_1 (by decide) (by decide) (by decide) (by decide) ?_
    refine lv_aload_n hx hb dX8_count_39 rfl (lv_at hl 0 rfl) ?_
    refine wg_X8_14 hx hb hts iX8 hown hK hP 0 rfl k2 (v := .int (μ 14 0)) rfl dX8_count_40 ?_
    exact ret 43 ls (μ 14 0) (by rw [mcoV, if_pos ⟨by decide, by decide⟩]; rfl) dX8_count_43
  · refine lv_tableIn (off := 43) (tgt := 44) hx hb dX8_count_1 (by decide) (by decide) (by decide) (by decide) ?_
    refine lv_aload_n hx hb dX8_count_44 rfl (lv_at hl 0 rfl) ?_
    refine wg_X8_1 hx hb hts iX8 hown hK hP 0 rfl k3 (v := .int (μ 1 0)) rfl dX8_count_45 ?_
    exact ret 48 ls (μ 1 0) (by rw [mcoV, if_pos ⟨by decide, by decide⟩]; rfl) dX8_count_48

/-! ===== Text, walked ===== -/
abbrev rmX6_isDigit : Room := { frames := 0, cells := 0, slots := 0, locals := 0 }
theorem hd_X6_isDigit : yX6_isDigit.cls ≠ "java/lang/invoke/MethodHandle" ∧ yX6_isDigit.cls ≠ "java/lang/invoke/VarHandle" ∧ (parseMethodDescriptor yX6_isDigit.desc).map (fun d => d.parameters.length) = some 1 := by decide +kernel
set_option maxHeartbeats 4000000 in
set_option maxRecDepth 100000 in
theorem c_X6_isDigit (l : Launch) (D : va_G) (c : Nat → ClassId) (x : Int32) : wk_RdI l yX6_isDigit wsX6_isDigit rmX6_isDigit D (tysL c) [.int x] ([]) (if isDg x then 1 else 0) := by
  refine wk_mkR (cc := cX6_isDigit) (maxL := 1) (rt := .boolean) (by decide) rfl (Nat.le_of_ble_eq_true rfl) wk_narZ ?_
  intro pr ev ss mm args below meth cd ls H Q hst hP hK hl ret
  obtain ⟨hx, hb, hml, hown, hts, -⟩ := hst
  have hown : ss.vm.findClass RX6 = some mm.cls := hown
  have hl : lv_has ls 1 [(0, .int x)] := hl
  refine lv_iload_n hx hb dX6_isDigit_0 rfl (lv_at hl 0 rfl) ?_
  refine lv_bipush (v := 48) hx hb dX6_isDigit_1 (by decide) ?_
  refine lv_icmp_lt (tgt := 16) hx hb dX6_isDigit_3 (by decide) (fun h1 => ?_) (fun h1 => ?_)
  · refine lv_iconst (v := 0) hx hb dX6_isDigit_16 (by decide) ?_
    exact ret 17 ls 0 ((if_neg (fun q => absurd h1 (Int32.not_lt.mpr q.1))).symm) dX6_isDigit_17
  refine lv_iload_n hx hb dX6_isDigit_6 rfl (lv_at hl 0 rfl) ?_
  refine lv_bipush (v := 57) hx hb dX6_isDigit_7 (by decide) ?_
  refine lv_icmp_gt (tgt := 16) hx hb dX6_isDigit_9 (by decide) (fun h2 => ?_) (fun h2 => ?_)
  · refine lv_iconst (v := 0) hx hb dX6_isDigit_16 (by decide) ?_
    exact ret 17 ls 0 ((if_neg (fun q => absurd h2 (Int32.not_lt.mpr q.2))).symm) dX6_isDigit_17
  refine lv_iconst (v := 1) hx hb dX6_isDigit_12 (by decide) ?_
  refine lv_goto (tgt := 17) hx hb dX6_isDigit_13 (by decide) ?_
  exact ret 17 ls 1 ((if_pos ⟨Int32.not_lt.mp h1, Int32.not_lt.mp h2⟩).symm) dX6_isDigit_17

abbrev rmX6_add : Room := { frames := 0, cells := 0, slots := 0, locals := 0 }
theorem hd_X6_add : yX6_add.cls = RX6 ∧ yX6_add.cls ≠ "java/lang/invoke/MethodHandle" ∧ yX6_add.cls ≠ "java/lang/invoke/VarHandle" ∧ (parseMethodDescriptor yX6_add.desc).map (fun d => d.parameters.length) = some 1 := by decide +kernel
set_option maxHeartbeats 4000000 in
set_option maxRecDepth 100000 in
theorem c_X6_add (l : Launch) (D : va_G) (c : Nat → ClassId) (t : Nat → Nat) (τ : Nat → Nat → Int32) (x : Int32) (hT : wfT τ) : wk_UpI l yX6_add wsX6_add rmX6_add D (tysL c) [.ref (t 0), .int x] (textW c t τ) (textW c t (addT τ x)) (if lnT τ < 200 then nI (lnT τ + 1) else -3) := by
  refine wk_mkU (cc := cX6_add) (maxL := 2) (rt := .int) (by decide) rfl (Nat.le_of_ble_eq_true rfl) rfl ?_
  intro A pr ev ss mm args below meth cd ls H H0 locs Q hst hP hK hD hS hA hl ret
  obtain ⟨hx, hb, hml, hown, hts, -⟩ := hst
  have hown : ss.vm.findClass RX6 = some mm.cls := hown
  have hl : lv_has ls 2 [(0, .ref (t 0)), (1, .int x)] := hl
  have k1 := hts (.fieldLink RX6 15 "LastWord$Text" "length" "I") (List.mem_of_getElem? (i := 1) rfl)
  have k2 := hts (.fieldLink RX6 9 "LastWord$Text" "letters" "[I") (List.mem_of_getElem? (i := 2) rfl)
  have iX6 : ∀ w ∈ u_ws RX6 TX6 7, w ∈ wsX6_add := fun _ h => (List.mem_cons_of_mem _ (List.mem_append_right _ h))
  have hT2 := hT.2
  refine lv_aload_n hx hb dX6_add_0 rfl (lv_at hl 0 rfl) ?_
  refine wg_X6_1 hx hb hts iX6 hown hK hP 0 rfl k1 (v := .int (τ 1 0)) rfl dX6_add_1 ?_
  refine wk_eqi (hT.1) ?_
  refine lv_sipush (v := 200) hx hb dX6_add_4 (by decide) ?_
  refine wk_lt (tgt := 13) hx hb (lnT τ) 200 rfl rfl (by omega) (by omega) dX6_add_7 (by decide) (fun h1 => ?_) (fun h1 => ?_)
  rotate_left
  · refine lv_bipush (v := -3) hx hb dX6_add_10 (by decide) ?_
    have eg3 : τ = addT τ x := by rw [addT, if_neg (by omega)]
    have hP : va_P D vwCl (textW c t (addT τ x)) H := by rw [← eg3]; exact hP
    have hD : va_D A (textW c t (addT τ x)) := by rw [← eg3]; exact hD
    exact ret 12 ls H _ ((-3)) (by rw [if_neg (by omega)]) hP hS dX6_add_12
  refine lv_aload_n hx hb dX6_add_13 rfl (lv_at hl 0 rfl) ?_
  refine wg_X6_0 hx hb hts iX6 hown hK hP 0 rfl k2 (v := .ref (t 1)) rfl dX6_add_14 ?_
  refine lv_aload_n hx hb dX6_add_17 rfl (lv_at hl 0 rfl) ?_
  refine wg_X6_1 hx hb hts iX6 hown hK hP 0 rfl k1 (v := .int (τ 1 0)) rfl dX6_add_18 ?_
  refine wk_eqi (hT.1) ?_
  refine lv_iload_n hx hb dX6_add_21 rfl (lv_at hl 1 rfl) ?_
  refine wk_ast hx hb hK hP hD hS 1 0 rfl rfl (lnT τ) rfl (by omega) (by decide) dX6_add_22 (ws' := textW c t (va_up τ 0 (upd (τ 0) (lnT τ) x))) rfl (fun H locs hP hD hS => ?_)
  refine lv_aload_n hx hb dX6_add_23 rfl (lv_at hl 0 rfl) ?_
  refine lv_dup hx hb dX6_add_24 rfl ?_
  refine wg_X6_1 hx hb hts iX6 hown hK hP 0 rfl k1 (v := .int (τ 1 0)) rfl dX6_add_25 ?_
  refine wk_eqi (hT.1) ?_
  refine lv_iconst (v := 1) hx hb dX6_add_28 (by decide) ?_
  refine lv_iadd hx hb dX6_add_29 ?_
  refine wk_eqi (nI_add (lnT τ) 1) ?_
  refine wp_X6_1 hx hb hts iX6 hown hK hP hD hS 0 rfl k1 (Nat.le_of_ble_eq_true rfl) dX6_add_30 (ws' := textW c t (va_up (va_up τ 0 (upd (τ 0) (lnT τ) x)) 1 (fun _ => nI ((lnT τ) + 1)))) rfl (fun H locs hP hD hS => ?_)
  refine lv_aload_n hx hb dX6_add_33 rfl (lv_at hl 0 rfl) ?_
  refine wg_X6_1 hx hb hts iX6 hown hK hP 0 rfl k1 (v := .int (nI ((lnT τ) + 1))) rfl dX6_add_34 ?_
  have eg2 : va_up (va_up τ 0 (upd (τ 0) (lnT τ) x)) 1 (fun _ => nI ((lnT τ) + 1)) = addT τ x := by rw [addT, if_pos (by omega)]
  have hP : va_P D vwCl (textW c t (addT τ x)) H := by rw [← eg2]; exact hP
  have hD : va_D A (textW c t (addT τ x)) := by rw [← eg2]; exact hD
  exact ret 37 ls H _ (nI ((lnT τ) + 1)) (by rw [if_pos (by omega)]) hP hS dX6_add_37

abbrev rmX6_empty : Room := { frames := 0, cells := 0, slots := 0, locals := 0 }
theorem hd_X6_empty : yX6_empty.cls = RX6 ∧ yX6_empty.cls ≠ "java/lang/invoke/MethodHandle" ∧ yX6_empty.cls ≠ "java/lang/invoke/VarHandle" ∧ (parseMethodDescriptor yX6_empty.desc).map (fun d => d.parameters.length) = some 0 := by decide +kernel
set_option maxHeartbeats 4000000 in
set_option maxRecDepth 100000 in
theorem c_X6_empty (l : Launch) (D : va_G) (c : Nat → ClassId) (t : Nat → Nat) (τ : Nat → Nat → Int32) : wk_UpI l yX6_empty wsX6_empty rmX6_empty D (tysL c) [.ref (t 0)] (textW c t τ) (textW c t (emptyT τ)) (τ 1 0) := by
  refine wk_mkU (cc := cX6_empty) (maxL := 2) (rt := .int) (by decide) rfl (Nat.le_of_ble_eq_true rfl) rfl ?_
  intro A pr ev ss mm args below meth cd ls H H0 locs Q hst hP hK hD hS hA hl ret
  obtain ⟨hx, hb, hml, hown, hts, -⟩ := hst
  have hown : ss.vm.findClass RX6 = some mm.cls := hown
  have hl : lv_has ls 2 [(0, .ref (t 0))] := hl
  have k1 := hts (.fieldLink RX6 15 "LastWord$Text" "length" "I") (List.mem_of_getElem? (i := 1) rfl)
  have iX6 : ∀ w ∈ u_ws RX6 TX6 7, w ∈ wsX6_empty := fun _ h => (List.mem_cons_of_mem _ (List.mem_append_right _ h))
  refine lv_aload_n hx hb dX6_empty_0 rfl (lv_at hl 0 rfl) ?_
  refine wg_X6_1 hx hb hts iX6 hown hK hP 0 rfl k1 (v := .int (τ 1 0)) rfl dX6_empty_1 ?_
  refine lv_istore_n (lv' := [(1, .int (τ 1 0)), (0, .ref (t 0))]) hx hb dX6_empty_4 rfl hl (by decide) rfl (fun ls hl => ?_)
  refine lv_aload_n hx hb dX6_empty_5 rfl (lv_at hl 1 rfl) ?_
  refine lv_iconst (v := 0) hx hb dX6_empty_6 (by decide) ?_
  refine wp_X6_1 hx hb hts iX6 hown hK hP hD hS 0 rfl k1 (Nat.le_of_ble_eq_true rfl) dX6_empty_7 (ws' := textW c t (va_up τ 1 (fun _ => 0))) rfl (fun H locs hP hD hS => ?_)
  refine lv_iload_n hx hb dX6_empty_10 rfl (lv_at hl 0 rfl) ?_
  exact ret 11 ls H _ (τ 1 0) (by rfl) hP hS dX6_empty_11

abbrev rmX6_takeDigits : Room := { frames := 1, cells := 0, slots := 0, locals := 20 }
theorem hd_X6_takeDigits : yX6_takeDigits.cls = RX6 ∧ yX6_takeDigits.cls ≠ "java/lang/invoke/MethodHandle" ∧ yX6_takeDigits.cls ≠ "java/lang/invoke/VarHandle" ∧ (parseMethodDescriptor yX6_takeDigits.desc).map (fun d => d.parameters.length) = some 0 := by decide +kernel
set_option maxHeartbeats 4000000 in
set_option maxRecDepth 100000 in
theorem c_X6_takeDigits (l : Launch) (D : va_G) (c : Nat → ClassId) (t : Nat → Nat) (τ : Nat → Nat → Int32) (hT : wfT τ) (hpl : wfL τ) (hst : wfS τ) : wk_UpV l yX6_takeDigits wsX6_takeDigits rmX6_takeDigits D (tysL c) [.ref (t 0)] (textW c t τ) (textW c t (tdF τ)) := by
  refine wk_mkV (cc := cX6_takeDigits) (maxL := 2) (by decide) rfl (Nat.le_of_ble_eq_true rfl) ?_
  intro A pr ev ss mm args below meth cd ls H H0 locs Q hst hP hK hD hS hA hl ret
  obtain ⟨hx, hb, hml, hown, hts, -⟩ := hst
  have hown : ss.vm.findClass RX6 = some mm.cls := hown
  have hl : lv_has ls 2 [(0, .ref (t 0))] := hl
  have k1 := hts (.fieldLink RX6 61 "LastWord$Text" "value" "I") (List.mem_of_getElem? (i := 1) rfl)
  have k4 := hts (.fieldLink RX6 9 "LastWord$Text" "letters" "[I") (List.mem_of_getElem? (i := 4) rfl)
  have k5 := hts (.fieldLink RX6 48 "LastWord$Text" "start" "I") (List.mem_of_getElem? (i := 5) rfl)
  have k6 := hts (.fieldLink RX6 34 "LastWord$Text" "token" "I") (List.mem_of_getElem? (i := 6) rfl)
  have k2 := hts (.fieldLink RX6 24 "LastWord$Text" "place" "I") (List.mem_of_getElem? (i := 2) rfl)
  have k3 := hts (.fieldLink RX6 15 "LastWord$Text" "length" "I") (List.mem_of_getElem? (i := 3) rfl)
  have iX6 : ∀ w ∈ u_ws RX6 TX6 7, w ∈ wsX6_takeDigits := fun _ h => (List.mem_cons_of_mem _ (List.mem_append_right _ h))
  have hT2 := hT.2
  have hst2 := hst.2
  refine lv_aload_n hx hb dX6_takeDigits_0 rfl (lv_at hl 0 rfl) ?_
  refine lv_iconst (v := 0) hx hb dX6_takeDigits_1 (by decide) ?_
  refine wp_X6_6 hx hb hts iX6 hown hK hP hD hS 0 rfl k1 (Nat.le_of_ble_eq_true rfl) dX6_takeDigits_2 (ws' := textW c t (va_up τ 6 (fun _ => 0))) rfl (fun H locs hP hD hS => ?_)
  have jn77 : ∀ (p : Nat) (v : Int32), (tdD τ = (p, v)) → ∀ (H : Heap) (locs : List Loc), va_P D vwCl (textW c t (va_up (va_up τ 6 (fun _ => v)) 2 (fun _ => nI p))) H → va_D A (textW c t (va_up (va_up τ 6 (fun _ => v)) 2 (fun _ => nI p))) → va_S A H0 H locs → ∀ ls : Array Slot, lv_has ls 2 [(0, .ref (t 0))] → W pr l ev rmX6_takeDigits ss mm args below meth cd H locs 0 0 Q (F0 mm 77 ls []) := by
    intro p v hd H locs hP hD hS ls hl
    refine lv_aload_n hx hb dX6_takeDigits_77 rfl (lv_at hl 0 rfl) ?_
    refine wg_X6_0 hx hb hts iX6 hown hK hP 0 rfl k4 (v := .ref (t 1)) rfl dX6_takeDigits_78 ?_
    refine lv_aload_n hx hb dX6_takeDigits_81 rfl (lv_at hl 0 rfl) ?_
    refine wg_X6_4 hx hb hts iX6 hown hK hP 0 rfl k5 (v := .int (τ 4 0)) rfl dX6_takeDigits_82 ?_
    refine wk_eqi (hst.1) ?_
    refine wk_ald (f := τ 0) hx hb hK hP 1 0 rfl rfl (stT τ) rfl (by omega) (by decide) dX6_takeDigits_85 ?_
    refine lv_bipush (v := 48) hx hb dX6_takeDigits_86 (by decide) ?_
    refine lv_icmp_ne (tgt := 108) hx hb dX6_takeDigits_88 (by decide) (fun h1 => ?_) (fun h1 => ?_)
    · refine lv_iconst (v := 0) hx hb dX6_takeDigits_108 (by decide) ?_
      refine lv_istore_n (lv' := [(1, .int 0), (0, .ref (t 0))]) hx hb dX6_takeDigits_109 rfl hl (by decide) rfl (fun ls hl => ?_)
      refine lv_aload_n hx hb dX6_takeDigits_110 rfl (lv_at hl 1 rfl) ?_
      refine lv_iload_n hx hb dX6_takeDigits_111 rfl (lv_at hl 0 rfl) ?_
      refine lv_if_ne (tgt := 124) hx hb dX6_takeDigits_112 (by decide) (fun q => absurd (by decide) q) (fun _ => ?_)
      refine lv_aload_n hx hb dX6_takeDigits_115 rfl (lv_at hl 1 rfl) ?_
      refine wg_X6_6 hx hb hts iX6 hown hK hP 0 rfl k1 (v := .int v) rfl dX6_takeDigits_116 ?_
      refine lv_bipush (v := 20) hx hb dX6_takeDigits_119 (by decide) ?_
      refine lv_icmp_le (tgt := 129) hx hb dX6_takeDigits_121 (by decide) (fun h3 => ?_) (fun h3 => ?_)
      · refine lv_bipush (v := -2) hx hb dX6_takeDigits_129 (by decide) ?_
        refine wp_X6_5 hx hb hts iX6 hown hK hP hD hS 0 rfl k6 (Nat.le_of_ble_eq_true rfl) dX6_takeDigits_131 (ws' := textW c t (va_up (va_up (va_up τ 6 (fun _ => v)) 2 (fun _ => nI p)) 5 (fun _ => (-2)))) rfl (fun H locs hP hD hS => ?_)
        have eT4 : tdF τ = mkT (τ 0) (τ 1 0) (nI p) (τ 3 0) (τ 4 0) ((-2)) v := by rw [tdF, hd]; simp [h1, h3]
        have hP : va_P D vwCl (textW c t (tdF τ)) H := by rw [eT4]; exact hP
        have hD : va_D A (textW c t (tdF τ)) := wk_D_ad hD [t 0, t 1] rfl rfl
        exact ret 134 ls H _ hP hS dX6_takeDigits_134
      refine lv_bipush (v := -3) hx hb dX6_takeDigits_124 (by decide) ?_
      refine lv_goto (tgt := 131) hx hb dX6_takeDigits_126 (by decide) ?_
      refine wp_X6_5 hx hb hts iX6 hown hK hP hD hS 0 rfl k6 (Nat.le_of_ble_eq_true rfl) dX6_takeDigits_131 (ws' := textW c t (va_up (va_up (va_up τ 6 (fun _ => v)) 2 (fun _ => nI p)) 5 (fun _ => (-3)))) rfl (fun H locs hP hD hS => ?_)
      have eT5 : tdF τ = mkT (τ 0) (τ 1 0) (nI p) (τ 3 0) (τ 4 0) ((-3)) v := by rw [tdF, hd]; simp [h1, h3]
      have hP : va_P D vwCl (textW c t (tdF τ)) H := by rw [eT5]; exact hP
      have hD : va_D A (textW c t (tdF τ)) := wk_D_ad hD [t 0, t 1] rfl rfl
      exact ret 134 ls H _ hP hS dX6_takeDigits_134
    refine lv_aload_n hx hb dX6_takeDigits_91 rfl (lv_at hl 0 rfl) ?_
    refine wg_X6_2 hx hb hts iX6 hown hK hP 0 rfl k2 (v := .int (nI p)) rfl dX6_takeDigits_92 ?_
    refine lv_aload_n hx hb dX6_takeDigits_95 rfl (lv_at hl 0 rfl) ?_
    refine wg_X6_4 hx hb hts iX6 hown hK hP 0 rfl k5 (v := .int (τ 4 0)) rfl dX6_takeDigits_96 ?_
    refine wk_eqi (hst.1) ?_
    refine lv_isub hx hb dX6_takeDigits_99 ?_
    refine lv_iconst (v := 1) hx hb dX6_takeDigits_100 (by decide) ?_
    refine lv_icmp_le (tgt := 108) hx hb dX6_takeDigits_101 (by decide) (fun h6 => ?_) (fun h6 => ?_)
    rotate_left
    · refine lv_iconst (v := 1) hx hb dX6_takeDigits_104 (by decide) ?_
      refine lv_goto (tgt := 109) hx hb dX6_takeDigits_105 (by decide) ?_
      refine lv_istore_n (lv' := [(1, .int 1), (0, .ref (t 0))]) hx hb dX6_takeDigits_109 rfl hl (by decide) rfl (fun ls hl => ?_)
      refine lv_aload_n hx hb dX6_takeDigits_110 rfl (lv_at hl 1 rfl) ?_
      refine lv_iload_n hx hb dX6_takeDigits_111 rfl (lv_at hl 0 rfl) ?_
      refine lv_if_ne (tgt := 124) hx hb dX6_takeDigits_112 (by decide) (fun _ => ?_) (fun q => absurd q (by decide))
      refine lv_bipush (v := -3) hx hb dX6_takeDigits_124 (by decide) ?_
      refine lv_goto (tgt := 131) hx hb dX6_takeDigits_126 (by decide) ?_
      refine wp_X6_5 hx hb hts iX6 hown hK hP hD hS 0 rfl k6 (Nat.le_of_ble_eq_true rfl) dX6_takeDigits_131 (ws' := textW c t (va_up (va_up (va_up τ 6 (fun _ => v)) 2 (fun _ => nI p)) 5 (fun _ => (-3)))) rfl (fun H locs hP hD hS => ?_)
      have eT12 : tdF τ = mkT (τ 0) (τ 1 0) (nI p) (τ 3 0) (τ 4 0) ((-3)) v := by rw [tdF, hd]; simp [h1, h6]
      have hP : va_P D vwCl (textW c t (tdF τ)) H := by rw [eT12]; exact hP
      have hD : va_D A (textW c t (tdF τ)) := wk_D_ad hD [t 0, t 1] rfl rfl
      exact ret 134 ls H _ hP hS dX6_takeDigits_134
    refine lv_iconst (v := 0) hx hb dX6_takeDigits_108 (by decide) ?_
    refine lv_istore_n (lv' := [(1, .int 0), (0, .ref (t 0))]) hx hb dX6_takeDigits_109 rfl hl (by decide) rfl (fun ls hl => ?_)
    refine lv_aload_n hx hb dX6_takeDigits_110 rfl (lv_at hl 1 rfl) ?_
    refine lv_iload_n hx hb dX6_takeDigits_111 rfl (lv_at hl 0 rfl) ?_
    refine lv_if_ne (tgt := 124) hx hb dX6_takeDigits_112 (by decide) (fun q => absurd (by decide) q) (fun _ => ?_)
    refine lv_aload_n hx hb dX6_takeDigits_115 rfl (lv_at hl 1 rfl) ?_
    refine wg_X6_6 hx hb hts iX6 hown hK hP 0 rfl k1 (v := .int v) rfl dX6_takeDigits_116 ?_
    refine lv_bipush (v := 20) hx hb dX6_takeDigits_119 (by decide) ?_
    refine lv_icmp_le (tgt := 129) hx hb dX6_takeDigits_121 (by decide) (fun h8 => ?_) (fun h8 => ?_)
    · refine lv_bipush (v := -2) hx hb dX6_takeDigits_129 (by decide) ?_
      refine wp_X6_5 hx hb hts iX6 hown hK hP hD hS 0 rfl k6 (Nat.le_of_ble_eq_true rfl) dX6_takeDigits_131 (ws' := textW c t (va_up (va_up (va_up τ 6 (fun _ => v)) 2 (fun _ => nI p)) 5 (fun _ => (-2)))) rfl (fun H locs hP hD hS => ?_)
      have eT9 : tdF τ = mkT (τ 0) (τ 1 0) (nI p) (τ 3 0) (τ 4 0) ((-2)) v := by rw [tdF, hd]; simp [h1, h6, h8]
      have hP : va_P D vwCl (textW c t (tdF τ)) H := by rw [eT9]; exact hP
      have hD : va_D A (textW c t (tdF τ)) := wk_D_ad hD [t 0, t 1] rfl rfl
      exact ret 134 ls H _ hP hS dX6_takeDigits_134
    refine lv_bipush (v := -3) hx hb dX6_takeDigits_124 (by decide) ?_
    refine lv_goto (tgt := 131) hx hb dX6_takeDigits_126 (by decide) ?_
    refine wp_X6_5 hx hb hts iX6 hown hK hP hD hS 0 rfl k6 (Nat.le_of_ble_eq_true rfl) dX6_takeDigits_131 (ws' := textW c t (va_up (va_up (va_up τ 6 (fun _ => v)) 2 (fun _ => nI p)) 5 (fun _ => (-3)))) rfl (fun H locs hP hD hS => ?_)
    have eT10 : tdF τ = mkT (τ 0) (τ 1 0) (nI p) (τ 3 0) (τ 4 0) ((-3)) v := by rw [tdF, hd]; simp [h1, h6, h8]
    have hP : va_P D vwCl (textW c t (tdF τ)) H := by rw [eT10]; exact hP
    have hD : va_D A (textW c t (tdF τ)) := wk_D_ad hD [t 0, t 1] rfl rfl
    exact ret 134 ls H _ hP hS dX6_takeDigits_134
  have lp5 : ∀ (n : Nat) (p : Nat) (v : Int32), (p ≤ lnT τ) → (dgL (τ 0) (lnT τ - p) p v = tdD τ) → lnT τ - p < n → ∀ (H : Heap) (locs : List Loc), va_P D vwCl (textW c t (va_up (va_up τ 6 (fun _ => v)) 2 (fun _ => nI p))) H → va_D A (textW c t (va_up (va_up τ 6 (fun _ => v)) 2 (fun _ => nI p))) → va_S A H0 H locs → ∀ ls : Array Slot, lv_has ls 2 [(0, .ref (t 0))] → W pr l ev rmX6_takeDigits ss mm args below meth cd H locs 0 0 Q (F0 mm 5 ls []) := by
    intro n
    induction n with
    | zero => intro p v hi hv hn; exact absurd hn (Nat.not_lt_zero _)
    | succ n ih5 =>
      intro p v hi hv hn H locs hP hD hS ls hl
      refine lv_aload_n hx hb dX6_takeDigits_5 rfl (lv_at hl 0 rfl) ?_
      refine wg_X6_2 hx hb hts iX6 hown hK hP 0 rfl k2 (v := .int (nI p)) rfl dX6_takeDigits_6 ?_
      refine lv_aload_n hx hb dX6_takeDigits_9 rfl (lv_at hl 0 rfl) ?_
      refine wg_X6_1 hx hb hts iX6 hown hK hP 0 rfl k3 (v := .int (τ 1 0)) rfl dX6_takeDigits_10 ?_
      refine wk_eqi (hT.1) ?_
      refine wk_ge (tgt := 77) hx hb p (lnT τ) rfl rfl (by omega) (by omega) dX6_takeDigits_13 (by decide) (fun h13 => ?_) (fun h13 => ?_)
      · have hd : tdD τ = (p, v) := by rw [← hv, show lnT τ - p = 0 by omega]; rfl
        have hl : lv_has ls 2 [(0, .ref (t 0))] := lv_sub hl [0] rfl
        exact jn77 p v hd H _ hP hD hS ls hl
      refine lv_aload_n hx hb dX6_takeDigits_16 rfl (lv_at hl 0 rfl) ?_
      refine wg_X6_0 hx hb hts iX6 hown hK hP 0 rfl k4 (v := .ref (t 1)) rfl dX6_takeDigits_17 ?_
      refine lv_aload_n hx hb dX6_takeDigits_20 rfl (lv_at hl 0 rfl) ?_
      refine wg_X6_2 hx hb hts iX6 hown hK hP 0 rfl k2 (v := .int (nI p)) rfl dX6_takeDigits_21 ?_
      refine wk_ald (f := τ 0) hx hb hK hP 1 0 rfl rfl p rfl (by omega) (by decide) dX6_takeDigits_24 ?_
      refine wk_callRS (As := [.int (τ 0 p)]) (rest := []) ⟨hx, hb, hml, hown, hts⟩ (c_X6_isDigit l D c (τ 0 p)) (va_cwS 1 hts gX6_takeDigits_X6_isDigit rfl rfl rfl hd_X6_isDigit ⟨Nat.le_of_ble_eq_true rfl, Nat.le_of_ble_eq_true rfl⟩) hK hP [] rfl rfl hl.1 rfl (Nat.le_of_ble_eq_true rfl) dX6_takeDigits_25 (Nat.zero_le _) (Nat.zero_le _) ?_
      refine wk_bz (tgt := 77) hx hb dX6_takeDigits_28 (by decide) (fun h14 => ?_) (fun h14 => ?_)
      · have hd : tdD τ = (p, v) := by rw [← hv, show lnT τ - p = (lnT τ - (p + 1)) + 1 by omega, dgL, if_neg h14]
        have hl : lv_has ls 2 [(0, .ref (t 0))] := lv_sub hl [0] rfl
        exact jn77 p v hd H _ hP hD hS ls hl
      refine lv_aload_n hx hb dX6_takeDigits_31 rfl (lv_at hl 0 rfl) ?_
      refine wg_X6_6 hx hb hts iX6 hown hK hP 0 rfl k1 (v := .int v) rfl dX6_takeDigits_32 ?_
      refine lv_bipush (v := 20) hx hb dX6_takeDigits_35 (by decide) ?_
      refine lv_icmp_gt (tgt := 64) hx hb dX6_takeDigits_37 (by decide) (fun h15 => ?_) (fun h15 => ?_)
      · refine lv_aload_n hx hb dX6_takeDigits_64 rfl (lv_at hl 0 rfl) ?_
        refine lv_dup hx hb dX6_takeDigits_65 rfl ?_
        refine wg_X6_2 hx hb hts iX6 hown hK hP 0 rfl k2 (v := .int (nI p)) rfl dX6_takeDigits_66 ?_
        refine lv_iconst (v := 1) hx hb dX6_takeDigits_69 (by decide) ?_
        refine lv_iadd hx hb dX6_takeDigits_70 ?_
        refine wk_eqi (nI_add p 1) ?_
        refine wp_X6_2 hx hb hts iX6 hown hK hP hD hS 0 rfl k2 (Nat.le_of_ble_eq_true rfl) dX6_takeDigits_71 (ws' := textW c t (va_up (va_up τ 6 (fun _ => v)) 2 (fun _ => nI (p + 1)))) rfl (fun H locs hP hD hS => ?_)
        refine lv_goto (tgt := 5) hx hb dX6_takeDigits_74 (by decide) ?_
        have eg16 : va_up (va_up τ 6 (fun _ => v)) 2 (fun _ => nI (p + 1)) = va_up (va_up τ 6 (fun _ => (if v ≤ 20 then v * 10 + τ 0 p - 48 else v))) 2 (fun _ => nI (p + 1)) := by first | rw [if_neg (Int32.not_le.mpr h15)] | rw [if_pos (Int32.not_lt.mp h15)]
        have hP : va_P D vwCl (textW c t (va_up (va_up τ 6 (fun _ => (if v ≤ 20 then v * 10 + τ 0 p - 48 else v))) 2 (fun _ => nI (p + 1)))) H := by rw [← eg16]; exact hP
        have hD : va_D A (textW c t (va_up (va_up τ 6 (fun _ => (if v ≤ 20 then v * 10 + τ 0 p - 48 else v))) 2 (fun _ => nI (p + 1)))) := by rw [← eg16]; exact hD
        have hl : lv_has ls 2 [(0, .ref (t 0))] := lv_sub hl [0] rfl
        exact ih5 (p + 1) (if v ≤ 20 then v * 10 + τ 0 p - 48 else v) (by omega) (by rw [← hv, show lnT τ - p = (lnT τ - (p + 1)) + 1 by omega, dgL, if_pos h14]) (by omega) H _ hP hD hS ls hl
      refine lv_aload_n hx hb dX6_takeDigits_40 rfl (lv_at hl 0 rfl) ?_
      refine lv_aload_n hx hb dX6_takeDigits_41 rfl (lv_at hl 0 rfl) ?_
      refine wg_X6_6 hx hb hts iX6 hown hK hP 0 rfl k1 (v := .int v) rfl dX6_takeDigits_42 ?_
      refine lv_bipush (v := 10) hx hb dX6_takeDigits_45 (by decide) ?_
      refine lv_imul hx hb dX6_takeDigits_47 ?_
      refine lv_aload_n hx hb dX6_takeDigits_48 rfl (lv_at hl 0 rfl) ?_
      refine wg_X6_0 hx hb hts iX6 hown hK hP 0 rfl k4 (v := .ref (t 1)) rfl dX6_takeDigits_49 ?_
      refine lv_aload_n hx hb dX6_takeDigits_52 rfl (lv_at hl 0 rfl) ?_
      refine wg_X6_2 hx hb hts iX6 hown hK hP 0 rfl k2 (v := .int (nI p)) rfl dX6_takeDigits_53 ?_
      refine wk_ald (f := τ 0) hx hb hK hP 1 0 rfl rfl p rfl (by omega) (by decide) dX6_takeDigits_56 ?_
      refine lv_iadd hx hb dX6_takeDigits_57 ?_
      refine lv_bipush (v := 48) hx hb dX6_takeDigits_58 (by decide) ?_
      refine lv_isub hx hb dX6_takeDigits_60 ?_
      refine wp_X6_6 hx hb hts iX6 hown hK hP hD hS 0 rfl k1 (Nat.le_of_ble_eq_true rfl) dX6_takeDigits_61 (ws' := textW c t (va_up (va_up τ 6 (fun _ => ((v * 10) + (τ 0 p)) - 48)) 2 (fun _ => nI p))) rfl (fun H locs hP hD hS => ?_)
      refine lv_aload_n hx hb dX6_takeDigits_64 rfl (lv_at hl 0 rfl) ?_
      refine lv_dup hx hb dX6_takeDigits_65 rfl ?_
      refine wg_X6_2 hx hb hts iX6 hown hK hP 0 rfl k2 (v := .int (nI p)) rfl dX6_takeDigits_66 ?_
      refine lv_iconst (v := 1) hx hb dX6_takeDigits_69 (by decide) ?_
      refine lv_iadd hx hb dX6_takeDigits_70 ?_
      refine wk_eqi (nI_add p 1) ?_
      refine wp_X6_2 hx hb hts iX6 hown hK hP hD hS 0 rfl k2 (Nat.le_of_ble_eq_true rfl) dX6_takeDigits_71 (ws' := textW c t (va_up (va_up τ 6 (fun _ => ((v * 10) + (τ 0 p)) - 48)) 2 (fun _ => nI (p + 1)))) rfl (fun H locs hP hD hS => ?_)
      refine lv_goto (tgt := 5) hx hb dX6_takeDigits_74 (by decide) ?_
      have eg17 : va_up (va_up τ 6 (fun _ => ((v * 10) + (τ 0 p)) - 48)) 2 (fun _ => nI (p + 1)) = va_up (va_up τ 6 (fun _ => (if v ≤ 20 then v * 10 + τ 0 p - 48 else v))) 2 (fun _ => nI (p + 1)) := by first | rw [if_neg (Int32.not_le.mpr h15)] | rw [if_pos (Int32.not_lt.mp h15)]
      have hP : va_P D vwCl (textW c t (va_up (va_up τ 6 (fun _ => (if v ≤ 20 then v * 10 + τ 0 p - 48 else v))) 2 (fun _ => nI (p + 1)))) H := by rw [← eg17]; exact hP
      have hD : va_D A (textW c t (va_up (va_up τ 6 (fun _ => (if v ≤ 20 then v * 10 + τ 0 p - 48 else v))) 2 (fun _ => nI (p + 1)))) := by rw [← eg17]; exact hD
      have hl : lv_has ls 2 [(0, .ref (t 0))] := lv_sub hl [0] rfl
      exact ih5 (p + 1) (if v ≤ 20 then v * 10 + τ 0 p - 48 else v) (by omega) (by rw [← hv, show lnT τ - p = (lnT τ - (p + 1)) + 1 by omega, dgL, if_pos h14]) (by omega) H _ hP hD hS ls hl
  have hP : va_P D vwCl (textW c t (va_up (va_up τ 6 (fun _ => 0)) 2 (fun _ => nI (plT τ)))) H := by rw [← hpl.1]; exact hP
  have hD : va_D A (textW c t (va_up (va_up τ 6 (fun _ => 0)) 2 (fun _ => nI (plT τ)))) := wk_D_ad hD [t 0, t 1] rfl rfl
  have hl : lv_has ls 2 [(0, .ref (t 0))] := lv_sub hl [0] rfl
  exact lp5 _ (plT τ) 0 (hpl.2) (rfl) (Nat.lt_succ_self _) H locs hP hD hS ls hl

abbrev rmX6_nextToken : Room := { frames := 2, cells := 0, slots := 0, locals := 41 }
theorem hd_X6_nextToken : yX6_nextToken.cls = RX6 ∧ yX6_nextToken.cls ≠ "java/lang/invoke/MethodHandle" ∧ yX6_nextToken.cls ≠ "java/lang/invoke/VarHandle" ∧ (parseMethodDescriptor yX6_nextToken.desc).map (fun d => d.parameters.length) = some 0 := by decide +kernel
set_option maxHeartbeats 4000000 in
set_option maxRecDepth 100000 in
theorem c_X6_nextToken (l : Launch) (D : va_G) (c : Nat → ClassId) (t : Nat → Nat) (τ : Nat → Nat → Int32) (hT : wfT τ) (hpl : wfL τ) : wk_UpV l yX6_nextToken wsX6_nextToken rmX6_nextToken D (tysL c) [.ref (t 0)] (textW c t τ) (textW c t (ntF τ)) := by
  refine wk_mkV (cc := cX6_nextToken) (maxL := 2) (by decide) rfl (Nat.le_of_ble_eq_true rfl) ?_
  intro A pr ev ss mm args below meth cd ls H H0 locs Q hst hP hK hD hS hA hl ret
  obtain ⟨hx, hb, hml, hown, hts, -⟩ := hst
  have hown : ss.vm.findClass RX6 = some mm.cls := hown
  have hl : lv_has ls 2 [(0, .ref (t 0))] := hl
  have k1 := hts (.fieldLink RX6 24 "LastWord$Text" "place" "I") (List.mem_of_getElem? (i := 1) rfl)
  have k4 := hts (.fieldLink RX6 48 "LastWord$Text" "start" "I") (List.mem_of_getElem? (i := 4) rfl)
  have k2 := hts (.fieldLink RX6 15 "LastWord$Text" "length" "I") (List.mem_of_getElem? (i := 2) rfl)
  have k3 := hts (.fieldLink RX6 9 "LastWord$Text" "letters" "[I") (List.mem_of_getElem? (i := 3) rfl)
  have k5 := hts (.fieldLink RX6 34 "LastWord$Text" "token" "I") (List.mem_of_getElem? (i := 5) rfl)
  have iX6 : ∀ w ∈ u_ws RX6 TX6 7, w ∈ wsX6_nextToken := fun _ h => (List.mem_cons_of_mem _ (List.mem_append_right _ h))
  have hT2 := hT.2
  have hsl := (ntS_le hpl).2
  have jn38 : ∀ (p : Nat), (ntS τ = p) → ∀ (H : Heap) (locs : List Loc), va_P D vwCl (textW c t (va_up τ 2 (fun _ => nI p))) H → va_D A (textW c t (va_up τ 2 (fun _ => nI p))) → va_S A H0 H locs → ∀ ls : Array Slot, lv_has ls 2 [(0, .ref (t 0))] → W pr l ev rmX6_nextToken ss mm args below meth cd H locs 0 0 Q (F0 mm 38 ls []) := by
    intro p hs H locs hP hD hS ls hl
    refine lv_aload_n hx hb dX6_nextToken_38 rfl (lv_at hl 0 rfl) ?_
    refine lv_aload_n hx hb dX6_nextToken_39 rfl (lv_at hl 0 rfl) ?_
    refine wg_X6_2 hx hb hts iX6 hown hK hP 0 rfl k1 (v := .int (nI p)) rfl dX6_nextToken_40 ?_
    refine wp_X6_4 hx hb hts iX6 hown hK hP hD hS 0 rfl k4 (Nat.le_of_ble_eq_true rfl) dX6_nextToken_43 (ws' := textW c t (va_up (va_up τ 2 (fun _ => nI p)) 4 (fun _ => nI p))) rfl (fun H locs hP hD hS => ?_)
    refine lv_aload_n hx hb dX6_nextToken_46 rfl (lv_at hl 0 rfl) ?_
    refine wg_X6_2 hx hb hts iX6 hown hK hP 0 rfl k1 (v := .int (nI p)) rfl dX6_nextToken_47 ?_
    refine lv_aload_n hx hb dX6_nextToken_50 rfl (lv_at hl 0 rfl) ?_
    refine wg_X6_1 hx hb hts iX6 hown hK hP 0 rfl k2 (v := .int (τ 1 0)) rfl dX6_nextToken_51 ?_
    refine wk_eqi (hT.1) ?_
    refine wk_lt (tgt := 65) hx hb p (lnT τ) rfl rfl (by omega) (by omega) dX6_nextToken_54 (by decide) (fun h1 => ?_) (fun h1 => ?_)
    rotate_left
    · refine lv_aload_n hx hb dX6_nextToken_57 rfl (lv_at hl 0 rfl) ?_
      refine lv_iconst (v := -1) hx hb dX6_nextToken_58 (by decide) ?_
      refine wp_X6_5 hx hb hts iX6 hown hK hP hD hS 0 rfl k5 (Nat.le_of_ble_eq_true rfl) dX6_nextToken_59 (ws' := textW c t (va_up (va_up (va_up τ 2 (fun _ => nI p)) 4 (fun _ => nI p)) 5 (fun _ => (-1)))) rfl (fun H locs hP hD hS => ?_)
      refine lv_goto (tgt := 135) hx hb dX6_nextToken_62 (by decide) ?_
      have eT11 : ntF τ = mkT (τ 0) (τ 1 0) (nI p) (τ 3 0) (nI p) ((-1)) (τ 6 0) := by rw [ntF, ntP, ntT, ntV, hs, if_pos h1, if_pos h1, if_pos h1]
      have hP : va_P D vwCl (textW c t (ntF τ)) H := by rw [eT11]; exact hP
      have hD : va_D A (textW c t (ntF τ)) := wk_D_ad hD [t 0, t 1] rfl rfl
      exact ret 135 ls H _ hP hS dX6_nextToken_135
    refine lv_aload_n hx hb dX6_nextToken_65 rfl (lv_at hl 0 rfl) ?_
    refine wg_X6_0 hx hb hts iX6 hown hK hP 0 rfl k3 (v := .ref (t 1)) rfl dX6_nextToken_66 ?_
    refine lv_aload_n hx hb dX6_nextToken_69 rfl (lv_at hl 0 rfl) ?_
    refine wg_X6_2 hx hb hts iX6 hown hK hP 0 rfl k1 (v := .int (nI p)) rfl dX6_nextToken_70 ?_
    refine wk_ald (f := τ 0) hx hb hK hP 1 0 rfl rfl p rfl (by omega) (by decide) dX6_nextToken_73 ?_
    refine wk_callRS (As := [.int (τ 0 p)]) (rest := []) ⟨hx, hb, hml, hown, hts⟩ (c_X6_isDigit l D c (τ 0 p)) (va_cwS 1 hts gX6_nextToken_X6_isDigit rfl rfl rfl hd_X6_isDigit ⟨Nat.le_of_ble_eq_true rfl, Nat.le_of_ble_eq_true rfl⟩) hK hP [] rfl rfl hl.1 rfl (Nat.le_of_ble_eq_true rfl) dX6_nextToken_74 (Nat.zero_le _) (Nat.zero_le _) ?_
    refine wk_bz (tgt := 87) hx hb dX6_nextToken_77 (by decide) (fun h2 => ?_) (fun h2 => ?_)
    rotate_left
    · refine lv_aload_n hx hb dX6_nextToken_80 rfl (lv_at hl 0 rfl) ?_
      refine wk_callVV (As := []) (rest := []) ⟨hx, hb, hml, hown, hts⟩ (c_X6_takeDigits l D c t (va_up (va_up τ 2 (fun _ => nI p)) 4 (fun _ => nI p)) (hT) (by show nI p = nI (nI p).toNatClampNeg ∧ (nI p).toNatClampNeg ≤ lnT τ; rw [nI_cl (by omega)]; exact ⟨rfl, by omega⟩) (by show nI p = nI (nI p).toNatClampNeg ∧ (nI p).toNatClampNeg < lnT τ; rw [nI_cl (by omega)]; exact ⟨rfl, by omega⟩)) (cwV 0 hts gX6_nextToken_X6_takeDigits rfl rfl rfl hd_X6_takeDigits ⟨Nat.le_of_ble_eq_true rfl, Nat.le_of_ble_eq_true rfl⟩) hK hP hD hS hA [0, 1] [] 2 rfl rfl [t 0, t 1] rfl rfl (ws' := textW c t (tdF (va_up (va_up τ 2 (fun _ => nI p)) 4 (fun _ => nI p)))) rfl (wr := []) rfl rfl rfl rfl 0 rfl rfl rfl hl.1 rfl (Nat.le_of_ble_eq_true rfl) dX6_nextToken_81 (Nat.zero_le _) (Nat.zero_le _) (fun H locs hP hD hS => ?_)
      refine lv_goto (tgt := 135) hx hb dX6_nextToken_84 (by decide) ?_
      have eg10 : tdF (va_up (va_up τ 2 (fun _ => nI p)) 4 (fun _ => nI p)) = ntF τ := by exact td_nt (by omega) hT2 hs h2
      have hP : va_P D vwCl (textW c t (ntF τ)) H := by rw [← eg10]; exact hP
      have hD : va_D A (textW c t (ntF τ)) := by rw [← eg10]; exact hD
      exact ret 135 ls H _ hP hS dX6_nextToken_135
    refine lv_aload_n hx hb dX6_nextToken_87 rfl (lv_at hl 0 rfl) ?_
    refine wg_X6_0 hx hb hts iX6 hown hK hP 0 rfl k3 (v := .ref (t 1)) rfl dX6_nextToken_88 ?_
    refine lv_aload_n hx hb dX6_nextToken_91 rfl (lv_at hl 0 rfl) ?_
    refine wg_X6_2 hx hb hts iX6 hown hK hP 0 rfl k1 (v := .int (nI p)) rfl dX6_nextToken_92 ?_
    refine wk_ald (f := τ 0) hx hb hK hP 1 0 rfl rfl p rfl (by omega) (by decide) dX6_nextToken_95 ?_
    refine lv_istore_n (lv' := [(1, .int (τ 0 p)), (0, .ref (t 0))]) hx hb dX6_nextToken_96 rfl hl (by decide) rfl (fun ls hl => ?_)
    refine lv_aload_n hx hb dX6_nextToken_97 rfl (lv_at hl 1 rfl) ?_
    refine lv_iload_n hx hb dX6_nextToken_98 rfl (lv_at hl 0 rfl) ?_
    refine lv_bipush (v := 119) hx hb dX6_nextToken_99 (by decide) ?_
    refine lv_icmp_eq (tgt := 116) hx hb dX6_nextToken_101 (by decide) (fun h3 => ?_) (fun h3 => ?_)
    · refine lv_iload_n hx hb dX6_nextToken_116 rfl (lv_at hl 0 rfl) ?_
      refine lv_goto (tgt := 122) hx hb dX6_nextToken_117 (by decide) ?_
      refine wp_X6_5 hx hb hts iX6 hown hK hP hD hS 0 rfl k5 (Nat.le_of_ble_eq_true rfl) dX6_nextToken_122 (ws' := textW c t (va_up (va_up (va_up τ 2 (fun _ => nI p)) 4 (fun _ => nI p)) 5 (fun _ => τ 0 p))) rfl (fun H locs hP hD hS => ?_)
      refine lv_aload_n hx hb dX6_nextToken_125 rfl (lv_at hl 1 rfl) ?_
      refine lv_dup hx hb dX6_nextToken_126 rfl ?_
      refine wg_X6_2 hx hb hts iX6 hown hK hP 0 rfl k1 (v := .int (nI p)) rfl dX6_nextToken_127 ?_
      refine lv_iconst (v := 1) hx hb dX6_nextToken_130 (by decide) ?_
      refine lv_iadd hx hb dX6_nextToken_131 ?_
      refine wk_eqi (nI_add p 1) ?_
      refine wp_X6_2 hx hb hts iX6 hown hK hP hD hS 0 rfl k1 (Nat.le_of_ble_eq_true rfl) dX6_nextToken_132 (ws' := textW c t (va_up (va_up (va_up τ 2 (fun _ => nI (p + 1))) 4 (fun _ => nI p)) 5 (fun _ => τ 0 p))) rfl (fun H locs hP hD hS => ?_)
      have eT4 : ntF τ = mkT (τ 0) (τ 1 0) (nI (p + 1)) (τ 3 0) (nI p) (τ 0 p) (τ 6 0) := by rw [ntF, ntP, ntT, ntV, hs, if_neg (show ¬ lnT τ ≤ p by omega), if_neg (show ¬ lnT τ ≤ p by omega), if_neg (show ¬ lnT τ ≤ p by omega), if_neg h2, if_neg h2, if_neg h2]; simp [h3]
      have hP : va_P D vwCl (textW c t (ntF τ)) H := by rw [eT4]; exact hP
      have hD : va_D A (textW c t (ntF τ)) := wk_D_ad hD [t 0, t 1] rfl rfl
      exact ret 135 ls H _ hP hS dX6_nextToken_135
    refine lv_iload_n hx hb dX6_nextToken_104 rfl (lv_at hl 0 rfl) ?_
    refine lv_bipush (v := 116) hx hb dX6_nextToken_105 (by decide) ?_
    refine lv_icmp_eq (tgt := 116) hx hb dX6_nextToken_107 (by decide) (fun h5 => ?_) (fun h5 => ?_)
    · refine lv_iload_n hx hb dX6_nextToken_116 rfl (lv_at hl 0 rfl) ?_
      refine lv_goto (tgt := 122) hx hb dX6_nextToken_117 (by decide) ?_
      refine wp_X6_5 hx hb hts iX6 hown hK hP hD hS 0 rfl k5 (Nat.le_of_ble_eq_true rfl) dX6_nextToken_122 (ws' := textW c t (va_up (va_up (va_up τ 2 (fun _ => nI p)) 4 (fun _ => nI p)) 5 (fun _ => τ 0 p))) rfl (fun H locs hP hD hS => ?_)
      refine lv_aload_n hx hb dX6_nextToken_125 rfl (lv_at hl 1 rfl) ?_
      refine lv_dup hx hb dX6_nextToken_126 rfl ?_
      refine wg_X6_2 hx hb hts iX6 hown hK hP 0 rfl k1 (v := .int (nI p)) rfl dX6_nextToken_127 ?_
      refine lv_iconst (v := 1) hx hb dX6_nextToken_130 (by decide) ?_
      refine lv_iadd hx hb dX6_nextToken_131 ?_
      refine wk_eqi (nI_add p 1) ?_
      refine wp_X6_2 hx hb hts iX6 hown hK hP hD hS 0 rfl k1 (Nat.le_of_ble_eq_true rfl) dX6_nextToken_132 (ws' := textW c t (va_up (va_up (va_up τ 2 (fun _ => nI (p + 1))) 4 (fun _ => nI p)) 5 (fun _ => τ 0 p))) rfl (fun H locs hP hD hS => ?_)
      have eT6 : ntF τ = mkT (τ 0) (τ 1 0) (nI (p + 1)) (τ 3 0) (nI p) (τ 0 p) (τ 6 0) := by rw [ntF, ntP, ntT, ntV, hs, if_neg (show ¬ lnT τ ≤ p by omega), if_neg (show ¬ lnT τ ≤ p by omega), if_neg (show ¬ lnT τ ≤ p by omega), if_neg h2, if_neg h2, if_neg h2]; simp [h3, h5]
      have hP : va_P D vwCl (textW c t (ntF τ)) H := by rw [eT6]; exact hP
      have hD : va_D A (textW c t (ntF τ)) := wk_D_ad hD [t 0, t 1] rfl rfl
      exact ret 135 ls H _ hP hS dX6_nextToken_135
    refine lv_iload_n hx hb dX6_nextToken_110 rfl (lv_at hl 0 rfl) ?_
    refine lv_bipush (v := 59) hx hb dX6_nextToken_111 (by decide) ?_
    refine lv_icmp_ne (tgt := 120) hx hb dX6_nextToken_113 (by decide) (fun h7 => ?_) (fun h7 => ?_)
    · refine lv_bipush (v := -3) hx hb dX6_nextToken_120 (by decide) ?_
      refine wp_X6_5 hx hb hts iX6 hown hK hP hD hS 0 rfl k5 (Nat.le_of_ble_eq_true rfl) dX6_nextToken_122 (ws' := textW c t (va_up (va_up (va_up τ 2 (fun _ => nI p)) 4 (fun _ => nI p)) 5 (fun _ => (-3)))) rfl (fun H locs hP hD hS => ?_)
      refine lv_aload_n hx hb dX6_nextToken_125 rfl (lv_at hl 1 rfl) ?_
      refine lv_dup hx hb dX6_nextToken_126 rfl ?_
      refine wg_X6_2 hx hb hts iX6 hown hK hP 0 rfl k1 (v := .int (nI p)) rfl dX6_nextToken_127 ?_
      refine lv_iconst (v := 1) hx hb dX6_nextToken_130 (by decide) ?_
      refine lv_iadd hx hb dX6_nextToken_131 ?_
      refine wk_eqi (nI_add p 1) ?_
      refine wp_X6_2 hx hb hts iX6 hown hK hP hD hS 0 rfl k1 (Nat.le_of_ble_eq_true rfl) dX6_nextToken_132 (ws' := textW c t (va_up (va_up (va_up τ 2 (fun _ => nI (p + 1))) 4 (fun _ => nI p)) 5 (fun _ => (-3)))) rfl (fun H locs hP hD hS => ?_)
      have eT8 : ntF τ = mkT (τ 0) (τ 1 0) (nI (p + 1)) (τ 3 0) (nI p) ((-3)) (τ 6 0) := by rw [ntF, ntP, ntT, ntV, hs, if_neg (show ¬ lnT τ ≤ p by omega), if_neg (show ¬ lnT τ ≤ p by omega), if_neg (show ¬ lnT τ ≤ p by omega), if_neg h2, if_neg h2, if_neg h2]; simp [h3, h5, h7]
      have hP : va_P D vwCl (textW c t (ntF τ)) H := by rw [eT8]; exact hP
      have hD : va_D A (textW c t (ntF τ)) := wk_D_ad hD [t 0, t 1] rfl rfl
      exact ret 135 ls H _ hP hS dX6_nextToken_135
    refine lv_iload_n hx hb dX6_nextToken_116 rfl (lv_at hl 0 rfl) ?_
    refine lv_goto (tgt := 122) hx hb dX6_nextToken_117 (by decide) ?_
    refine wp_X6_5 hx hb hts iX6 hown hK hP hD hS 0 rfl k5 (Nat.le_of_ble_eq_true rfl) dX6_nextToken_122 (ws' := textW c t (va_up (va_up (va_up τ 2 (fun _ => nI p)) 4 (fun _ => nI p)) 5 (fun _ => τ 0 p))) rfl (fun H locs hP hD hS => ?_)
    refine lv_aload_n hx hb dX6_nextToken_125 rfl (lv_at hl 1 rfl) ?_
    refine lv_dup hx hb dX6_nextToken_126 rfl ?_
    refine wg_X6_2 hx hb hts iX6 hown hK hP 0 rfl k1 (v := .int (nI p)) rfl dX6_nextToken_127 ?_
    refine lv_iconst (v := 1) hx hb dX6_nextToken_130 (by decide) ?_
    refine lv_iadd hx hb dX6_nextToken_131 ?_
    refine wk_eqi (nI_add p 1) ?_
    refine wp_X6_2 hx hb hts iX6 hown hK hP hD hS 0 rfl k1 (Nat.le_of_ble_eq_true rfl) dX6_nextToken_132 (ws' := textW c t (va_up (va_up (va_up τ 2 (fun _ => nI (p + 1))) 4 (fun _ => nI p)) 5 (fun _ => τ 0 p))) rfl (fun H locs hP hD hS => ?_)
    have eT9 : ntF τ = mkT (τ 0) (τ 1 0) (nI (p + 1)) (τ 3 0) (nI p) (τ 0 p) (τ 6 0) := by rw [ntF, ntP, ntT, ntV, hs, if_neg (show ¬ lnT τ ≤ p by omega), if_neg (show ¬ lnT τ ≤ p by omega), if_neg (show ¬ lnT τ ≤ p by omega), if_neg h2, if_neg h2, if_neg h2]; simp [h3, h5, h7]
    have hP : va_P D vwCl (textW c t (ntF τ)) H := by rw [eT9]; exact hP
    have hD : va_D A (textW c t (ntF τ)) := wk_D_ad hD [t 0, t 1] rfl rfl
    exact ret 135 ls H _ hP hS dX6_nextToken_135
  have lp0 : ∀ (n : Nat) (p : Nat), (p ≤ lnT τ) → (skL (τ 0) (lnT τ - p) p = ntS τ) → lnT τ - p < n → ∀ (H : Heap) (locs : List Loc), va_P D vwCl (textW c t (va_up τ 2 (fun _ => nI p))) H → va_D A (textW c t (va_up τ 2 (fun _ => nI p))) → va_S A H0 H locs → ∀ ls : Array Slot, lv_has ls 2 [(0, .ref (t 0))] → W pr l ev rmX6_nextToken ss mm args below meth cd H locs 0 0 Q (F0 mm 0 ls []) := by
    intro n
    induction n with
    | zero => intro p hi hv hn; exact absurd hn (Nat.not_lt_zero _)
    | succ n ih0 =>
      intro p hi hv hn H locs hP hD hS ls hl
      refine lv_aload_n hx hb dX6_nextToken_0 rfl (lv_at hl 0 rfl) ?_
      refine wg_X6_2 hx hb hts iX6 hown hK hP 0 rfl k1 (v := .int (nI p)) rfl dX6_nextToken_1 ?_
      refine lv_aload_n hx hb dX6_nextToken_4 rfl (lv_at hl 0 rfl) ?_
      refine wg_X6_1 hx hb hts iX6 hown hK hP 0 rfl k2 (v := .int (τ 1 0)) rfl dX6_nextToken_5 ?_
      refine wk_eqi (hT.1) ?_
      refine wk_ge (tgt := 38) hx hb p (lnT τ) rfl rfl (by omega) (by omega) dX6_nextToken_8 (by decide) (fun h12 => ?_) (fun h12 => ?_)
      · have hs : ntS τ = p := by rw [← hv, show lnT τ - p = 0 by omega]; rfl
        have hl : lv_has ls 2 [(0, .ref (t 0))] := lv_sub hl [0] rfl
        exact jn38 p hs H _ hP hD hS ls hl
      refine lv_aload_n hx hb dX6_nextToken_11 rfl (lv_at hl 0 rfl) ?_
      refine wg_X6_0 hx hb hts iX6 hown hK hP 0 rfl k3 (v := .ref (t 1)) rfl dX6_nextToken_12 ?_
      refine lv_aload_n hx hb dX6_nextToken_15 rfl (lv_at hl 0 rfl) ?_
      refine wg_X6_2 hx hb hts iX6 hown hK hP 0 rfl k1 (v := .int (nI p)) rfl dX6_nextToken_16 ?_
      refine wk_ald (f := τ 0) hx hb hK hP 1 0 rfl rfl p rfl (by omega) (by decide) dX6_nextToken_19 ?_
      refine lv_bipush (v := 32) hx hb dX6_nextToken_20 (by decide) ?_
      refine lv_icmp_ne (tgt := 38) hx hb dX6_nextToken_22 (by decide) (fun h13 => ?_) (fun h13 => ?_)
      · have hs : ntS τ = p := by rw [← hv, show lnT τ - p = (lnT τ - (p + 1)) + 1 by omega, skL, if_neg h13]
        have hl : lv_has ls 2 [(0, .ref (t 0))] := lv_sub hl [0] rfl
        exact jn38 p hs H _ hP hD hS ls hl
      refine lv_aload_n hx hb dX6_nextToken_25 rfl (lv_at hl 0 rfl) ?_
      refine lv_dup hx hb dX6_nextToken_26 rfl ?_
      refine wg_X6_2 hx hb hts iX6 hown hK hP 0 rfl k1 (v := .int (nI p)) rfl dX6_nextToken_27 ?_
      refine lv_iconst (v := 1) hx hb dX6_nextToken_30 (by decide) ?_
      refine lv_iadd hx hb dX6_nextToken_31 ?_
      refine wk_eqi (nI_add p 1) ?_
      refine wp_X6_2 hx hb hts iX6 hown hK hP hD hS 0 rfl k1 (Nat.le_of_ble_eq_true rfl) dX6_nextToken_32 (ws' := textW c t (va_up τ 2 (fun _ => nI (p + 1)))) rfl (fun H locs hP hD hS => ?_)
      refine lv_goto (tgt := 0) hx hb dX6_nextToken_35 (by decide) ?_
      have hl : lv_has ls 2 [(0, .ref (t 0))] := lv_sub hl [0] rfl
      exact ih0 (p + 1) (by omega) (by rw [← hv, show lnT τ - p = (lnT τ - (p + 1)) + 1 by omega, skL, if_pos h13]) (by omega) H _ hP hD hS ls hl
  have hP : va_P D vwCl (textW c t (va_up τ 2 (fun _ => nI (plT τ)))) H := by rw [← hpl.1]; exact hP
  have hD : va_D A (textW c t (va_up τ 2 (fun _ => nI (plT τ)))) := wk_D_ad hD [t 0, t 1] rfl rfl
  have hl : lv_has ls 2 [(0, .ref (t 0))] := lv_sub hl [0] rfl
  exact lp0 _ (plT τ) (hpl.2) (rfl) (Nat.lt_succ_self _) H _ hP hD hS ls hl

abbrev rmX6_readNumber : Room := { frames := 3, cells := 0, slots := 0, locals := 62 }
theorem hd_X6_readNumber : yX6_readNumber.cls = RX6 ∧ yX6_readNumber.cls ≠ "java/lang/invoke/MethodHandle" ∧ yX6_readNumber.cls ≠ "java/lang/invoke/VarHandle" ∧ (parseMethodDescriptor yX6_readNumber.desc).map (fun d => d.parameters.length) = some 2 := by decide +kernel
set_option maxHeartbeats 4000000 in
set_option maxRecDepth 100000 in
theorem c_X6_readNumber (l : Launch) (D : va_G) (c : Nat → ClassId) (t : Nat → Nat) (τ : Nat → Nat → Int32) (lo : Int32) (hi : Int32) (hT : wfT τ) (hpl : wfL τ) : wk_UpI l yX6_readNumber wsX6_readNumber rmX6_readNumber D (tysL c) [.ref (t 0), .int lo, .int hi] (textW c t τ) (textW c t (ntF τ)) (if numOK τ lo hi then 1 else 0) := by
  refine wk_mkU (cc := cX6_readNumber) (maxL := 3) (rt := .boolean) (by decide) rfl (Nat.le_of_ble_eq_true rfl) wk_narZ ?_
  intro A pr ev ss mm args below meth cd ls H H0 locs Q hst hP hK hD hS hA hl ret
  obtain ⟨hx, hb, hml, hown, hts, -⟩ := hst
  have hown : ss.vm.findClass RX6 = some mm.cls := hown
  have hl : lv_has ls 3 [(0, .ref (t 0)), (1, .int lo), (2, .int hi)] := hl
  have k1 := hts (.fieldLink RX6 34 "LastWord$Text" "token" "I") (List.mem_of_getElem? (i := 1) rfl)
  have k2 := hts (.fieldLink RX6 61 "LastWord$Text" "value" "I") (List.mem_of_getElem? (i := 2) rfl)
  have iX6 : ∀ w ∈ u_ws RX6 TX6 7, w ∈ wsX6_readNumber := fun _ h => (List.mem_cons_of_mem _ (List.mem_append_right _ h))
  refine lv_aload_n hx hb dX6_readNumber_0 rfl (lv_at hl 0 rfl) ?_
  refine wk_callVV (As := []) (rest := []) ⟨hx, hb, hml, hown, hts⟩ (c_X6_nextToken l D c t τ (hT) (hpl)) (cwV 0 hts gX6_readNumber_X6_nextToken rfl rfl rfl hd_X6_nextToken ⟨Nat.le_of_ble_eq_true rfl, Nat.le_of_ble_eq_true rfl⟩) hK hP hD hS hA [0, 1] [] 2 rfl rfl [t 0, t 1] rfl rfl (ws' := textW c t (ntF τ)) rfl (wr := []) rfl rfl rfl rfl 0 rfl rfl rfl hl.1 rfl (Nat.le_of_ble_eq_true rfl) dX6_readNumber_1 (Nat.zero_le _) (Nat.zero_le _) (fun H locs hP hD hS => ?_)
  refine lv_aload_n hx hb dX6_readNumber_4 rfl (lv_at hl 0 rfl) ?_
  refine wg_X6_5 hx hb hts iX6 hown hK hP 0 rfl k1 (v := .int ((ntF τ) 5 0)) rfl dX6_readNumber_5 ?_
  refine wk_eqi (y := ntT τ) rfl ?_
  refine lv_bipush (v := -2) hx hb dX6_readNumber_8 (by decide) ?_
  refine lv_icmp_ne (tgt := 33) hx hb dX6_readNumber_10 (by decide) (fun h1 => ?_) (fun h1 => ?_)
  · refine lv_iconst (v := 0) hx hb dX6_readNumber_33 (by decide) ?_
    exact ret 34 ls H _ 0 ((if_neg (fun q => absurd q.1 h1)).symm) hP hS dX6_readNumber_34
  refine lv_aload_n hx hb dX6_readNumber_13 rfl (lv_at hl 0 rfl) ?_
  refine wg_X6_6 hx hb hts iX6 hown hK hP 0 rfl k2 (v := .int ((ntF τ) 6 0)) rfl dX6_readNumber_14 ?_
  refine wk_eqi (y := ntV τ) rfl ?_
  refine lv_iload_n hx hb dX6_readNumber_17 rfl (lv_at hl 1 rfl) ?_
  refine lv_icmp_lt (tgt := 33) hx hb dX6_readNumber_18 (by decide) (fun h2 => ?_) (fun h2 => ?_)
  · refine lv_iconst (v := 0) hx hb dX6_readNumber_33 (by decide) ?_
    exact ret 34 ls H _ 0 ((if_neg (fun q => absurd h2 (Int32.not_lt.mpr q.2.1))).symm) hP hS dX6_readNumber_34
  refine lv_aload_n hx hb dX6_readNumber_21 rfl (lv_at hl 0 rfl) ?_
  refine wg_X6_6 hx hb hts iX6 hown hK hP 0 rfl k2 (v := .int ((ntF τ) 6 0)) rfl dX6_readNumber_22 ?_
  refine wk_eqi (y := ntV τ) rfl ?_
  refine lv_iload_n hx hb dX6_readNumber_25 rfl (lv_at hl 2 rfl) ?_
  refine lv_icmp_gt (tgt := 33) hx hb dX6_readNumber_26 (by decide) (fun h3 => ?_) (fun h3 => ?_)
  · refine lv_iconst (v := 0) hx hb dX6_readNumber_33 (by decide) ?_
    exact ret 34 ls H _ 0 ((if_neg (fun q => absurd h3 (Int32.not_lt.mpr q.2.2))).symm) hP hS dX6_readNumber_34
  refine lv_iconst (v := 1) hx hb dX6_readNumber_29 (by decide) ?_
  refine lv_goto (tgt := 34) hx hb dX6_readNumber_30 (by decide) ?_
  exact ret 34 ls H _ 1 ((if_pos ⟨h1, Int32.not_lt.mp h2, Int32.not_lt.mp h3⟩).symm) hP hS dX6_readNumber_34

abbrev rmX6_readSemicolon : Room := { frames := 3, cells := 0, slots := 0, locals := 62 }
theorem hd_X6_readSemicolon : yX6_readSemicolon.cls = RX6 ∧ yX6_readSemicolon.cls ≠ "java/lang/invoke/MethodHandle" ∧ yX6_readSemicolon.cls ≠ "java/lang/invoke/VarHandle" ∧ (parseMethodDescriptor yX6_readSemicolon.desc).map (fun d => d.parameters.length) = some 0 := by decide +kernel
set_option maxHeartbeats 4000000 in
set_option maxRecDepth 100000 in
theorem c_X6_readSemicolon (l : Launch) (D : va_G) (c : Nat → ClassId) (t : Nat → Nat) (τ : Nat → Nat → Int32) (hT : wfT τ) (hpl : wfL τ) : wk_UpI l yX6_readSemicolon wsX6_readSemicolon rmX6_readSemicolon D (tysL c) [.ref (t 0)] (textW c t τ) (textW c t (ntF τ)) (if ntT τ = 59 then 1 else 0) := by
  refine wk_mkU (cc := cX6_readSemicolon) (maxL := 1) (rt := .boolean) (by decide) rfl (Nat.le_of_ble_eq_true rfl) wk_narZ ?_
  intro A pr ev ss mm args below meth cd ls H H0 locs Q hst hP hK hD hS hA hl ret
  obtain ⟨hx, hb, hml, hown, hts, -⟩ := hst
  have hown : ss.vm.findClass RX6 = some mm.cls := hown
  have hl : lv_has ls 1 [(0, .ref (t 0))] := hl
  have k1 := hts (.fieldLink RX6 34 "LastWord$Text" "token" "I") (List.mem_of_getElem? (i := 1) rfl)
  have iX6 : ∀ w ∈ u_ws RX6 TX6 7, w ∈ wsX6_readSemicolon := fun _ h => (List.mem_cons_of_mem _ (List.mem_append_right _ h))
  refine lv_aload_n hx hb dX6_readSemicolon_0 rfl (lv_at hl 0 rfl) ?_
  refine wk_callVV (As := []) (rest := []) ⟨hx, hb, hml, hown, hts⟩ (c_X6_nextToken l D c t τ (hT) (hpl)) (cwV 0 hts gX6_readSemicolon_X6_nextToken rfl rfl rfl hd_X6_nextToken ⟨Nat.le_of_ble_eq_true rfl, Nat.le_of_ble_eq_true rfl⟩) hK hP hD hS hA [0, 1] [] 2 rfl rfl [t 0, t 1] rfl rfl (ws' := textW c t (ntF τ)) rfl (wr := []) rfl rfl rfl rfl 0 rfl rfl rfl hl.1 rfl (Nat.le_of_ble_eq_true rfl) dX6_readSemicolon_1 (Nat.zero_le _) (Nat.zero_le _) (fun H locs hP hD hS => ?_)
  refine lv_aload_n hx hb dX6_readSemicolon_4 rfl (lv_at hl 0 rfl) ?_
  refine wg_X6_5 hx hb hts iX6 hown hK hP 0 rfl k1 (v := .int ((ntF τ) 5 0)) rfl dX6_readSemicolon_5 ?_
  refine wk_eqi (y := ntT τ) rfl ?_
  refine lv_bipush (v := 59) hx hb dX6_readSemicolon_8 (by decide) ?_
  refine lv_icmp_ne (tgt := 17) hx hb dX6_readSemicolon_10 (by decide) (fun h1 => ?_) (fun h1 => ?_)
  · refine lv_iconst (v := 0) hx hb dX6_readSemicolon_17 (by decide) ?_
    exact ret 18 ls H _ 0 (by simp [h1]) hP hS dX6_readSemicolon_18
  refine lv_iconst (v := 1) hx hb dX6_readSemicolon_13 (by decide) ?_
  refine lv_goto (tgt := 18) hx hb dX6_readSemicolon_14 (by decide) ?_
  exact ret 18 ls H _ 1 (by simp [h1]) hP hS dX6_readSemicolon_18

abbrev rmX6_readTerm : Room := { frames := 4, cells := 0, slots := 0, locals := 84 }
theorem hd_X6_readTerm : yX6_readTerm.cls = RX6 ∧ yX6_readTerm.cls ≠ "java/lang/invoke/MethodHandle" ∧ yX6_readTerm.cls ≠ "java/lang/invoke/VarHandle" ∧ (parseMethodDescriptor yX6_readTerm.desc).map (fun d => d.parameters.length) = some 1 := by decide +kernel
set_option maxHeartbeats 4000000 in
set_option maxRecDepth 100000 in
theorem c_X6_readTerm (l : Launch) (D : va_G) (c : Nat → ClassId) (t : Nat → Nat) (τ : Nat → Nat → Int32) (p : Nat → Nat) (π : Nat → Nat → Int32) (hT : wfT τ) (hpl : wfL τ) : wk_UpI l yX6_readTerm wsX6_readTerm rmX6_readTerm D (tysL c) [.ref (t 0), .ref (p 0)] (textW c t τ ++ pageW c p π) (textW c t (rtT τ) ++ pageW c p (rtP π τ)) (if rtOK τ then 1 else 0) := by
  refine wk_mkU (cc := cX6_readTerm) (maxL := 2) (rt := .boolean) (by decide) rfl (Nat.le_of_ble_eq_true rfl) wk_narZ ?_
  intro A pr ev ss mm args below meth cd ls H H0 locs Q hst hP hK hD hS hA hl ret
  obtain ⟨hx, hb, hml, hown, hts, -⟩ := hst
  have hown : ss.vm.findClass RX6 = some mm.cls := hown
  have hl : lv_has ls 2 [(0, .ref (t 0)), (1, .ref (p 0))] := hl
  have k1 := hts (.fieldLink RX6 27 "LastWord$Text" "termTold" "Z") (List.mem_of_getElem? (i := 1) rfl)
  have k2 := hts (.fieldLink RX6 61 "LastWord$Text" "value" "I") (List.mem_of_getElem? (i := 2) rfl)
  have k3 := hts (.fieldLink RX6 71 "LastWord$Page" "term" "I") (List.mem_of_getElem? (i := 3) rfl)
  have iX5 : ∀ w ∈ u_ws RX5 TX5 5, w ∈ wsX6_readTerm := fun _ h => (List.mem_cons_of_mem _ (List.mem_append_right _ h))
  have iX6 : ∀ w ∈ u_ws RX6 TX6 7, w ∈ wsX6_readTerm := fun _ h => (List.mem_cons_of_mem _ (List.mem_append_left _ (List.mem_append_right _ h)))
  refine lv_aload_n hx hb dX6_readTerm_0 rfl (lv_at hl 0 rfl) ?_
  refine wg_X6_3 hx hb hts iX6 hown hK hP 0 rfl k1 (v := .int (τ 3 0)) rfl dX6_readTerm_1 ?_
  refine lv_if_ne (tgt := 17) hx hb dX6_readTerm_4 (by decide) (fun h1 => ?_) (fun h1 => ?_)
  · refine lv_iconst (v := 0) hx hb dX6_readTerm_17 (by decide) ?_
    have eg2 : τ = rtT τ := by rw [rtT, if_neg h1]
    have hP : va_P D vwCl (textW c t (rtT τ) ++ pageW c p π) H := by rw [← eg2]; exact hP
    have hD : va_D A (textW c t (rtT τ) ++ pageW c p π) := by rw [← eg2]; exact hD
    have eg3 : π = rtP π τ := by rw [rtP, if_neg (fun q => absurd q.1 h1)]
    have hP : va_P D vwCl (textW c t (rtT τ) ++ pageW c p (rtP π τ)) H := by rw [← eg3]; exact hP
    have hD : va_D A (textW c t (rtT τ) ++ pageW c p (rtP π τ)) := by rw [← eg3]; exact hD
    exact ret 18 ls H _ 0 ((if_neg (fun q => absurd q.1 h1)).symm) hP hS dX6_readTerm_18
  refine lv_aload_n hx hb dX6_readTerm_7 rfl (lv_at hl 0 rfl) ?_
  refine lv_iconst (v := 1) hx hb dX6_readTerm_8 (by decide) ?_
  refine lv_bipush (v := 20) hx hb dX6_readTerm_9 (by decide) ?_
  refine wk_callUV (As := [.int 1, .int 20]) (rest := []) ⟨hx, hb, hml, hown, hts⟩ (c_X6_readNumber l D c t τ 1 20 (hT) (hpl)) (cwV 2 hts gX6_readTerm_X6_readNumber rfl rfl rfl hd_X6_readNumber ⟨Nat.le_of_ble_eq_true rfl, Nat.le_of_ble_eq_true rfl⟩) hK hP hD hS hA [0, 1] [2, 3, 4, 5, 6, 7, 8, 9, 10, 11] 12 rfl rfl [t 0, t 1] rfl rfl (ws' := textW c t (ntF τ) ++ pageW c p π) rfl (wr := pageW c p π) rfl rfl rfl rfl 0 rfl rfl rfl hl.1 rfl (Nat.le_of_ble_eq_true rfl) dX6_readTerm_11 (Nat.zero_le _) (Nat.zero_le _) (fun H locs hP hD hS => ?_)
  refine wk_bnz (tgt := 19) hx hb dX6_readTerm_14 (by decide) (fun h4 => ?_) (fun h4 => ?_)
  rotate_left
  · refine lv_iconst (v := 0) hx hb dX6_readTerm_17 (by decide) ?_
    have eg7 : ntF τ = rtT τ := by rw [rtT, if_pos h1, if_neg h4]
    have hP : va_P D vwCl (textW c t (rtT τ) ++ pageW c p π) H := by rw [← eg7]; exact hP
    have hD : va_D A (textW c t (rtT τ) ++ pageW c p π) := by rw [← eg7]; exact hD
    have eg8 : π = rtP π τ := by rw [rtP, if_neg (fun q => absurd q.2 h4)]
    have hP : va_P D vwCl (textW c t (rtT τ) ++ pageW c p (rtP π τ)) H := by rw [← eg8]; exact hP
    have hD : va_D A (textW c t (rtT τ) ++ pageW c p (rtP π τ)) := by rw [← eg8]; exact hD
    exact ret 18 ls H _ 0 ((if_neg (fun q => absurd q.2 h4)).symm) hP hS dX6_readTerm_18
  refine lv_aload_n hx hb dX6_readTerm_19 rfl (lv_at hl 0 rfl) ?_
  refine lv_iconst (v := 1) hx hb dX6_readTerm_20 (by decide) ?_
  refine wp_X6_3 hx hb hts iX6 hown hK hP hD hS 0 rfl k1 (Nat.le_of_ble_eq_true rfl) (by decide) dX6_readTerm_21 (ws' := textW c t (va_up (ntF τ) 3 (fun _ => 1)) ++ pageW c p π) rfl (fun H locs hP hD hS => ?_)
  refine lv_aload_n hx hb dX6_readTerm_24 rfl (lv_at hl 1 rfl) ?_
  refine lv_aload_n hx hb dX6_readTerm_25 rfl (lv_at hl 0 rfl) ?_
  refine wg_X6_6 hx hb hts iX6 hown hK hP 0 rfl k2 (v := .int ((ntF τ) 6 0)) rfl dX6_readTerm_26 ?_
  refine wk_eqi (y := ntV τ) rfl ?_
  refine wp_X5_1 hx hb hts iX5 hown hK hP hD hS 2 rfl k3 (Nat.le_of_ble_eq_true rfl) dX6_readTerm_29 (ws' := textW c t (va_up (ntF τ) 3 (fun _ => 1)) ++ pageW c p (va_up π 1 (fun _ => ntV τ))) rfl (fun H locs hP hD hS => ?_)
  refine lv_iconst (v := 1) hx hb dX6_readTerm_32 (by decide) ?_
  have eg5 : va_up (ntF τ) 3 (fun _ => 1) = rtT τ := by rw [rtT, if_pos h1, if_pos h4]
  have hP : va_P D vwCl (textW c t (rtT τ) ++ pageW c p (va_up π 1 (fun _ => ntV τ))) H := by rw [← eg5]; exact hP
  have hD : va_D A (textW c t (rtT τ) ++ pageW c p (va_up π 1 (fun _ => ntV τ))) := by rw [← eg5]; exact hD
  have eg6 : va_up π 1 (fun _ => ntV τ) = rtP π τ := by rw [rtP, if_pos ⟨h1, h4⟩]
  have hP : va_P D vwCl (textW c t (rtT τ) ++ pageW c p (rtP π τ)) H := by rw [← eg6]; exact hP
  have hD : va_D A (textW c t (rtT τ) ++ pageW c p (rtP π τ)) := by rw [← eg6]; exact hD
  exact ret 33 ls H _ 1 ((if_pos ⟨h1, h4⟩).symm) hP hS dX6_readTerm_33

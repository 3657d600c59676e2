/-! ===== LastWordModel, walked: what stands ===== -/
abbrev rmX8_isWriter : Room := { frames := 1, cells := 0, slots := 0, locals := 25 }
theorem hd_X8_isWriter : yX8_isWriter.cls = RX8 ∧ yX8_isWriter.cls ≠ "java/lang/invoke/MethodHandle" ∧ yX8_isWriter.cls ≠ "java/lang/invoke/VarHandle" ∧ (parseMethodDescriptor yX8_isWriter.desc).map (fun d => d.parameters.length) = some 1 := by decide +kernel
set_option maxHeartbeats 4000000 in
set_option maxRecDepth 100000 in
theorem c_X8_isWriter (l : Launch) (D : va_G) (c : Nat → ClassId) (ad : Nat → Nat) (μ : Nat → Nat → Int32) (r : Int64) (w : Int32) : wk_RdI l yX8_isWriter wsX8_isWriter rmX8_isWriter D (tysL c) [.ref (ad 0), .int w] (modelW c ad μ r) (if isWM μ w then 1 else 0) := by
  refine wk_mkR (cc := cX8_isWriter) (maxL := 2) (rt := .boolean) (by decide) rfl (Nat.le_of_ble_eq_true rfl) wk_narZ ?_
  intro pr ev ss mm args below meth cd ls H Q hst hP hK hl ret
  obtain ⟨hx, hb, hml, hown, hts, -⟩ := hst
  have hown : ss.vm.findClass RX8 = some mm.cls := hown
  have hl : lv_has ls 2 [(0, .ref (ad 0)), (1, .int w)] := hl
  have k1 := hts (.fieldLink RX8 16 "LastWordModel" "paper" "[I") (List.mem_of_getElem? (i := 1) rfl)
  have iX8 : ∀ w ∈ u_ws RX8 TX8 18, w ∈ wsX8_isWriter := fun _ h => (List.mem_cons_of_mem _ (List.mem_append_right _ h))
  refine lv_iload_n hx hb dX8_isWriter_0 rfl (lv_at hl 1 rfl) ?_
  refine lv_i2l (v := Int32.toInt64 w) hx hb dX8_isWriter_1 rfl ?_
  refine lv_lconst (v := 0) hx hb dX8_isWriter_2 (by decide) ?_
  refine lv_aload_n hx hb dX8_isWriter_3 rfl (lv_at hl 0 rfl) ?_
  refine wg_X8_7 hx hb hts iX8 hown hK hP 0 rfl k1 (v := .ref (ad 7)) rfl dX8_isWriter_4 ?_
  refine lv_iconst (v := 0) hx hb dX8_isWriter_7 (by decide) ?_
  refine wk_ald (f := μ 7) hx hb hK hP 3 0 rfl rfl 0 rfl (by omega) (by decide) dX8_isWriter_8 ?_
  refine lv_iconst (v := 1) hx hb dX8_isWriter_9 (by decide) ?_
  refine lv_isub hx hb dX8_isWriter_10 ?_
  refine lv_i2l (v := Int32.toInt64 ((μ 7 0) - 1)) hx hb dX8_isWriter_11 rfl ?_
  refine wk_callRS (As := [.long (Int32.toInt64 w), .long (Int32.toInt64 0), .long (Int32.toInt64 ((μ 7 0) - 1))]) (rest := []) ⟨hx, hb, hml, hown, hts⟩ (c_X8_in l D c w 0 ((μ 7 0) - 1)) (va_cwS 3 hts gX8_isWriter_X8_in rfl rfl rfl hd_X8_in ⟨Nat.le_of_ble_eq_true rfl, Nat.le_of_ble_eq_true rfl⟩) hK hP [] rfl rfl hl.1 rfl (Nat.le_of_ble_eq_true rfl) dX8_isWriter_12 (Nat.zero_le _) (Nat.zero_le _) ?_
  exact ret 15 ls (if inB w 0 ((μ 7 0) - 1) then 1 else 0) (by rfl) dX8_isWriter_15

abbrev rmX8_isQuarrel : Room := { frames := 1, cells := 0, slots := 0, locals := 25 }
theorem hd_X8_isQuarrel : yX8_isQuarrel.cls = RX8 ∧ yX8_isQuarrel.cls ≠ "java/lang/invoke/MethodHandle" ∧ yX8_isQuarrel.cls ≠ "java/lang/invoke/VarHandle" ∧ (parseMethodDescriptor yX8_isQuarrel.desc).map (fun d => d.parameters.length) = some 1 := by decide +kernel
set_option maxHeartbeats 4000000 in
set_option maxRecDepth 100000 in
theorem c_X8_isQuarrel (l : Launch) (D : va_G) (c : Nat → ClassId) (ad : Nat → Nat) (μ : Nat → Nat → Int32) (r : Int64) (q : Int32) : wk_RdI l yX8_isQuarrel wsX8_isQuarrel rmX8_isQuarrel D (tysL c) [.ref (ad 0), .int q] (modelW c ad μ r) (if isQM μ q then 1 else 0) := by
  refine wk_mkR (cc := cX8_isQuarrel) (maxL := 2) (rt := .boolean) (by decide) rfl (Nat.le_of_ble_eq_true rfl) wk_narZ ?_
  intro pr ev ss mm args below meth cd ls H Q hst hP hK hl ret
  obtain ⟨hx, hb, hml, hown, hts, -⟩ := hst
  have hown : ss.vm.findClass RX8 = some mm.cls := hown
  have hl : lv_has ls 2 [(0, .ref (ad 0)), (1, .int q)] := hl
  have k1 := hts (.fieldLink RX8 19 "LastWordModel" "now" "[I") (List.mem_of_getElem? (i := 1) rfl)
  have iX8 : ∀ w ∈ u_ws RX8 TX8 18, w ∈ wsX8_isQuarrel := fun _ h => (List.mem_cons_of_mem _ (List.mem_append_right _ h))
  refine lv_iload_n hx hb dX8_isQuarrel_0 rfl (lv_at hl 1 rfl) ?_
  refine lv_i2l (v := Int32.toInt64 q) hx hb dX8_isQuarrel_1 rfl ?_
  refine lv_lconst (v := 0) hx hb dX8_isQuarrel_2 (by decide) ?_
  refine lv_aload_n hx hb dX8_isQuarrel_3 rfl (lv_at hl 0 rfl) ?_
  refine wg_X8_8 hx hb hts iX8 hown hK hP 0 rfl k1 (v := .ref (ad 8)) rfl dX8_isQuarrel_4 ?_
  refine lv_iconst (v := 1) hx hb dX8_isQuarrel_7 (by decide) ?_
  refine wk_ald (f := μ 8) hx hb hK hP 4 0 rfl rfl 1 rfl (by omega) (by decide) dX8_isQuarrel_8 ?_
  refine lv_iconst (v := 1) hx hb dX8_isQuarrel_9 (by decide) ?_
  refine lv_isub hx hb dX8_isQuarrel_10 ?_
  refine lv_i2l (v := Int32.toInt64 ((μ 8 1) - 1)) hx hb dX8_isQuarrel_11 rfl ?_
  refine wk_callRS (As := [.long (Int32.toInt64 q), .long (Int32.toInt64 0), .long (Int32.toInt64 ((μ 8 1) - 1))]) (rest := []) ⟨hx, hb, hml, hown, hts⟩ (c_X8_in l D c q 0 ((μ 8 1) - 1)) (va_cwS 3 hts gX8_isQuarrel_X8_in rfl rfl rfl hd_X8_in ⟨Nat.le_of_ble_eq_true rfl, Nat.le_of_ble_eq_true rfl⟩) hK hP [] rfl rfl hl.1 rfl (Nat.le_of_ble_eq_true rfl) dX8_isQuarrel_12 (Nat.zero_le _) (Nat.zero_le _) ?_
  exact ret 15 ls (if inB q 0 ((μ 8 1) - 1) then 1 else 0) (by rfl) dX8_isQuarrel_15

abbrev rmX8_isSubject : Room := { frames := 1, cells := 0, slots := 0, locals := 25 }
theorem hd_X8_isSubject : yX8_isSubject.cls ≠ "java/lang/invoke/MethodHandle" ∧ yX8_isSubject.cls ≠ "java/lang/invoke/VarHandle" ∧ (parseMethodDescriptor yX8_isSubject.desc).map (fun d => d.parameters.length) = some 1 := by decide +kernel
set_option maxHeartbeats 4000000 in
set_option maxRecDepth 100000 in
theorem c_X8_isSubject (l : Launch) (D : va_G) (c : Nat → ClassId) (x2 : Int32) : wk_RdI l yX8_isSubject wsX8_isSubject rmX8_isSubject D (tysL c) [.int x2] ([]) (if isSM x2 then 1 else 0) := by
  refine wk_mkR (cc := cX8_isSubject) (maxL := 1) (rt := .boolean) (by decide) rfl (Nat.le_of_ble_eq_true rfl) wk_narZ ?_
  intro pr ev ss mm args below meth cd ls H Q hst hP hK hl ret
  obtain ⟨hx, hb, hml, hown, hts, -⟩ := hst
  have hown : ss.vm.findClass RX8 = some mm.cls := hown
  have hl : lv_has ls 1 [(0, .int x2)] := hl
  have k1 := hts (.constantLong RX8 90 (4)) (List.mem_of_getElem? (i := 1) rfl)
  refine lv_iload_n hx hb dX8_isSubject_0 rfl (lv_at hl 0 rfl) ?_
  refine lv_i2l (v := Int32.toInt64 x2) hx hb dX8_isSubject_1 rfl ?_
  refine lv_lconst (v := 0) hx hb dX8_isSubject_2 (by decide) ?_
  refine lv_ldc2 hx hb hown k1 dX8_isSubject_3 ?_
  refine wk_callRS (As := [.long (Int32.toInt64 x2), .long (Int32.toInt64 0), .long (Int32.toInt64 4)]) (rest := []) ⟨hx, hb, hml, hown, hts⟩ (c_X8_in l D c x2 0 4) (va_cwS 3 hts gX8_isSubject_X8_in rfl rfl rfl hd_X8_in ⟨Nat.le_of_ble_eq_true rfl, Nat.le_of_ble_eq_true rfl⟩) hK hP [] rfl rfl hl.1 rfl (Nat.le_of_ble_eq_true rfl) dX8_isSubject_6 (Nat.zero_le _) (Nat.zero_le _) ?_
  exact ret 9 ls (if inB x2 0 4 then 1 else 0) (by rfl) dX8_isSubject_9

abbrev rmX8_pen : Room := { frames := 0, cells := 0, slots := 0, locals := 0 }
theorem hd_X8_pen : yX8_pen.cls = RX8 ∧ yX8_pen.cls ≠ "java/lang/invoke/MethodHandle" ∧ yX8_pen.cls ≠ "java/lang/invoke/VarHandle" ∧ (parseMethodDescriptor yX8_pen.desc).map (fun d => d.parameters.length) = some 1 := by decide +kernel
set_option maxHeartbeats 4000000 in
set_option maxRecDepth 100000 in
theorem c_X8_pen (l : Launch) (D : va_G) (c : Nat → ClassId) (ad : Nat → Nat) (μ : Nat → Nat → Int32) (r : Int64) (w : Nat) (hw : w < 6) : wk_RdI l yX8_pen wsX8_pen rmX8_pen D (tysL c) [.ref (ad 0), .int (nI w)] (modelW c ad μ r) (μ 7 (3 + 7 * w)) := by
  refine wk_mkR (cc := cX8_pen) (maxL := 2) (rt := .int) (by decide) rfl (Nat.le_of_ble_eq_true rfl) rfl ?_
  intro pr ev ss mm args below meth cd ls H Q hst hP hK hl ret
  obtain ⟨hx, hb, hml, hown, hts, -⟩ := hst
  have hown : ss.vm.findClass RX8 = some mm.cls := hown
  have hl : lv_has ls 2 [(0, .ref (ad 0)), (1, .int (nI w))] := hl
  have k1 := hts (.fieldLink RX8 16 "LastWordModel" "paper" "[I") (List.mem_of_getElem? (i := 1) rfl)
  have iX8 : ∀ w ∈ u_ws RX8 TX8 18, w ∈ wsX8_pen := fun _ h => (List.mem_cons_of_mem _ (List.mem_append_right _ h))
  refine lv_aload_n hx hb dX8_pen_0 rfl (lv_at hl 0 rfl) ?_
  refine wg_X8_7 hx hb hts iX8 hown hK hP 0 rfl k1 (v := .ref (ad 7)) rfl dX8_pen_1 ?_
  refine lv_iconst (v := 3) hx hb dX8_pen_4 (by decide) ?_
  refine lv_bipush (v := 7) hx hb dX8_pen_5 (by decide) ?_
  refine lv_iload_n hx hb dX8_pen_7 rfl (lv_at hl 1 rfl) ?_
  refine lv_imul hx hb dX8_pen_8 ?_
  refine wk_eqi (pk_mul 7 w) ?_
  refine lv_iadd hx hb dX8_pen_9 ?_
  refine wk_eqi (nI_add 3 (7 * w)) ?_
  refine wk_ald (f := μ 7) hx hb hK hP 3 0 rfl rfl (3 + (7 * w)) rfl (by omega) (by decide) dX8_pen_10 ?_
  exact ret 11 ls (μ 7 (3 + (7 * w))) (by rfl) dX8_pen_11

abbrev rmX8_near : Room := { frames := 0, cells := 0, slots := 0, locals := 0 }
theorem hd_X8_near : yX8_near.cls = RX8 ∧ yX8_near.cls ≠ "java/lang/invoke/MethodHandle" ∧ yX8_near.cls ≠ "java/lang/invoke/VarHandle" ∧ (parseMethodDescriptor yX8_near.desc).map (fun d => d.parameters.length) = some 2 := by decide +kernel
set_option maxHeartbeats 4000000 in
set_option maxRecDepth 100000 in
theorem c_X8_near (l : Launch) (D : va_G) (c : Nat → ClassId) (ad : Nat → Nat) (μ : Nat → Nat → Int32) (r : Int64) (w : Nat) (x2 : Nat) (hw : w < 6) (hs : x2 < 5) : wk_RdI l yX8_near wsX8_near rmX8_near D (tysL c) [.ref (ad 0), .int (nI w), .int (nI x2)] (modelW c ad μ r) (nrM μ w x2) := by
  refine wk_mkR (cc := cX8_near) (maxL := 3) (rt := .int) (by decide) rfl (Nat.le_of_ble_eq_true rfl) rfl ?_
  intro pr ev ss mm args below meth cd ls H Q hst hP hK hl ret
  obtain ⟨hx, hb, hml, hown, hts, -⟩ := hst
  have hown : ss.vm.findClass RX8 = some mm.cls := hown
  have hl : lv_has ls 3 [(0, .ref (ad 0)), (1, .int (nI w)), (2, .int (nI x2))] := hl
  have k1 := hts (.fieldLink RX8 16 "LastWordModel" "paper" "[I") (List.mem_of_getElem? (i := 1) rfl)
  have iX8 : ∀ w ∈ u_ws RX8 TX8 18, w ∈ wsX8_near := fun _ h => (List.mem_cons_of_mem _ (List.mem_append_right _ h))
  refine lv_aload_n hx hb dX8_near_0 rfl (lv_at hl 0 rfl) ?_
  refine wg_X8_7 hx hb hts iX8 hown hK hP 0 rfl k1 (v := .ref (ad 7)) rfl dX8_near_1 ?_
  refine lv_iconst (v := 3) hx hb dX8_near_4 (by decide) ?_
  refine lv_bipush (v := 7) hx hb dX8_near_5 (by decide) ?_
  refine lv_iload_n hx hb dX8_near_7 rfl (lv_at hl 1 rfl) ?_
  refine lv_imul hx hb dX8_near_8 ?_
  refine wk_eqi (pk_mul 7 w) ?_
  refine lv_iadd hx hb dX8_near_9 ?_
  refine wk_eqi (nI_add 3 (7 * w)) ?_
  refine lv_iconst (v := 2) hx hb dX8_near_10 (by decide) ?_
  refine lv_iadd hx hb dX8_near_11 ?_
  refine wk_eqi (nI_add (3 + (7 * w)) 2) ?_
  refine lv_iload_n hx hb dX8_near_12 rfl (lv_at hl 2 rfl) ?_
  refine lv_iadd hx hb dX8_near_13 ?_
  refine wk_eqi (nI_add ((3 + (7 * w)) + 2) x2) ?_
  refine wk_ald (f := μ 7) hx hb hK hP 3 0 rfl rfl (((3 + (7 * w)) + 2) + x2) rfl (by omega) (by decide) dX8_near_14 ?_
  exact ret 15 ls (μ 7 (((3 + (7 * w)) + 2) + x2)) (by rfl) dX8_near_15

abbrev rmX8_hasLaid : Room := { frames := 0, cells := 0, slots := 0, locals := 0 }
theorem hd_X8_hasLaid : yX8_hasLaid.cls = RX8 ∧ yX8_hasLaid.cls ≠ "java/lang/invoke/MethodHandle" ∧ yX8_hasLaid.cls ≠ "java/lang/invoke/VarHandle" ∧ (parseMethodDescriptor yX8_hasLaid.desc).map (fun d => d.parameters.length) = some 1 := by decide +kernel
set_option maxHeartbeats 4000000 in
set_option maxRecDepth 100000 in
theorem c_X8_hasLaid (l : Launch) (D : va_G) (c : Nat → ClassId) (ad : Nat → Nat) (μ : Nat → Nat → Int32) (r : Int64) (w : Int32) : wk_RdI l yX8_hasLaid wsX8_hasLaid rmX8_hasLaid D (tysL c) [.ref (ad 0), .int w] (modelW c ad μ r) (if laidM μ w then 1 else 0) := by
  refine wk_mkR (cc := cX8_hasLaid) (maxL := 2) (rt := .boolean) (by decide) rfl (Nat.le_of_ble_eq_true rfl) wk_narZ ?_
  intro pr ev ss mm args below meth cd ls H Q hst hP hK hl ret
  obtain ⟨hx, hb, hml, hown, hts, -⟩ := hst
  have hown : ss.vm.findClass RX8 = some mm.cls := hown
  have hl : lv_has ls 2 [(0, .ref (ad 0)), (1, .int w)] := hl
  have k1 := hts (.fieldLink RX8 19 "LastWordModel" "now" "[I") (List.mem_of_getElem? (i := 1) rfl)
  have iX8 : ∀ w ∈ u_ws RX8 TX8 18, w ∈ wsX8_hasLaid := fun _ h => (List.mem_cons_of_mem _ (List.mem_append_right _ h))
  refine lv_aload_n hx hb dX8_hasLaid_0 rfl (lv_at hl 0 rfl) ?_
  refine wg_X8_8 hx hb hts iX8 hown hK hP 0 rfl k1 (v := .ref (ad 8)) rfl dX8_hasLaid_1 ?_
  refine lv_iconst (v := 2) hx hb dX8_hasLaid_4 (by decide) ?_
  refine wk_ald (f := μ 8) hx hb hK hP 4 0 rfl rfl 2 rfl (by omega) (by decide) dX8_hasLaid_5 ?_
  refine lv_iload_n hx hb dX8_hasLaid_6 rfl (lv_at hl 1 rfl) ?_
  refine lv_ishr hx hb dX8_hasLaid_7 ?_
  refine lv_iconst (v := 1) hx hb dX8_hasLaid_8 (by decide) ?_
  refine lv_iand hx hb dX8_hasLaid_9 ?_
  refine lv_iconst (v := 1) hx hb dX8_hasLaid_10 (by decide) ?_
  refine lv_icmp_ne (tgt := 18) hx hb dX8_hasLaid_11 (by decide) (fun h1 => ?_) (fun h1 => ?_)
  · refine lv_iconst (v := 0) hx hb dX8_hasLaid_18 (by decide) ?_
    exact ret 19 ls 0 (by simp [laidM, h1]) dX8_hasLaid_19
  refine lv_iconst (v := 1) hx hb dX8_hasLaid_14 (by decide) ?_
  refine lv_goto (tgt := 19) hx hb dX8_hasLaid_15 (by decide) ?_
  exact ret 19 ls 1 (by simp [laidM, h1]) dX8_hasLaid_19

abbrev rmX8_answers : Room := { frames := 0, cells := 0, slots := 0, locals := 0 }
theorem hd_X8_answers : yX8_answers.cls = RX8 ∧ yX8_answers.cls ≠ "java/lang/invoke/MethodHandle" ∧ yX8_answers.cls ≠ "java/lang/invoke/VarHandle" ∧ (parseMethodDescriptor yX8_answers.desc).map (fun d => d.parameters.length) = some 2 := by decide +kernel
set_option maxHeartbeats 4000000 in
set_option maxRecDepth 100000 in
theorem c_X8_answers (l : Launch) (D : va_G) (c : Nat → ClassId) (ad : Nat → Nat) (μ : Nat → Nat → Int32) (r : Int64) (w : Nat) (x2 : Int32) (hw : w < 6) : wk_RdI l yX8_answers wsX8_answers rmX8_answers D (tysL c) [.ref (ad 0), .int (nI w), .int x2] (modelW c ad μ r) (anM μ w x2) := by
  refine wk_mkR (cc := cX8_answers) (maxL := 4) (rt := .int) (by decide) rfl (Nat.le_of_ble_eq_true rfl) rfl ?_
  intro pr ev ss mm args below meth cd ls H Q hst hP hK hl ret
  obtain ⟨hx, hb, hml, hown, hts, -⟩ := hst
  have hown : ss.vm.findClass RX8 = some mm.cls := hown
  have hl : lv_has ls 4 [(0, .ref (ad 0)), (1, .int (nI w)), (2, .int x2)] := hl
  have k1 := hts (.fieldLink RX8 16 "LastWordModel" "paper" "[I") (List.mem_of_getElem? (i := 1) rfl)
  have iX8 : ∀ w ∈ u_ws RX8 TX8 18, w ∈ wsX8_answers := fun _ h => (List.mem_cons_of_mem _ (List.mem_append_right _ h))
  refine lv_aload_n hx hb dX8_answers_0 rfl (lv_at hl 0 rfl) ?_
  refine wg_X8_7 hx hb hts iX8 hown hK hP 0 rfl k1 (v := .ref (ad 7)) rfl dX8_answers_1 ?_
  refine lv_iconst (v := 3) hx hb dX8_answers_4 (by decide) ?_
  refine lv_bipush (v := 7) hx hb dX8_answers_5 (by decide) ?_
  refine lv_iload_n hx hb dX8_answers_7 rfl (lv_at hl 1 rfl) ?_
  refine lv_imul hx hb dX8_answers_8 ?_
  refine wk_eqi (pk_mul 7 w) ?_
  refine lv_iadd hx hb dX8_answers_9 ?_
  refine wk_eqi (nI_add 3 (7 * w)) ?_
  refine lv_iconst (v := 1) hx hb dX8_answers_10 (by decide) ?_
  refine lv_iadd hx hb dX8_answers_11 ?_
  refine wk_eqi (nI_add (3 + (7 * w)) 1) ?_
  refine wk_ald (f := μ 7) hx hb hK hP 3 0 rfl rfl ((3 + (7 * w)) + 1) rfl (by omega) (by decide) dX8_answers_12 ?_
  refine lv_istore_n (lv' := [(3, .int (μ 7 ((3 + (7 * w)) + 1))), (0, .ref (ad 0)), (1, .int (nI w)), (2, .int x2)]) hx hb dX8_answers_13 rfl hl (by decide) rfl (fun ls hl => ?_)
  refine lv_iload_n hx hb dX8_answers_14 rfl (lv_at hl 0 rfl) ?_
  refine lv_iconst (v := 5) hx hb dX8_answers_15 (by decide) ?_
  refine lv_icmp_ne (tgt := 23) hx hb dX8_answers_16 (by decide) (fun h1 => ?_) (fun h1 => ?_)
  · refine lv_iload_n hx hb dX8_answers_23 rfl (lv_at hl 0 rfl) ?_
    exact ret 24 ls (μ 7 ((3 + (7 * w)) + 1)) (by simp [anM, h1]) dX8_answers_24
  refine lv_iload_n hx hb dX8_answers_19 rfl (lv_at hl 3 rfl) ?_
  refine lv_goto (tgt := 24) hx hb dX8_answers_20 (by decide) ?_
  exact ret 24 ls x2 (by simp [anM, h1]) dX8_answers_24

abbrev rmX8_at : Room := { frames := 0, cells := 0, slots := 0, locals := 0 }
theorem hd_X8_at : yX8_at.cls = RX8 ∧ yX8_at.cls ≠ "java/lang/invoke/MethodHandle" ∧ yX8_at.cls ≠ "java/lang/invoke/VarHandle" ∧ (parseMethodDescriptor yX8_at.desc).map (fun d => d.parameters.length) = some 2 := by decide +kernel
set_option maxHeartbeats 4000000 in
set_option maxRecDepth 100000 in
theorem c_X8_at (l : Launch) (D : va_G) (c : Nat → ClassId) (ad : Nat → Nat) (μ : Nat → Nat → Int32) (r : Int64) (q : Nat) (k : Nat) (hw : q < 6) (hk : k < 6) : wk_RdI l yX8_at wsX8_at rmX8_at D (tysL c) [.ref (ad 0), .int (nI q), .int (nI k)] (modelW c ad μ r) (atV μ q k) := by
  refine wk_mkR (cc := cX8_at) (maxL := 3) (rt := .int) (by decide) rfl (Nat.le_of_ble_eq_true rfl) rfl ?_
  intro pr ev ss mm args below meth cd ls H Q hst hP hK hl ret
  obtain ⟨hx, hb, hml, hown, hts, -⟩ := hst
  have hown : ss.vm.findClass RX8 = some mm.cls := hown
  have hl : lv_has ls 3 [(0, .ref (ad 0)), (1, .int (nI q)), (2, .int (nI k))] := hl
  have k1 := hts (.fieldLink RX8 19 "LastWordModel" "now" "[I") (List.mem_of_getElem? (i := 1) rfl)
  have iX8 : ∀ w ∈ u_ws RX8 TX8 18, w ∈ wsX8_at := fun _ h => (List.mem_cons_of_mem _ (List.mem_append_right _ h))
  refine lv_aload_n hx hb dX8_at_0 rfl (lv_at hl 0 rfl) ?_
  refine wg_X8_8 hx hb hts iX8 hown hK hP 0 rfl k1 (v := .ref (ad 8)) rfl dX8_at_1 ?_
  refine lv_bipush (v := 10) hx hb dX8_at_4 (by decide) ?_
  refine lv_bipush (v := 6) hx hb dX8_at_6 (by decide) ?_
  refine lv_iload_n hx hb dX8_at_8 rfl (lv_at hl 1 rfl) ?_
  refine lv_imul hx hb dX8_at_9 ?_
  refine wk_eqi (pk_mul 6 q) ?_
  refine lv_iadd hx hb dX8_at_10 ?_
  refine wk_eqi (nI_add 10 (6 * q)) ?_
  refine lv_iload_n hx hb dX8_at_11 rfl (lv_at hl 2 rfl) ?_
  refine lv_iadd hx hb dX8_at_12 ?_
  refine wk_eqi (nI_add (10 + (6 * q)) k) ?_
  refine wk_ald (f := μ 8) hx hb hK hP 4 0 rfl rfl ((10 + (6 * q)) + k) rfl (by omega) (by decide) dX8_at_13 ?_
  exact ret 14 ls (μ 8 ((10 + (6 * q)) + k)) (by rfl) dX8_at_14

abbrev rmX8_owes : Room := { frames := 1, cells := 0, slots := 0, locals := 22 }
theorem hd_X8_owes : yX8_owes.cls = RX8 ∧ yX8_owes.cls ≠ "java/lang/invoke/MethodHandle" ∧ yX8_owes.cls ≠ "java/lang/invoke/VarHandle" ∧ (parseMethodDescriptor yX8_owes.desc).map (fun d => d.parameters.length) = some 1 := by decide +kernel
set_option maxHeartbeats 4000000 in
set_option maxRecDepth 100000 in
theorem c_X8_owes (l : Launch) (D : va_G) (c : Nat → ClassId) (ad : Nat → Nat) (μ : Nat → Nat → Int32) (r : Int64) (w : Int32) (hQ : wfQM μ) : wk_RdI l yX8_owes wsX8_owes rmX8_owes D (tysL c) [.ref (ad 0), .int w] (modelW c ad μ r) (owM μ w (qM μ)) := by
  refine wk_mkR (cc := cX8_owes) (maxL := 4) (rt := .int) (by decide) rfl (Nat.le_of_ble_eq_true rfl) rfl ?_
  intro pr ev ss mm args below meth cd ls H Q hst hP hK hl ret
  obtain ⟨hx, hb, hml, hown, hts, -⟩ := hst
  have hown : ss.vm.findClass RX8 = some mm.cls := hown
  have hl : lv_has ls 4 [(0, .ref (ad 0)), (1, .int w)] := hl
  have k1 := hts (.fieldLink RX8 19 "LastWordModel" "now" "[I") (List.mem_of_getElem? (i := 1) rfl)
  have iX8 : ∀ w ∈ u_ws RX8 TX8 18, w ∈ wsX8_owes := fun _ h => (List.mem_cons_of_mem _ (List.mem_append_right _ h))
  have hQ6 := hQ.2
  refine lv_iconst (v := 0) hx hb dX8_owes_0 (by decide) ?_
  refine lv_istore_n (lv' := [(2, .int 0), (0, .ref (ad 0)), (1, .int w)]) hx hb dX8_owes_1 rfl hl (by decide) rfl (fun ls hl => ?_)
  refine lv_iconst (v := 0) hx hb dX8_owes_2 (by decide) ?_
  refine lv_istore_n (lv' := [(3, .int 0), (2, .int 0), (0, .ref (ad 0)), (1, .int w)]) hx hb dX8_owes_3 rfl hl (by decide) rfl (fun ls hl => ?_)
  have lp4 : ∀ (n : Nat) (i : Nat), (i ≤ qM μ) → qM μ - i < n → ∀ ls : Array Slot, lv_has ls 4 [(0, .ref (ad 0)), (1, .int w), (2, .int (owM μ w i)), (3, .int (nI i))] → W pr l ev rmX8_owes ss mm args below meth cd H [] 0 0 Q (F0 mm 4 ls []) := by
    intro n
    induction n with
    | zero => intro i hi hn; exact absurd hn (Nat.not_lt_zero _)
    | succ n ih4 =>
      intro i hi hn ls hl
      refine lv_iload_n hx hb dX8_owes_4 rfl (lv_at hl 3 rfl) ?_
      refine lv_aload_n hx hb dX8_owes_5 rfl (lv_at hl 0 rfl) ?_
      refine wg_X8_8 hx hb hts iX8 hown hK hP 0 rfl k1 (v := .ref (ad 8)) rfl dX8_owes_6 ?_
      refine lv_iconst (v := 1) hx hb dX8_owes_9 (by decide) ?_
      refine wk_ald (f := μ 8) hx hb hK hP 4 0 rfl rfl 1 rfl (by omega) (by decide) dX8_owes_10 ?_
      refine wk_eqi (y := nI (qM μ)) (hQ.1) ?_
      refine wk_ge (tgt := 38) hx hb i (qM μ) rfl rfl (by omega) (by omega) dX8_owes_11 (by decide) (fun h1 => ?_) (fun h1 => ?_)
      · refine lv_iload_n hx hb dX8_owes_38 rfl (lv_at hl 2 rfl) ?_
        exact ret 39 ls (owM μ w i) (by rw [show i = qM μ by omega]) dX8_owes_39
      refine lv_iload_n hx hb dX8_owes_14 rfl (lv_at hl 2 rfl) ?_
      refine lv_aload_n hx hb dX8_owes_15 rfl (lv_at hl 0 rfl) ?_
      refine lv_iload_n hx hb dX8_owes_16 rfl (lv_at hl 3 rfl) ?_
      refine lv_iconst (v := 3) hx hb dX8_owes_17 (by decide) ?_
      refine wk_callRV (As := [.int (nI i), .int 3]) (rest := [.int (owM μ w i)]) ⟨hx, hb, hml, hown, hts⟩ (c_X8_at l D c ad μ r i 3 (by omega) (by omega)) (cwV 2 hts gX8_owes_X8_at rfl rfl rfl hd_X8_at ⟨Nat.le_of_ble_eq_true rfl, Nat.le_of_ble_eq_true rfl⟩) hK hP [0, 1, 2, 3, 4, 5, 6, 7, 8] rfl 0 rfl rfl rfl hl.1 rfl (Nat.le_of_ble_eq_true rfl) dX8_owes_18 (Nat.zero_le _) (Nat.zero_le _) ?_
      refine lv_iload_n hx hb dX8_owes_21 rfl (lv_at hl 1 rfl) ?_
      refine lv_icmp_ne (tgt := 29) hx hb dX8_owes_22 (by decide) (fun h2 => ?_) (fun h2 => ?_)
      · refine lv_iconst (v := 0) hx hb dX8_owes_29 (by decide) ?_
        refine lv_iadd hx hb dX8_owes_30 ?_
        refine lv_istore_n (lv' := [(2, .int ((owM μ w i) + 0)), (0, .ref (ad 0)), (1, .int w), (3, .int (nI i))]) hx hb dX8_owes_31 rfl hl (by decide) rfl (fun ls hl => ?_)
        refine lv_iinc (v := nI (i + 1)) (lv' := [(3, .int (nI (i + 1))), (2, .int ((owM μ w i) + 0)), (0, .ref (ad 0)), (1, .int w)]) hx hb dX8_owes_32 hl (k := 3) rfl (nI_inc i 1) (by decide) rfl (fun ls hl => ?_)
        refine lv_goto (tgt := 4) hx hb dX8_owes_35 (by decide) ?_
        have hl : lv_has ls 4 [(0, .ref (ad 0)), (1, .int w), (2, .int ((owM μ w i) + 0)), (3, .int (nI (i + 1)))] := lv_sub hl [2, 3, 1, 0] rfl
        have hl := wk_lset (y := owM μ w (i + 1)) (lv_sub (l' := [(2, .int ((owM μ w i) + 0)), (0, .ref (ad 0)), (1, .int w), (3, .int (nI (i + 1)))]) hl [2, 0, 1, 3] rfl) (by first | rfl | (simp [owM, h1, h2]; done))
        have hl : lv_has ls 4 [(0, .ref (ad 0)), (1, .int w), (2, .int (owM μ w (i + 1))), (3, .int (nI (i + 1)))] := lv_sub hl [1, 2, 0, 3] rfl
        exact ih4 (i + 1) (by omega) (by omega) ls hl
      refine lv_iconst (v := 1) hx hb dX8_owes_25 (by decide) ?_
      refine lv_goto (tgt := 30) hx hb dX8_owes_26 (by decide) ?_
      refine lv_iadd hx hb dX8_owes_30 ?_
      refine lv_istore_n (lv' := [(2, .int ((owM μ w i) + 1)), (0, .ref (ad 0)), (1, .int w), (3, .int (nI i))]) hx hb dX8_owes_31 rfl hl (by decide) rfl (fun ls hl => ?_)
      refine lv_iinc (v := nI (i + 1)) (lv' := [(3, .int (nI (i + 1))), (2, .int ((owM μ w i) + 1)), (0, .ref (ad 0)), (1, .int w)]) hx hb dX8_owes_32 hl (k := 3) rfl (nI_inc i 1) (by decide) rfl (fun ls hl => ?_)
      refine lv_goto (tgt := 4) hx hb dX8_owes_35 (by decide) ?_
      have hl : lv_has ls 4 [(0, .ref (ad 0)), (1, .int w), (2, .int ((owM μ w i) + 1)), (3, .int (nI (i + 1)))] := lv_sub hl [2, 3, 1, 0] rfl
      have hl := wk_lset (y := owM μ w (i + 1)) (lv_sub (l' := [(2, .int ((owM μ w i) + 1)), (0, .ref (ad 0)), (1, .int w), (3, .int (nI (i + 1)))]) hl [2, 0, 1, 3] rfl) (by first | rfl | (simp [owM, h1, h2]; done))
      have hl : lv_has ls 4 [(0, .ref (ad 0)), (1, .int w), (2, .int (owM μ w (i + 1))), (3, .int (nI (i + 1)))] := lv_sub hl [1, 2, 0, 3] rfl
      exact ih4 (i + 1) (by omega) (by omega) ls hl
  have hl : lv_has ls 4 [(0, .ref (ad 0)), (1, .int w), (2, .int 0), (3, .int 0)] := lv_sub hl [2, 3, 1, 0] rfl
  have hl := wk_lset (y := owM μ w 0) (lv_sub (l' := [(2, .int 0), (0, .ref (ad 0)), (1, .int w), (3, .int 0)]) hl [2, 0, 1, 3] rfl) (by first | rfl | (simp [owM]; done))
  have hl : lv_has ls 4 [(0, .ref (ad 0)), (1, .int w), (2, .int (owM μ w 0)), (3, .int 0)] := lv_sub hl [1, 2, 0, 3] rfl
  have hl := wk_lset (y := nI 0) (lv_sub (l' := [(3, .int 0), (0, .ref (ad 0)), (1, .int w), (2, .int (owM μ w 0))]) hl [3, 0, 1, 2] rfl) (by first | rfl | (simp [owM]; done))
  have hl : lv_has ls 4 [(0, .ref (ad 0)), (1, .int w), (2, .int (owM μ w 0)), (3, .int (nI 0))] := lv_sub hl [1, 2, 3, 0] rfl
  exact lp4 _ 0 (by omega) (Nat.lt_succ_self _) ls hl

abbrev rmX8_words : Room := { frames := 1, cells := 0, slots := 0, locals := 22 }
theorem hd_X8_words : yX8_words.cls = RX8 ∧ yX8_words.cls ≠ "java/lang/invoke/MethodHandle" ∧ yX8_words.cls ≠ "java/lang/invoke/VarHandle" ∧ (parseMethodDescriptor yX8_words.desc).map (fun d => d.parameters.length) = some 1 := by decide +kernel
set_option maxHeartbeats 4000000 in
set_option maxRecDepth 100000 in
theorem c_X8_words (l : Launch) (D : va_G) (c : Nat → ClassId) (ad : Nat → Nat) (μ : Nat → Nat → Int32) (r : Int64) (w : Int32) (hQ : wfQM μ) : wk_RdI l yX8_words wsX8_words rmX8_words D (tysL c) [.ref (ad 0), .int w] (modelW c ad μ r) (wdM μ w (qM μ)) := by
  refine wk_mkR (cc := cX8_words) (maxL := 4) (rt := .int) (by decide) rfl (Nat.le_of_ble_eq_true rfl) rfl ?_
  intro pr ev ss mm args below meth cd ls H Q hst hP hK hl ret
  obtain ⟨hx, hb, hml, hown, hts, -⟩ := hst
  have hown : ss.vm.findClass RX8 = some mm.cls := hown
  have hl : lv_has ls 4 [(0, .ref (ad 0)), (1, .int w)] := hl
  have k1 := hts (.fieldLink RX8 19 "LastWordModel" "now" "[I") (List.mem_of_getElem? (i := 1) rfl)
  have iX8 : ∀ w ∈ u_ws RX8 TX8 18, w ∈ wsX8_words := fun _ h => (List.mem_cons_of_mem _ (List.mem_append_right _ h))
  have hQ6 := hQ.2
  refine lv_iconst (v := 0) hx hb dX8_words_0 (by decide) ?_
  refine lv_istore_n (lv' := [(2, .int 0), (0, .ref (ad 0)), (1, .int w)]) hx hb dX8_words_1 rfl hl (by decide) rfl (fun ls hl => ?_)
  refine lv_iconst (v := 0) hx hb dX8_words_2 (by decide) ?_
  refine lv_istore_n (lv' := [(3, .int 0), (2, .int 0), (0, .ref (ad 0)), (1, .int w)]) hx hb dX8_words_3 rfl hl (by decide) rfl (fun ls hl => ?_)
  have lp4 : ∀ (n : Nat) (i : Nat), (i ≤ qM μ) → qM μ - i < n → ∀ ls : Array Slot, lv_has ls 4 [(0, .ref (ad 0)), (1, .int w), (2, .int (wdM μ w i)), (3, .int (nI i))] → W pr l ev rmX8_words ss mm args below meth cd H [] 0 0 Q (F0 mm 4 ls []) := by
    intro n
    induction n with
    | zero => intro i hi hn; exact absurd hn (Nat.not_lt_zero _)
    | succ n ih4 =>
      intro i hi hn ls hl
      refine lv_iload_n hx hb dX8_words_4 rfl (lv_at hl 3 rfl) ?_
      refine lv_aload_n hx hb dX8_words_5 rfl (lv_at hl 0 rfl) ?_
      refine wg_X8_8 hx hb hts iX8 hown hK hP 0 rfl k1 (v := .ref (ad 8)) rfl dX8_words_6 ?_
      refine lv_iconst (v := 1) hx hb dX8_words_9 (by decide) ?_
      refine wk_ald (f := μ 8) hx hb hK hP 4 0 rfl rfl 1 rfl (by omega) (by decide) dX8_words_10 ?_
      refine wk_eqi (y := nI (qM μ)) (hQ.1) ?_
      refine wk_ge (tgt := 49) hx hb i (qM μ) rfl rfl (by omega) (by omega) dX8_words_11 (by decide) (fun h1 => ?_) (fun h1 => ?_)
      · refine lv_iload_n hx hb dX8_words_49 rfl (lv_at hl 2 rfl) ?_
        exact ret 50 ls (wdM μ w i) (by rw [show i = qM μ by omega]) dX8_words_50
      refine lv_iload_n hx hb dX8_words_14 rfl (lv_at hl 2 rfl) ?_
      refine lv_aload_n hx hb dX8_words_15 rfl (lv_at hl 0 rfl) ?_
      refine lv_iload_n hx hb dX8_words_16 rfl (lv_at hl 3 rfl) ?_
      refine lv_iconst (v := 3) hx hb dX8_words_17 (by decide) ?_
      refine wk_callRV (As := [.int (nI i), .int 3]) (rest := [.int (wdM μ w i)]) ⟨hx, hb, hml, hown, hts⟩ (c_X8_at l D c ad μ r i 3 (by omega) (by omega)) (cwV 2 hts gX8_words_X8_at rfl rfl rfl hd_X8_at ⟨Nat.le_of_ble_eq_true rfl, Nat.le_of_ble_eq_true rfl⟩) hK hP [0, 1, 2, 3, 4, 5, 6, 7, 8] rfl 0 rfl rfl rfl hl.1 rfl (Nat.le_of_ble_eq_true rfl) dX8_words_18 (Nat.zero_le _) (Nat.zero_le _) ?_
      refine lv_bipush (v := -9) hx hb dX8_words_21 (by decide) ?_
      refine lv_icmp_ne (tgt := 40) hx hb dX8_words_23 (by decide) (fun h2 => ?_) (fun h2 => ?_)
      · refine lv_iconst (v := 0) hx hb dX8_words_40 (by decide) ?_
        refine lv_iadd hx hb dX8_words_41 ?_
        refine lv_istore_n (lv' := [(2, .int ((wdM μ w i) + 0)), (0, .ref (ad 0)), (1, .int w), (3, .int (nI i))]) hx hb dX8_words_42 rfl hl (by decide) rfl (fun ls hl => ?_)
        refine lv_iinc (v := nI (i + 1)) (lv' := [(3, .int (nI (i + 1))), (2, .int ((wdM μ w i) + 0)), (0, .ref (ad 0)), (1, .int w)]) hx hb dX8_words_43 hl (k := 3) rfl (nI_inc i 1) (by decide) rfl (fun ls hl => ?_)
        refine lv_goto (tgt := 4) hx hb dX8_words_46 (by decide) ?_
        have hl : lv_has ls 4 [(0, .ref (ad 0)), (1, .int w), (2, .int ((wdM μ w i) + 0)), (3, .int (nI (i + 1)))] := lv_sub hl [2, 3, 1, 0] rfl
        have hl := wk_lset (y := wdM μ w (i + 1)) (lv_sub (l' := [(2, .int ((wdM μ w i) + 0)), (0, .ref (ad 0)), (1, .int w), (3, .int (nI (i + 1)))]) hl [2, 0, 1, 3] rfl) (by first | rfl | (simp [wdM, h1, h2]; done))
        have hl : lv_has ls 4 [(0, .ref (ad 0)), (1, .int w), (2, .int (wdM μ w (i + 1))), (3, .int (nI (i + 1)))] := lv_sub hl [1, 2, 0, 3] rfl
        exact ih4 (i + 1) (by omega) (by omega) ls hl
      refine lv_aload_n hx hb dX8_words_26 rfl (lv_at hl 0 rfl) ?_
      refine lv_iload_n hx hb dX8_words_27 rfl (lv_at hl 3 rfl) ?_
      refine lv_iconst (v := 0) hx hb dX8_words_28 (by decide) ?_
      refine wk_callRV (As := [.int (nI i), .int 0]) (rest := [.int (wdM μ w i)]) ⟨hx, hb, hml, hown, hts⟩ (c_X8_at l D c ad μ r i 0 (by omega) (by omega)) (cwV 2 hts gX8_words_X8_at rfl rfl rfl hd_X8_at ⟨Nat.le_of_ble_eq_true rfl, Nat.le_of_ble_eq_true rfl⟩) hK hP [0, 1, 2, 3, 4, 5, 6, 7, 8] rfl 0 rfl rfl rfl hl.1 rfl (Nat.le_of_ble_eq_true rfl) dX8_words_29 (Nat.zero_le _) (Nat.zero_le _) ?_
      refine lv_iload_n hx hb dX8_words_32 rfl (lv_at hl 1 rfl) ?_
      refine lv_icmp_ne (tgt := 40) hx hb dX8_words_33 (by decide) (fun h3 => ?_) (fun h3 => ?_)
      · refine lv_iconst (v := 0) hx hb dX8_words_40 (by decide) ?_
        refine lv_iadd hx hb dX8_words_41 ?_
        refine lv_istore_n (lv' := [(2, .int ((wdM μ w i) + 0)), (0, .ref (ad 0)), (1, .int w), (3, .int (nI i))]) hx hb dX8_words_42 rfl hl (by decide) rfl (fun ls hl => ?_)
        refine lv_iinc (v := nI (i + 1)) (lv' := [(3, .int (nI (i + 1))), (2, .int ((wdM μ w i) + 0)), (0, .ref (ad 0)), (1, .int w)]) hx hb dX8_words_43 hl (k := 3) rfl (nI_inc i 1) (by decide) rfl (fun ls hl => ?_)
        refine lv_goto (tgt := 4) hx hb dX8_words_46 (by decide) ?_
        have hl : lv_has ls 4 [(0, .ref (ad 0)), (1, .int w), (2, .int ((wdM μ w i) + 0)), (3, .int (nI (i + 1)))] := lv_sub hl [2, 3, 1, 0] rfl
        have hl := wk_lset (y := wdM μ w (i + 1)) (lv_sub (l' := [(2, .int ((wdM μ w i) + 0)), (0, .ref (ad 0)), (1, .int w), (3, .int (nI (i + 1)))]) hl [2, 0, 1, 3] rfl) (by first | rfl | (simp [wdM, h1, h2, h3]; done))
        have hl : lv_has ls 4 [(0, .ref (ad 0)), (1, .int w), (2, .int (wdM μ w (i + 1))), (3, .int (nI (i + 1)))] := lv_sub hl [1, 2, 0, 3] rfl
        exact ih4 (i + 1) (by omega) (by omega) ls hl
      refine lv_iconst (v := 1) hx hb dX8_words_36 (by decide) ?_
      refine lv_goto (tgt := 41) hx hb dX8_words_37 (by decide) ?_
      refine lv_iadd hx hb dX8_words_41 ?_
      refine lv_istore_n (lv' := [(2, .int ((wdM μ w i) + 1)), (0, .ref (ad 0)), (1, .int w), (3, .int (nI i))]) hx hb dX8_words_42 rfl hl (by decide) rfl (fun ls hl => ?_)
      refine lv_iinc (v := nI (i + 1)) (lv' := [(3, .int (nI (i + 1))), (2, .int ((wdM μ w i) + 1)), (0, .ref (ad 0)), (1, .int w)]) hx hb dX8_words_43 hl (k := 3) rfl (nI_inc i 1) (by decide) rfl (fun ls hl => ?_)
      refine lv_goto (tgt := 4) hx hb dX8_words_46 (by decide) ?_
      have hl : lv_has ls 4 [(0, .ref (ad 0)), (1, .int w), (2, .int ((wdM μ w i) + 1)), (3, .int (nI (i + 1)))] := lv_sub hl [2, 3, 1, 0] rfl
      have hl := wk_lset (y := wdM μ w (i + 1)) (lv_sub (l' := [(2, .int ((wdM μ w i) + 1)), (0, .ref (ad 0)), (1, .int w), (3, .int (nI (i + 1)))]) hl [2, 0, 1, 3] rfl) (by first | rfl | (simp [wdM, h1, h2, h3]; done))
      have hl : lv_has ls 4 [(0, .ref (ad 0)), (1, .int w), (2, .int (wdM μ w (i + 1))), (3, .int (nI (i + 1)))] := lv_sub hl [1, 2, 0, 3] rfl
      exact ih4 (i + 1) (by omega) (by omega) ls hl
  have hl : lv_has ls 4 [(0, .ref (ad 0)), (1, .int w), (2, .int 0), (3, .int 0)] := lv_sub hl [2, 3, 1, 0] rfl
  have hl := wk_lset (y := wdM μ w 0) (lv_sub (l' := [(2, .int 0), (0, .ref (ad 0)), (1, .int w), (3, .int 0)]) hl [2, 0, 1, 3] rfl) (by first | rfl | (simp [wdM]; done))
  have hl : lv_has ls 4 [(0, .ref (ad 0)), (1, .int w), (2, .int (wdM μ w 0)), (3, .int 0)] := lv_sub hl [1, 2, 0, 3] rfl
  have hl := wk_lset (y := nI 0) (lv_sub (l' := [(3, .int 0), (0, .ref (ad 0)), (1, .int w), (2, .int (wdM μ w 0))]) hl [3, 0, 1, 2] rfl) (by first | rfl | (simp [wdM]; done))
  have hl : lv_has ls 4 [(0, .ref (ad 0)), (1, .int w), (2, .int (wdM μ w 0)), (3, .int (nI 0))] := lv_sub hl [1, 2, 3, 0] rfl
  exact lp4 _ 0 (by omega) (Nat.lt_succ_self _) ls hl

abbrev rmX8_meantOf : Room := { frames := 1, cells := 0, slots := 0, locals := 22 }
theorem hd_X8_meantOf : yX8_meantOf.cls = RX8 ∧ yX8_meantOf.cls ≠ "java/lang/invoke/MethodHandle" ∧ yX8_meantOf.cls ≠ "java/lang/invoke/VarHandle" ∧ (parseMethodDescriptor yX8_meantOf.desc).map (fun d => d.parameters.length) = some 3 := by decide +kernel
set_option maxHeartbeats 4000000 in
set_option maxRecDepth 100000 in
theorem c_X8_meantOf (l : Launch) (D : va_G) (c : Nat → ClassId) (ad : Nat → Nat) (μ : Nat → Nat → Int32) (r : Int64) (w : Int32) (x2 : Nat) (laid : Int32) (hW : wfW μ) (hs : x2 < 5) : wk_RdI l yX8_meantOf wsX8_meantOf rmX8_meantOf D (tysL c) [.ref (ad 0), .int w, .int (nI x2), .int laid] (modelW c ad μ r) (mnF μ w x2 laid) := by
  refine wk_mkR (cc := cX8_meantOf) (maxL := 7) (rt := .int) (by decide) rfl (Nat.le_of_ble_eq_true rfl) rfl ?_
  intro pr ev ss mm args below meth cd ls H Q hst hP hK hl ret
  obtain ⟨hx, hb, hml, hown, hts, -⟩ := hst
  have hown : ss.vm.findClass RX8 = some mm.cls := hown
  have hl : lv_has ls 7 [(0, .ref (ad 0)), (1, .int w), (2, .int (nI x2)), (3, .int laid)] := hl
  have k1 := hts (.fieldLink RX8 16 "LastWordModel" "paper" "[I") (List.mem_of_getElem? (i := 1) rfl)
  have iX8 : ∀ w ∈ u_ws RX8 TX8 18, w ∈ wsX8_meantOf := fun _ h => (List.mem_cons_of_mem _ (List.mem_append_right _ h))
  have hW6 := hW.2
  refine lv_bipush (v := -9) hx hb dX8_meantOf_0 (by decide) ?_
  refine lv_istore (lv' := [(4, .int ((-9))), (0, .ref (ad 0)), (1, .int w), (2, .int (nI x2)), (3, .int laid)]) hx hb dX8_meantOf_2 hl (by decide) rfl (fun ls hl => ?_)
  refine lv_iconst (v := 0) hx hb dX8_meantOf_4 (by decide) ?_
  refine lv_istore (lv' := [(5, .int 0), (4, .int ((-9))), (0, .ref (ad 0)), (1, .int w), (2, .int (nI x2)), (3, .int laid)]) hx hb dX8_meantOf_5 hl (by decide) rfl (fun ls hl => ?_)
  have lp7 : ∀ (n : Nat) (i : Nat), (i ≤ nM μ) → nM μ - i < n → ∀ ls : Array Slot, lv_has ls 7 [(0, .ref (ad 0)), (1, .int w), (2, .int (nI x2)), (3, .int laid), (4, .int (mnL μ w x2 laid i)), (5, .int (nI i))] → W pr l ev rmX8_meantOf ss mm args below meth cd H [] 0 0 Q (F0 mm 7 ls []) := by
    intro n
    induction n with
    | zero => intro i hi hn; exact absurd hn (Nat.not_lt_zero _)
    | succ n ih7 =>
      intro i hi hn ls hl
      refine lv_iload hx hb dX8_meantOf_7 (lv_at hl 5 rfl) ?_
      refine lv_aload_n hx hb dX8_meantOf_9 rfl (lv_at hl 0 rfl) ?_
      refine wg_X8_7 hx hb hts iX8 hown hK hP 0 rfl k1 (v := .ref (ad 7)) rfl dX8_meantOf_10 ?_
      refine lv_iconst (v := 0) hx hb dX8_meantOf_13 (by decide) ?_
      refine wk_ald (f := μ 7) hx hb hK hP 3 0 rfl rfl 0 rfl (by omega) (by decide) dX8_meantOf_14 ?_
      refine wk_eqi (y := nI (nM μ)) (hW.1) ?_
      refine wk_ge (tgt := 94) hx hb i (nM μ) rfl rfl (by omega) (by omega) dX8_meantOf_15 (by decide) (fun h1 => ?_) (fun h1 => ?_)
      · refine lv_iload hx hb dX8_meantOf_94 (lv_at hl 4 rfl) ?_
        exact ret 96 ls (mnL μ w x2 laid i) (by rw [mnF, show i = nM μ by omega]) dX8_meantOf_96
      refine lv_iload hx hb dX8_meantOf_18 (lv_at hl 5 rfl) ?_
      refine lv_iload_n hx hb dX8_meantOf_20 rfl (lv_at hl 1 rfl) ?_
      refine lv_icmp_eq (tgt := 47) hx hb dX8_meantOf_21 (by decide) (fun h2 => ?_) (fun h2 => ?_)
      · refine lv_iconst (v := 0) hx hb dX8_meantOf_47 (by decide) ?_
        refine lv_istore (lv' := [(6, .int 0), (0, .ref (ad 0)), (1, .int w), (2, .int (nI x2)), (3, .int laid), (4, .int (mnL μ w x2 laid i)), (5, .int (nI i))]) hx hb dX8_meantOf_48 hl (by decide) rfl (fun ls hl => ?_)
        refine lv_iload hx hb dX8_meantOf_50 (lv_at hl 0 rfl) ?_
        refine lv_if_eq (tgt := 84) hx hb dX8_meantOf_52 (by decide) (fun _ => ?_) (fun q => absurd (by decide) q)
        refine lv_iload hx hb dX8_meantOf_84 (lv_at hl 5 rfl) ?_
        refine lv_istore (lv' := [(4, .int (mnL μ w x2 laid i)), (6, .int 0), (0, .ref (ad 0)), (1, .int w), (2, .int (nI x2)), (3, .int laid), (5, .int (nI i))]) hx hb dX8_meantOf_86 hl (by decide) rfl (fun ls hl => ?_)
        refine lv_iinc (v := nI (i + 1)) (lv' := [(5, .int (nI (i + 1))), (4, .int (mnL μ w x2 laid i)), (6, .int 0), (0, .ref (ad 0)), (1, .int w), (2, .int (nI x2)), (3, .int laid)]) hx hb dX8_meantOf_88 hl (k := 6) rfl (nI_inc i 1) (by decide) rfl (fun ls hl => ?_)
        refine lv_goto (tgt := 7) hx hb dX8_meantOf_91 (by decide) ?_
        have hl : lv_has ls 7 [(0, .ref (ad 0)), (1, .int w), (2, .int (nI x2)), (3, .int laid), (4, .int (mnL μ w x2 laid i)), (5, .int (nI (i + 1)))] := lv_sub hl [3, 4, 5, 6, 1, 0] rfl
        have hl := wk_lset (y := mnL μ w x2 laid (i + 1)) (lv_sub (l' := [(4, .int (mnL μ w x2 laid i)), (0, .ref (ad 0)), (1, .int w), (2, .int (nI x2)), (3, .int laid), (5, .int (nI (i + 1)))]) hl [4, 0, 1, 2, 3, 5] rfl) (by first | rfl | (simp [mnL, ← Int32.not_le, h1, h2]; done))
        have hl : lv_has ls 7 [(0, .ref (ad 0)), (1, .int w), (2, .int (nI x2)), (3, .int laid), (4, .int (mnL μ w x2 laid (i + 1))), (5, .int (nI (i + 1)))] := lv_sub hl [1, 2, 3, 4, 0, 5] rfl
        exact ih7 (i + 1) (by omega) (by omega) ls hl
      refine lv_iload_n hx hb dX8_meantOf_24 rfl (lv_at hl 3 rfl) ?_
      refine lv_iload hx hb dX8_meantOf_25 (lv_at hl 5 rfl) ?_
      refine lv_ishr hx hb dX8_meantOf_27 ?_
      refine lv_iconst (v := 1) hx hb dX8_meantOf_28 (by decide) ?_
      refine lv_iand hx hb dX8_meantOf_29 ?_
      refine lv_if_ne (tgt := 47) hx hb dX8_meantOf_30 (by decide) (fun h4 => ?_) (fun h4 => ?_)
      · refine lv_iconst (v := 0) hx hb dX8_meantOf_47 (by decide) ?_
        refine lv_istore (lv' := [(6, .int 0), (0, .ref (ad 0)), (1, .int w), (2, .int (nI x2)), (3, .int laid), (4, .int (mnL μ w x2 laid i)), (5, .int (nI i))]) hx hb dX8_meantOf_48 hl (by decide) rfl (fun ls hl => ?_)
        refine lv_iload hx hb dX8_meantOf_50 (lv_at hl 0 rfl) ?_
        refine lv_if_eq (tgt := 84) hx hb dX8_meantOf_52 (by decide) (fun _ => ?_) (fun q => absurd (by decide) q)
        refine lv_iload hx hb dX8_meantOf_84 (lv_at hl 5 rfl) ?_
        refine lv_istore (lv' := [(4, .int (mnL μ w x2 laid i)), (6, .int 0), (0, .ref (ad 0)), (1, .int w), (2, .int (nI x2)), (3, .int laid), (5, .int (nI i))]) hx hb dX8_meantOf_86 hl (by decide) rfl (fun ls hl => ?_)
        refine lv_iinc (v := nI (i + 1)) (lv' := [(5, .int (nI (i + 1))), (4, .int (mnL μ w x2 laid i)), (6, .int 0), (0, .ref (ad 0)), (1, .int w), (2, .int (nI x2)), (3, .int laid)]) hx hb dX8_meantOf_88 hl (k := 6) rfl (nI_inc i 1) (by decide) rfl (fun ls hl => ?_)
        refine lv_goto (tgt := 7) hx hb dX8_meantOf_91 (by decide) ?_
        have hl : lv_has ls 7 [(0, .ref (ad 0)), (1, .int w), (2, .int (nI x2)), (3, .int laid), (4, .int (mnL μ w x2 laid i)), (5, .int (nI (i + 1)))] := lv_sub hl [3, 4, 5, 6, 1, 0] rfl
        have hl := wk_lset (y := mnL μ w x2 laid (i + 1)) (lv_sub (l' := [(4, .int (mnL μ w x2 laid i)), (0, .ref (ad 0)), (1, .int w), (2, .int (nI x2)), (3, .int laid), (5, .int (nI (i + 1)))]) hl [4, 0, 1, 2, 3, 5] rfl) (by first | rfl | (simp [mnL, ← Int32.not_le, h1, h2, h4]; done))
        have hl : lv_has ls 7 [(0, .ref (ad 0)), (1, .int w), (2, .int (nI x2)), (3, .int laid), (4, .int (mnL μ w x2 laid (i + 1))), (5, .int (nI (i + 1)))] := lv_sub hl [1, 2, 3, 4, 0, 5] rfl
        exact ih7 (i + 1) (by omega) (by omega) ls hl
      refine lv_aload_n hx hb dX8_meantOf_33 rfl (lv_at hl 0 rfl) ?_
      refine lv_iload hx hb dX8_meantOf_34 (lv_at hl 5 rfl) ?_
      refine lv_iload_n hx hb dX8_meantOf_36 rfl (lv_at hl 2 rfl) ?_
      refine wk_callRV (As := [.int (nI i), .int (nI x2)]) (rest := []) ⟨hx, hb, hml, hown, hts⟩ (c_X8_near l D c ad μ r i x2 (by omega) (by omega)) (cwV 2 hts gX8_meantOf_X8_near rfl rfl rfl hd_X8_near ⟨Nat.le_of_ble_eq_true rfl, Nat.le_of_ble_eq_true rfl⟩) hK hP [0, 1, 2, 3, 4, 5, 6, 7, 8] rfl 0 rfl rfl rfl hl.1 rfl (Nat.le_of_ble_eq_true rfl) dX8_meantOf_37 (Nat.zero_le _) (Nat.zero_le _) ?_
      refine lv_if_le (tgt := 47) hx hb dX8_meantOf_40 (by decide) (fun h6 => ?_) (fun h6 => ?_)
      · refine lv_iconst (v := 0) hx hb dX8_meantOf_47 (by decide) ?_
        refine lv_istore (lv' := [(6, .int 0), (0, .ref (ad 0)), (1, .int w), (2, .int (nI x2)), (3, .int laid), (4, .int (mnL μ w x2 laid i)), (5, .int (nI i))]) hx hb dX8_meantOf_48 hl (by decide) rfl (fun ls hl => ?_)
        refine lv_iload hx hb dX8_meantOf_50 (lv_at hl 0 rfl) ?_
        refine lv_if_eq (tgt := 84) hx hb dX8_meantOf_52 (by decide) (fun _ => ?_) (fun q => absurd (by decide) q)
        refine lv_iload hx hb dX8_meantOf_84 (lv_at hl 5 rfl) ?_
        refine lv_istore (lv' := [(4, .int (mnL μ w x2 laid i)), (6, .int 0), (0, .ref (ad 0)), (1, .int w), (2, .int (nI x2)), (3, .int laid), (5, .int (nI i))]) hx hb dX8_meantOf_86 hl (by decide) rfl (fun ls hl => ?_)
        refine lv_iinc (v := nI (i + 1)) (lv' := [(5, .int (nI (i + 1))), (4, .int (mnL μ w x2 laid i)), (6, .int 0), (0, .ref (ad 0)), (1, .int w), (2, .int (nI x2)), (3, .int laid)]) hx hb dX8_meantOf_88 hl (k := 6) rfl (nI_inc i 1) (by decide) rfl (fun ls hl => ?_)
        refine lv_goto (tgt := 7) hx hb dX8_meantOf_91 (by decide) ?_
        have hl : lv_has ls 7 [(0, .ref (ad 0)), (1, .int w), (2, .int (nI x2)), (3, .int laid), (4, .int (mnL μ w x2 laid i)), (5, .int (nI (i + 1)))] := lv_sub hl [3, 4, 5, 6, 1, 0] rfl
        have hl := wk_lset (y := mnL μ w x2 laid (i + 1)) (lv_sub (l' := [(4, .int (mnL μ w x2 laid i)), (0, .ref (ad 0)), (1, .int w), (2, .int (nI x2)), (3, .int laid), (5, .int (nI (i + 1)))]) hl [4, 0, 1, 2, 3, 5] rfl) (by first | rfl | (simp [mnL, ← Int32.not_le, h1, h2, h4, h6]; done))
        have hl : lv_has ls 7 [(0, .ref (ad 0)), (1, .int w), (2, .int (nI x2)), (3, .int laid), (4, .int (mnL μ w x2 laid (i + 1))), (5, .int (nI (i + 1)))] := lv_sub hl [1, 2, 3, 4, 0, 5] rfl
        exact ih7 (i + 1) (by omega) (by omega) ls hl
      refine lv_iconst (v := 1) hx hb dX8_meantOf_43 (by decide) ?_
      refine lv_goto (tgt := 48) hx hb dX8_meantOf_44 (by decide) ?_
      refine lv_istore (lv' := [(6, .int 1), (0, .ref (ad 0)), (1, .int w), (2, .int (nI x2)), (3, .int laid), (4, .int (mnL μ w x2 laid i)), (5, .int (nI i))]) hx hb dX8_meantOf_48 hl (by decide) rfl (fun ls hl => ?_)
      refine lv_iload hx hb dX8_meantOf_50 (lv_at hl 0 rfl) ?_
      refine lv_if_eq (tgt := 84) hx hb dX8_meantOf_52 (by decide) (fun q => absurd q (by decide)) (fun _ => ?_)
      refine lv_iload hx hb dX8_meantOf_55 (lv_at hl 5 rfl) ?_
      refine lv_bipush (v := -9) hx hb dX8_meantOf_57 (by decide) ?_
      refine lv_icmp_eq (tgt := 79) hx hb dX8_meantOf_59 (by decide) (fun h9 => ?_) (fun h9 => ?_)
      · refine lv_iload hx hb dX8_meantOf_79 (lv_at hl 6 rfl) ?_
        refine lv_goto (tgt := 86) hx hb dX8_meantOf_81 (by decide) ?_
        refine lv_istore (lv' := [(4, .int (nI i)), (6, .int 1), (0, .ref (ad 0)), (1, .int w), (2, .int (nI x2)), (3, .int laid), (5, .int (nI i))]) hx hb dX8_meantOf_86 hl (by decide) rfl (fun ls hl => ?_)
        refine lv_iinc (v := nI (i + 1)) (lv' := [(5, .int (nI (i + 1))), (4, .int (nI i)), (6, .int 1), (0, .ref (ad 0)), (1, .int w), (2, .int (nI x2)), (3, .int laid)]) hx hb dX8_meantOf_88 hl (k := 6) rfl (nI_inc i 1) (by decide) rfl (fun ls hl => ?_)
        refine lv_goto (tgt := 7) hx hb dX8_meantOf_91 (by decide) ?_
        have hl : lv_has ls 7 [(0, .ref (ad 0)), (1, .int w), (2, .int (nI x2)), (3, .int laid), (4, .int (nI i)), (5, .int (nI (i + 1)))] := lv_sub hl [3, 4, 5, 6, 1, 0] rfl
        have hl := wk_lset (y := mnL μ w x2 laid (i + 1)) (lv_sub (l' := [(4, .int (nI i)), (0, .ref (ad 0)), (1, .int w), (2, .int (nI x2)), (3, .int laid), (5, .int (nI (i + 1)))]) hl [4, 0, 1, 2, 3, 5] rfl) (by first | rfl | (simp [mnL, ← Int32.not_le, h1, h2, h4, h6, h9]; done))
        have hl : lv_has ls 7 [(0, .ref (ad 0)), (1, .int w), (2, .int (nI x2)), (3, .int laid), (4, .int (mnL μ w x2 laid (i + 1))), (5, .int (nI (i + 1)))] := lv_sub hl [1, 2, 3, 4, 0, 5] rfl
        exact ih7 (i + 1) (by omega) (by omega) ls hl
      refine lv_aload_n hx hb dX8_meantOf_62 rfl (lv_at hl 1 rfl) ?_
      refine lv_iload hx hb dX8_meantOf_63 (lv_at hl 6 rfl) ?_
      refine lv_iload_n hx hb dX8_meantOf_65 rfl (lv_at hl 3 rfl) ?_
      refine wk_callRV (As := [.int (nI i), .int (nI x2)]) (rest := []) ⟨hx, hb, hml, hown, hts⟩ (c_X8_near l D c ad μ r i x2 (by omega) (by omega)) (cwV 2 hts gX8_meantOf_X8_near rfl rfl rfl hd_X8_near ⟨Nat.le_of_ble_eq_true rfl, Nat.le_of_ble_eq_true rfl⟩) hK hP [0, 1, 2, 3, 4, 5, 6, 7, 8] rfl 0 rfl rfl rfl hl.1 rfl (Nat.le_of_ble_eq_true rfl) dX8_meantOf_66 (Nat.zero_le _) (Nat.zero_le _) ?_
      refine lv_aload_n hx hb dX8_meantOf_69 rfl (lv_at hl 1 rfl) ?_
      refine lv_iload hx hb dX8_meantOf_70 (lv_at hl 5 rfl) ?_
      have hix := (mnL_ix μ w x2 laid i (by omega)).resolve_left h9
      have hi2 := hix.2
      refine wk_eqi (y := nI ((mnL μ w x2 laid i).toNatClampNeg)) (hix.1) ?_
      refine lv_iload_n hx hb dX8_meantOf_72 rfl (lv_at hl 3 rfl) ?_
      refine wk_callRV (As := [.int (nI ((mnL μ w x2 laid i).toNatClampNeg)), .int (nI x2)]) (rest := [.int (nrM μ i x2)]) ⟨hx, hb, hml, hown, hts⟩ (c_X8_near l D c ad μ r ((mnL μ w x2 laid i).toNatClampNeg) x2 (by omega) (by omega)) (cwV 2 hts gX8_meantOf_X8_near rfl rfl rfl hd_X8_near ⟨Nat.le_of_ble_eq_true rfl, Nat.le_of_ble_eq_true rfl⟩) hK hP [0, 1, 2, 3, 4, 5, 6, 7, 8] rfl 0 rfl rfl rfl hl.1 rfl (Nat.le_of_ble_eq_true rfl) dX8_meantOf_73 (Nat.zero_le _) (Nat.zero_le _) ?_
      refine lv_icmp_le (tgt := 84) hx hb dX8_meantOf_76 (by decide) (fun h10 => ?_) (fun h10 => ?_)
      · refine lv_iload hx hb dX8_meantOf_84 (lv_at hl 5 rfl) ?_
        refine lv_istore (lv' := [(4, .int (mnL μ w x2 laid i)), (6, .int 1), (0, .ref (ad 0)), (1, .int w), (2, .int (nI x2)), (3, .int laid), (5, .int (nI i))]) hx hb dX8_meantOf_86 hl (by decide) rfl (fun ls hl => ?_)
        refine lv_iinc (v := nI (i + 1)) (lv' := [(5, .int (nI (i + 1))), (4, .int (mnL μ w x2 laid i)), (6, .int 1), (0, .ref (ad 0)), (1, .int w), (2, .int (nI x2)), (3, .int laid)]) hx hb dX8_meantOf_88 hl (k := 6) rfl (nI_inc i 1) (by decide) rfl (fun ls hl => ?_)
        refine lv_goto (tgt := 7) hx hb dX8_meantOf_91 (by decide) ?_
        have hl : lv_has ls 7 [(0, .ref (ad 0)), (1, .int w), (2, .int (nI x2)), (3, .int laid), (4, .int (mnL μ w x2 laid i)), (5, .int (nI (i + 1)))] := lv_sub hl [3, 4, 5, 6, 1, 0] rfl
        have hl := wk_lset (y := mnL μ w x2 laid (i + 1)) (lv_sub (l' := [(4, .int (mnL μ w x2 laid i)), (0, .ref (ad 0)), (1, .int w), (2, .int (nI x2)), (3, .int laid), (5, .int (nI (i + 1)))]) hl [4, 0, 1, 2, 3, 5] rfl) (by first | rfl | (simp [mnL, ← Int32.not_le, h1, h2, h4, h6, h9, h10]; done))
        have hl : lv_has ls 7 [(0, .ref (ad 0)), (1, .int w), (2, .int (nI x2)), (3, .int laid), (4, .int (mnL μ w x2 laid (i + 1))), (5, .int (nI (i + 1)))] := lv_sub hl [1, 2, 3, 4, 0, 5] rfl
        exact ih7 (i + 1) (by omega) (by omega) ls hl
      refine lv_iload hx hb dX8_meantOf_79 (lv_at hl 6 rfl) ?_
      refine lv_goto (tgt := 86) hx hb dX8_meantOf_81 (by decide) ?_
      refine lv_istore (lv' := [(4, .int (nI i)), (6, .int 1), (0, .ref (ad 0)), (1, .int w), (2, .int (nI x2)), (3, .int laid), (5, .int (nI i))]) hx hb dX8_meantOf_86 hl (by decide) rfl (fun ls hl => ?_)
      refine lv_iinc (v := nI (i + 1)) (lv' := [(5, .int (nI (i + 1))), (4, .int (nI i)), (6, .int 1), (0, .ref (ad 0)), (1, .int w), (2, .int (nI x2)), (3, .int laid)]) hx hb dX8_meantOf_88 hl (k := 6) rfl (nI_inc i 1) (by decide) rfl (fun ls hl => ?_)
      refine lv_goto (tgt := 7) hx hb dX8_meantOf_91 (by decide) ?_
      have hl : lv_has ls 7 [(0, .ref (ad 0)), (1, .int w), (2, .int (nI x2)), (3, .int laid), (4, .int (nI i)), (5, .int (nI (i + 1)))] := lv_sub hl [3, 4, 5, 6, 1, 0] rfl
      have hl := wk_lset (y := mnL μ w x2 laid (i + 1)) (lv_sub (l' := [(4, .int (nI i)), (0, .ref (ad 0)), (1, .int w), (2, .int (nI x2)), (3, .int laid), (5, .int (nI (i + 1)))]) hl [4, 0, 1, 2, 3, 5] rfl) (by first | rfl | (simp [mnL, ← Int32.not_le, h1, h2, h4, h6, h9, h10]; done))
      have hl : lv_has ls 7 [(0, .ref (ad 0)), (1, .int w), (2, .int (nI x2)), (3, .int laid), (4, .int (mnL μ w x2 laid (i + 1))), (5, .int (nI (i + 1)))] := lv_sub hl [1, 2, 3, 4, 0, 5] rfl
      exact ih7 (i + 1) (by omega) (by omega) ls hl
  have hl : lv_has ls 7 [(0, .ref (ad 0)), (1, .int w), (2, .int (nI x2)), (3, .int laid), (4, .int ((-9))), (5, .int 0)] := lv_sub hl [2, 3, 4, 5, 1, 0] rfl
  have hl := wk_lset (y := mnL μ w x2 laid 0) (lv_sub (l' := [(4, .int ((-9))), (0, .ref (ad 0)), (1, .int w), (2, .int (nI x2)), (3, .int laid), (5, .int 0)]) hl [4, 0, 1, 2, 3, 5] rfl) (by first | rfl | (simp [mnL, ← Int32.not_le]; done))
  have hl : lv_has ls 7 [(0, .ref (ad 0)), (1, .int w), (2, .int (nI x2)), (3, .int laid), (4, .int (mnL μ w x2 laid 0)), (5, .int 0)] := lv_sub hl [1, 2, 3, 4, 0, 5] rfl
  have hl := wk_lset (y := nI 0) (lv_sub (l' := [(5, .int 0), (0, .ref (ad 0)), (1, .int w), (2, .int (nI x2)), (3, .int laid), (4, .int (mnL μ w x2 laid 0))]) hl [5, 0, 1, 2, 3, 4] rfl) (by first | rfl | (simp [mnL, ← Int32.not_le]; done))
  have hl : lv_has ls 7 [(0, .ref (ad 0)), (1, .int w), (2, .int (nI x2)), (3, .int laid), (4, .int (mnL μ w x2 laid 0)), (5, .int (nI 0))] := lv_sub hl [1, 2, 3, 4, 5, 0] rfl
  exact lp7 _ 0 (by omega) (Nat.lt_succ_self _) ls hl

abbrev rmX8_worksOn : Room := { frames := 1, cells := 0, slots := 0, locals := 22 }
theorem hd_X8_worksOn : yX8_worksOn.cls = RX8 ∧ yX8_worksOn.cls ≠ "java/lang/invoke/MethodHandle" ∧ yX8_worksOn.cls ≠ "java/lang/invoke/VarHandle" ∧ (parseMethodDescriptor yX8_worksOn.desc).map (fun d => d.parameters.length) = some 1 := by decide +kernel
set_option maxHeartbeats 4000000 in
set_option maxRecDepth 100000 in
theorem c_X8_worksOn (l : Launch) (D : va_G) (c : Nat → ClassId) (ad : Nat → Nat) (μ : Nat → Nat → Int32) (r : Int64) (w : Int32) (hQ : wfQM μ) : wk_RdI l yX8_worksOn wsX8_worksOn rmX8_worksOn D (tysL c) [.ref (ad 0), .int w] (modelW c ad μ r) (woM μ w (qM μ)) := by
  refine wk_mkR (cc := cX8_worksOn) (maxL := 4) (rt := .int) (by decide) rfl (Nat.le_of_ble_eq_true rfl) rfl ?_
  intro pr ev ss mm args below meth cd ls H Q hst hP hK hl ret
  obtain ⟨hx, hb, hml, hown, hts, -⟩ := hst
  have hown : ss.vm.findClass RX8 = some mm.cls := hown
  have hl : lv_has ls 4 [(0, .ref (ad 0)), (1, .int w)] := hl
  have k1 := hts (.fieldLink RX8 19 "LastWordModel" "now" "[I") (List.mem_of_getElem? (i := 1) rfl)
  have iX8 : ∀ w ∈ u_ws RX8 TX8 18, w ∈ wsX8_worksOn := fun _ h => (List.mem_cons_of_mem _ (List.mem_append_right _ h))
  have hQ6 := hQ.2
  refine lv_bipush (v := -9) hx hb dX8_worksOn_0 (by decide) ?_
  refine lv_istore_n (lv' := [(2, .int ((-9))), (0, .ref (ad 0)), (1, .int w)]) hx hb dX8_worksOn_2 rfl hl (by decide) rfl (fun ls hl => ?_)
  refine lv_iconst (v := 0) hx hb dX8_worksOn_3 (by decide) ?_
  refine lv_istore_n (lv' := [(3, .int 0), (2, .int ((-9))), (0, .ref (ad 0)), (1, .int w)]) hx hb dX8_worksOn_4 rfl hl (by decide) rfl (fun ls hl => ?_)
  have lp5 : ∀ (n : Nat) (i : Nat), (i ≤ qM μ) → qM μ - i < n → ∀ ls : Array Slot, lv_has ls 4 [(0, .ref (ad 0)), (1, .int w), (2, .int (woM μ w i)), (3, .int (nI i))] → W pr l ev rmX8_worksOn ss mm args below meth cd H [] 0 0 Q (F0 mm 5 ls []) := by
    intro n
    induction n with
    | zero => intro i hi hn; exact absurd hn (Nat.not_lt_zero _)
    | succ n ih5 =>
      intro i hi hn ls hl
      refine lv_iload_n hx hb dX8_worksOn_5 rfl (lv_at hl 3 rfl) ?_
      refine lv_aload_n hx hb dX8_worksOn_6 rfl (lv_at hl 0 rfl) ?_
      refine wg_X8_8 hx hb hts iX8 hown hK hP 0 rfl k1 (v := .ref (ad 8)) rfl dX8_worksOn_7 ?_
      refine lv_iconst (v := 1) hx hb dX8_worksOn_10 (by decide) ?_
      refine wk_ald (f := μ 8) hx hb hK hP 4 0 rfl rfl 1 rfl (by omega) (by decide) dX8_worksOn_11 ?_
      refine wk_eqi (y := nI (qM μ)) (hQ.1) ?_
      refine wk_ge (tgt := 58) hx hb i (qM μ) rfl rfl (by omega) (by omega) dX8_worksOn_12 (by decide) (fun h1 => ?_) (fun h1 => ?_)
      · refine lv_iload_n hx hb dX8_worksOn_58 rfl (lv_at hl 2 rfl) ?_
        exact ret 59 ls (woM μ w i) (by rw [show i = qM μ by omega]) dX8_worksOn_59
      refine lv_aload_n hx hb dX8_worksOn_15 rfl (lv_at hl 0 rfl) ?_
      refine lv_iload_n hx hb dX8_worksOn_16 rfl (lv_at hl 3 rfl) ?_
      refine lv_iconst (v := 3) hx hb dX8_worksOn_17 (by decide) ?_
      refine wk_callRV (As := [.int (nI i), .int 3]) (rest := []) ⟨hx, hb, hml, hown, hts⟩ (c_X8_at l D c ad μ r i 3 (by omega) (by omega)) (cwV 2 hts gX8_worksOn_X8_at rfl rfl rfl hd_X8_at ⟨Nat.le_of_ble_eq_true rfl, Nat.le_of_ble_eq_true rfl⟩) hK hP [0, 1, 2, 3, 4, 5, 6, 7, 8] rfl 0 rfl rfl rfl hl.1 rfl (Nat.le_of_ble_eq_true rfl) dX8_worksOn_18 (Nat.zero_le _) (Nat.zero_le _) ?_
      refine lv_iload_n hx hb dX8_worksOn_21 rfl (lv_at hl 1 rfl) ?_
      refine lv_icmp_ne (tgt := 50) hx hb dX8_worksOn_22 (by decide) (fun h2 => ?_) (fun h2 => ?_)
      · refine lv_iload_n hx hb dX8_worksOn_50 rfl (lv_at hl 2 rfl) ?_
        refine lv_istore_n (lv' := [(2, .int (woM μ w i)), (0, .ref (ad 0)), (1, .int w), (3, .int (nI i))]) hx hb dX8_worksOn_51 rfl hl (by decide) rfl (fun ls hl => ?_)
        refine lv_iinc (v := nI (i + 1)) (lv' := [(3, .int (nI (i + 1))), (2, .int (woM μ w i)), (0, .ref (ad 0)), (1, .int w)]) hx hb dX8_worksOn_52 hl (k := 3) rfl (nI_inc i 1) (by decide) rfl (fun ls hl => ?_)
        refine lv_goto (tgt := 5) hx hb dX8_worksOn_55 (by decide) ?_
        have hl : lv_has ls 4 [(0, .ref (ad 0)), (1, .int w), (2, .int (woM μ w i)), (3, .int (nI (i + 1)))] := lv_sub hl [2, 3, 1, 0] rfl
        have hl := wk_lset (y := woM μ w (i + 1)) (lv_sub (l' := [(2, .int (woM μ w i)), (0, .ref (ad 0)), (1, .int w), (3, .int (nI (i + 1)))]) hl [2, 0, 1, 3] rfl) (by first | rfl | (simp [woM, ← Int32.not_le, h1, h2]; done))
        have hl : lv_has ls 4 [(0, .ref (ad 0)), (1, .int w), (2, .int (woM μ w (i + 1))), (3, .int (nI (i + 1)))] := lv_sub hl [1, 2, 0, 3] rfl
        exact ih5 (i + 1) (by omega) (by omega) ls hl
      refine lv_iload_n hx hb dX8_worksOn_25 rfl (lv_at hl 2 rfl) ?_
      refine lv_bipush (v := -9) hx hb dX8_worksOn_26 (by decide) ?_
      refine lv_icmp_eq (tgt := 46) hx hb dX8_worksOn_28 (by decide) (fun h3 => ?_) (fun h3 => ?_)
      · refine lv_iload_n hx hb dX8_worksOn_46 rfl (lv_at hl 3 rfl) ?_
        refine lv_goto (tgt := 51) hx hb dX8_worksOn_47 (by decide) ?_
        refine lv_istore_n (lv' := [(2, .int (nI i)), (0, .ref (ad 0)), (1, .int w), (3, .int (nI i))]) hx hb dX8_worksOn_51 rfl hl (by decide) rfl (fun ls hl => ?_)
        refine lv_iinc (v := nI (i + 1)) (lv' := [(3, .int (nI (i + 1))), (2, .int (nI i)), (0, .ref (ad 0)), (1, .int w)]) hx hb dX8_worksOn_52 hl (k := 3) rfl (nI_inc i 1) (by decide) rfl (fun ls hl => ?_)
        refine lv_goto (tgt := 5) hx hb dX8_worksOn_55 (by decide) ?_
        have hl : lv_has ls 4 [(0, .ref (ad 0)), (1, .int w), (2, .int (nI i)), (3, .int (nI (i + 1)))] := lv_sub hl [2, 3, 1, 0] rfl
        have hl := wk_lset (y := woM μ w (i + 1)) (lv_sub (l' := [(2, .int (nI i)), (0, .ref (ad 0)), (1, .int w), (3, .int (nI (i + 1)))]) hl [2, 0, 1, 3] rfl) (by first | rfl | (simp [woM, ← Int32.not_le, h1, h2, h3]; done))
        have hl : lv_has ls 4 [(0, .ref (ad 0)), (1, .int w), (2, .int (woM μ w (i + 1))), (3, .int (nI (i + 1)))] := lv_sub hl [1, 2, 0, 3] rfl
        exact ih5 (i + 1) (by omega) (by omega) ls hl
      refine lv_aload_n hx hb dX8_worksOn_31 rfl (lv_at hl 0 rfl) ?_
      refine lv_iload_n hx hb dX8_worksOn_32 rfl (lv_at hl 3 rfl) ?_
      refine lv_iconst (v := 2) hx hb dX8_worksOn_33 (by decide) ?_
      refine wk_callRV (As := [.int (nI i), .int 2]) (rest := []) ⟨hx, hb, hml, hown, hts⟩ (c_X8_at l D c ad μ r i 2 (by omega) (by omega)) (cwV 2 hts gX8_worksOn_X8_at rfl rfl rfl hd_X8_at ⟨Nat.le_of_ble_eq_true rfl, Nat.le_of_ble_eq_true rfl⟩) hK hP [0, 1, 2, 3, 4, 5, 6, 7, 8] rfl 0 rfl rfl rfl hl.1 rfl (Nat.le_of_ble_eq_true rfl) dX8_worksOn_34 (Nat.zero_le _) (Nat.zero_le _) ?_
      refine lv_aload_n hx hb dX8_worksOn_37 rfl (lv_at hl 0 rfl) ?_
      refine lv_iload_n hx hb dX8_worksOn_38 rfl (lv_at hl 2 rfl) ?_
      have hix := (woM_ix μ w i (by omega)).resolve_left h3
      have hi2 := hix.2
      refine wk_eqi (y := nI ((woM μ w i).toNatClampNeg)) (hix.1) ?_
      refine lv_iconst (v := 2) hx hb dX8_worksOn_39 (by decide) ?_
      refine wk_callRV (As := [.int (nI ((woM μ w i).toNatClampNeg)), .int 2]) (rest := [.int (atV μ i 2)]) ⟨hx, hb, hml, hown, hts⟩ (c_X8_at l D c ad μ r ((woM μ w i).toNatClampNeg) 2 (by omega) (by omega)) (cwV 2 hts gX8_worksOn_X8_at rfl rfl rfl hd_X8_at ⟨Nat.le_of_ble_eq_true rfl, Nat.le_of_ble_eq_true rfl⟩) hK hP [0, 1, 2, 3, 4, 5, 6, 7, 8] rfl 0 rfl rfl rfl hl.1 rfl (Nat.le_of_ble_eq_true rfl) dX8_worksOn_40 (Nat.zero_le _) (Nat.zero_le _) ?_
      refine lv_icmp_ge (tgt := 50) hx hb dX8_worksOn_43 (by decide) (fun h4 => ?_) (fun h4 => ?_)
      · refine lv_iload_n hx hb dX8_worksOn_50 rfl (lv_at hl 2 rfl) ?_
        refine lv_istore_n (lv' := [(2, .int (woM μ w i)), (0, .ref (ad 0)), (1, .int w), (3, .int (nI i))]) hx hb dX8_worksOn_51 rfl hl (by decide) rfl (fun ls hl => ?_)
        refine lv_iinc (v := nI (i + 1)) (lv' := [(3, .int (nI (i + 1))), (2, .int (woM μ w i)), (0, .ref (ad 0)), (1, .int w)]) hx hb dX8_worksOn_52 hl (k := 3) rfl (nI_inc i 1) (by decide) rfl (fun ls hl => ?_)
        refine lv_goto (tgt := 5) hx hb dX8_worksOn_55 (by decide) ?_
        have hl : lv_has ls 4 [(0, .ref (ad 0)), (1, .int w), (2, .int (woM μ w i)), (3, .int (nI (i + 1)))] := lv_sub hl [2, 3, 1, 0] rfl
        have hl := wk_lset (y := woM μ w (i + 1)) (lv_sub (l' := [(2, .int (woM μ w i)), (0, .ref (ad 0)), (1, .int w), (3, .int (nI (i + 1)))]) hl [2, 0, 1, 3] rfl) (by first | rfl | (simp [woM, ← Int32.not_le, h1, h2, h3, h4]; done))
        have hl : lv_has ls 4 [(0, .ref (ad 0)), (1, .int w), (2, .int (woM μ w (i + 1))), (3, .int (nI (i + 1)))] := lv_sub hl [1, 2, 0, 3] rfl
        exact ih5 (i + 1) (by omega) (by omega) ls hl
      refine lv_iload_n hx hb dX8_worksOn_46 rfl (lv_at hl 3 rfl) ?_
      refine lv_goto (tgt := 51) hx hb dX8_worksOn_47 (by decide) ?_
      refine lv_istore_n (lv' := [(2, .int (nI i)), (0, .ref (ad 0)), (1, .int w), (3, .int (nI i))]) hx hb dX8_worksOn_51 rfl hl (by decide) rfl (fun ls hl => ?_)
      refine lv_iinc (v := nI (i + 1)) (lv' := [(3, .int (nI (i + 1))), (2, .int (nI i)), (0, .ref (ad 0)), (1, .int w)]) hx hb dX8_worksOn_52 hl (k := 3) rfl (nI_inc i 1) (by decide) rfl (fun ls hl => ?_)
      refine lv_goto (tgt := 5) hx hb dX8_worksOn_55 (by decide) ?_
      have hl : lv_has ls 4 [(0, .ref (ad 0)), (1, .int w), (2, .int (nI i)), (3, .int (nI (i + 1)))] := lv_sub hl [2, 3, 1, 0] rfl
      have hl := wk_lset (y := woM μ w (i + 1)) (lv_sub (l' := [(2, .int (nI i)), (0, .ref (ad 0)), (1, .int w), (3, .int (nI (i + 1)))]) hl [2, 0, 1, 3] rfl) (by first | rfl | (simp [woM, ← Int32.not_le, h1, h2, h3, h4]; done))
      have hl : lv_has ls 4 [(0, .ref (ad 0)), (1, .int w), (2, .int (woM μ w (i + 1))), (3, .int (nI (i + 1)))] := lv_sub hl [1, 2, 0, 3] rfl
      exact ih5 (i + 1) (by omega) (by omega) ls hl
  have hl : lv_has ls 4 [(0, .ref (ad 0)), (1, .int w), (2, .int ((-9))), (3, .int 0)] := lv_sub hl [2, 3, 1, 0] rfl
  have hl := wk_lset (y := woM μ w 0) (lv_sub (l' := [(2, .int ((-9))), (0, .ref (ad 0)), (1, .int w), (3, .int 0)]) hl [2, 0, 1, 3] rfl) (by first | rfl | (simp [woM, ← Int32.not_le]; done))
  have hl : lv_has ls 4 [(0, .ref (ad 0)), (1, .int w), (2, .int (woM μ w 0)), (3, .int 0)] := lv_sub hl [1, 2, 0, 3] rfl
  have hl := wk_lset (y := nI 0) (lv_sub (l' := [(3, .int 0), (0, .ref (ad 0)), (1, .int w), (2, .int (woM μ w 0))]) hl [3, 0, 1, 2] rfl) (by first | rfl | (simp [woM, ← Int32.not_le]; done))
  have hl : lv_has ls 4 [(0, .ref (ad 0)), (1, .int w), (2, .int (woM μ w 0)), (3, .int (nI 0))] := lv_sub hl [1, 2, 3, 0] rfl
  exact lp5 _ 0 (by omega) (Nat.lt_succ_self _) ls hl

/-! ===== LastWordModel, walked: its answers, its letters ===== -/
abbrev rmX8_writer : Room := { frames := 2, cells := 0, slots := 0, locals := 46 }
theorem hd_X8_writer : yX8_writer.cls = RX8 ∧ yX8_writer.cls ≠ "java/lang/invoke/MethodHandle" ∧ yX8_writer.cls ≠ "java/lang/invoke/VarHandle" ∧ (parseMethodDescriptor yX8_writer.desc).map (fun d => d.parameters.length) = some 2 := by decide +kernel
set_option maxHeartbeats 4000000 in
set_option maxRecDepth 100000 in
theorem c_X8_writer (l : Launch) (D : va_G) (c : Nat → ClassId) (ad : Nat → Nat) (μ : Nat → Nat → Int32) (r : Int64) (w : Int32) (x2 : Int32) (hW : wfW μ) (hQ : wfQM μ) : wk_RdI l yX8_writer wsX8_writer rmX8_writer D (tysL c) [.ref (ad 0), .int w, .int x2] (modelW c ad μ r) (mwrV μ w x2) := by
  refine wk_mkR (cc := cX8_writer) (maxL := 3) (rt := .int) (by decide) rfl (Nat.le_of_ble_eq_true rfl) rfl ?_
  intro pr ev ss mm args below meth cd ls H Q hst hP hK hl ret
  obtain ⟨hx, hb, hml, hown, hts, -⟩ := hst
  have hown : ss.vm.findClass RX8 = some mm.cls := hown
  have hl : lv_has ls 3 [(0, .ref (ad 0)), (1, .int w), (2, .int x2)] := hl
  have k1 := hts (.constantLong RX8 101 (9)) (List.mem_of_getElem? (i := 1) rfl)
  have k3 := hts (.fieldLink RX8 19 "LastWordModel" "now" "[I") (List.mem_of_getElem? (i := 3) rfl)
  have k2 := hts (.fieldLink RX8 16 "LastWordModel" "paper" "[I") (List.mem_of_getElem? (i := 2) rfl)
  have iX8 : ∀ w ∈ u_ws RX8 TX8 18, w ∈ wsX8_writer := fun _ h => (List.mem_cons_of_mem _ (List.mem_append_right _ h))
  refine lv_aload_n hx hb dX8_writer_0 rfl (lv_at hl 0 rfl) ?_
  refine lv_iload_n hx hb dX8_writer_1 rfl (lv_at hl 1 rfl) ?_
  refine wk_callRV (As := [.int w]) (rest := []) ⟨hx, hb, hml, hown, hts⟩ (c_X8_isWriter l D c ad μ r w) (cwV 1 hts gX8_writer_X8_isWriter rfl rfl rfl hd_X8_isWriter ⟨Nat.le_of_ble_eq_true rfl, Nat.le_of_ble_eq_true rfl⟩) hK hP [0, 1, 2, 3, 4, 5, 6, 7, 8] rfl 0 rfl rfl rfl hl.1 rfl (Nat.le_of_ble_eq_true rfl) dX8_writer_2 (Nat.zero_le _) (Nat.zero_le _) ?_
  refine wk_bz (tgt := 20) hx hb dX8_writer_5 (by decide) (fun h1 => ?_) (fun h1 => ?_)
  · refine lv_iconst (v := -1) hx hb dX8_writer_20 (by decide) ?_
    exact ret 21 ls ((-1)) (by rw [mwrV, if_neg (fun q => h1 q.1)]) dX8_writer_21
  refine lv_iload_n hx hb dX8_writer_8 rfl (lv_at hl 2 rfl) ?_
  refine lv_i2l (v := Int32.toInt64 x2) hx hb dX8_writer_9 rfl ?_
  refine lv_lconst (v := 0) hx hb dX8_writer_10 (by decide) ?_
  refine lv_ldc2 hx hb hown k1 dX8_writer_11 ?_
  refine wk_callRS (As := [.long (Int32.toInt64 x2), .long (Int32.toInt64 0), .long (Int32.toInt64 9)]) (rest := []) ⟨hx, hb, hml, hown, hts⟩ (c_X8_in l D c x2 0 9) (va_cwS 3 hts gX8_writer_X8_in rfl rfl rfl hd_X8_in ⟨Nat.le_of_ble_eq_true rfl, Nat.le_of_ble_eq_true rfl⟩) hK hP [] rfl rfl hl.1 rfl (Nat.le_of_ble_eq_true rfl) dX8_writer_14 (Nat.zero_le _) (Nat.zero_le _) ?_
  refine wk_bnz (tgt := 22) hx hb dX8_writer_17 (by decide) (fun h2 => ?_) (fun h2 => ?_)
  rotate_left
  · refine lv_iconst (v := -1) hx hb dX8_writer_20 (by decide) ?_
    exact ret 21 ls ((-1)) (by rw [mwrV, if_neg (fun q => h2 q.2)]) dX8_writer_21
  have hw := wM_ix hW h1
  have hw2 := hw.2
  have hW6 := hW.2
  refine lv_iload_n hx hb dX8_writer_22 rfl (lv_at hl 2 rfl) ?_
  refine lv_bipush (v := 7) hx hb dX8_writer_23 (by decide) ?_
  refine lv_icmp_ge (tgt := 44) hx hb dX8_writer_25 (by decide) (fun h3 => ?_) (fun h3 => ?_)
  · refine lv_iload_n hx hb dX8_writer_44 rfl (lv_at hl 2 rfl) ?_
    refine lv_bipush (v := 7) hx hb dX8_writer_45 (by decide) ?_
    refine lv_icmp_ne (tgt := 63) hx hb dX8_writer_47 (by decide) (fun h4 => ?_) (fun h4 => ?_)
    rotate_left
    · refine lv_aload_n hx hb dX8_writer_50 rfl (lv_at hl 0 rfl) ?_
      refine wg_X8_8 hx hb hts iX8 hown hK hP 0 rfl k3 (v := .ref (ad 8)) rfl dX8_writer_51 ?_
      refine lv_iconst (v := 2) hx hb dX8_writer_54 (by decide) ?_
      refine wk_ald (f := μ 8) hx hb hK hP 4 0 rfl rfl 2 rfl (by omega) (by decide) dX8_writer_55 ?_
      refine lv_iload_n hx hb dX8_writer_56 rfl (lv_at hl 1 rfl) ?_
      refine lv_ishr hx hb dX8_writer_57 ?_
      refine lv_iconst (v := 1) hx hb dX8_writer_58 (by decide) ?_
      refine lv_iand hx hb dX8_writer_59 ?_
      refine lv_goto (tgt := 85) hx hb dX8_writer_60 (by decide) ?_
      exact ret 85 ls (((μ 8 2) >>> (w &&& 31)) &&& 1) (by rw [mwrV, if_pos ⟨h1, h2⟩]; simp [← Int32.not_le, h3, h4]) dX8_writer_85
    refine lv_iload_n hx hb dX8_writer_63 rfl (lv_at hl 2 rfl) ?_
    refine lv_bipush (v := 8) hx hb dX8_writer_64 (by decide) ?_
    refine lv_icmp_ne (tgt := 77) hx hb dX8_writer_66 (by decide) (fun h5 => ?_) (fun h5 => ?_)
    rotate_left
    · refine lv_aload_n hx hb dX8_writer_69 rfl (lv_at hl 0 rfl) ?_
      refine lv_iload_n hx hb dX8_writer_70 rfl (lv_at hl 1 rfl) ?_
      refine wk_callRV (As := [.int w]) (rest := []) ⟨hx, hb, hml, hown, hts⟩ (c_X8_owes l D c ad μ r w (by assumption)) (cwV 1 hts gX8_writer_X8_owes rfl rfl rfl hd_X8_owes ⟨Nat.le_of_ble_eq_true rfl, Nat.le_of_ble_eq_true rfl⟩) hK hP [0, 1, 2, 3, 4, 5, 6, 7, 8] rfl 0 rfl rfl rfl hl.1 rfl (Nat.le_of_ble_eq_true rfl) dX8_writer_71 (Nat.zero_le _) (Nat.zero_le _) ?_
      refine lv_goto (tgt := 85) hx hb dX8_writer_74 (by decide) ?_
      exact ret 85 ls (owM μ w (qM μ)) (by rw [mwrV, if_pos ⟨h1, h2⟩]; simp [← Int32.not_le, h3, h4, h5]) dX8_writer_85
    refine lv_aload_n hx hb dX8_writer_77 rfl (lv_at hl 0 rfl) ?_
    refine wg_X8_8 hx hb hts iX8 hown hK hP 0 rfl k3 (v := .ref (ad 8)) rfl dX8_writer_78 ?_
    refine lv_iconst (v := 4) hx hb dX8_writer_81 (by decide) ?_
    refine lv_iload_n hx hb dX8_writer_82 rfl (lv_at hl 1 rfl) ?_
    refine wk_eqi (y := nI w.toNatClampNeg) (hw.1) ?_
    refine lv_iadd hx hb dX8_writer_83 ?_
    refine wk_eqi (nI_add 4 w.toNatClampNeg) ?_
    refine wk_ald (f := μ 8) hx hb hK hP 4 0 rfl rfl (4 + w.toNatClampNeg) rfl (by omega) (by decide) dX8_writer_84 ?_
    exact ret 85 ls (μ 8 (4 + w.toNatClampNeg)) (by rw [mwrV, if_pos ⟨h1, h2⟩]; simp [← Int32.not_le, h3, h4, h5]) dX8_writer_85
  refine lv_aload_n hx hb dX8_writer_28 rfl (lv_at hl 0 rfl) ?_
  refine wg_X8_7 hx hb hts iX8 hown hK hP 0 rfl k2 (v := .ref (ad 7)) rfl dX8_writer_29 ?_
  refine lv_iconst (v := 3) hx hb dX8_writer_32 (by decide) ?_
  refine lv_bipush (v := 7) hx hb dX8_writer_33 (by decide) ?_
  refine lv_iload_n hx hb dX8_writer_35 rfl (lv_at hl 1 rfl) ?_
  refine wk_eqi (y := nI w.toNatClampNeg) (hw.1) ?_
  refine lv_imul hx hb dX8_writer_36 ?_
  refine wk_eqi (pk_mul 7 w.toNatClampNeg) ?_
  refine lv_iadd hx hb dX8_writer_37 ?_
  refine wk_eqi (nI_add 3 (7 * w.toNatClampNeg)) ?_
  refine lv_iload_n hx hb dX8_writer_38 rfl (lv_at hl 2 rfl) ?_
  have hx7 := ix_of (y := 7) (n := 7) rfl (by omega) ⟨h2.1, Int32.not_le.mp h3⟩
  have hx8 := hx7.2
  refine wk_eqi (y := nI x2.toNatClampNeg) (hx7.1) ?_
  refine lv_iadd hx hb dX8_writer_39 ?_
  refine wk_eqi (nI_add (3 + (7 * w.toNatClampNeg)) x2.toNatClampNeg) ?_
  refine wk_ald (f := μ 7) hx hb hK hP 3 0 rfl rfl ((3 + (7 * w.toNatClampNeg)) + x2.toNatClampNeg) rfl (by omega) (by decide) dX8_writer_40 ?_
  refine lv_goto (tgt := 85) hx hb dX8_writer_41 (by decide) ?_
  exact ret 85 ls (μ 7 ((3 + (7 * w.toNatClampNeg)) + x2.toNatClampNeg)) (by rw [mwrV, if_pos ⟨h1, h2⟩]; simp [← Int32.not_le, h3]) dX8_writer_85

abbrev rmX8_quarrel : Room := { frames := 2, cells := 0, slots := 0, locals := 46 }
theorem hd_X8_quarrel : yX8_quarrel.cls = RX8 ∧ yX8_quarrel.cls ≠ "java/lang/invoke/MethodHandle" ∧ yX8_quarrel.cls ≠ "java/lang/invoke/VarHandle" ∧ (parseMethodDescriptor yX8_quarrel.desc).map (fun d => d.parameters.length) = some 2 := by decide +kernel
set_option maxHeartbeats 4000000 in
set_option maxRecDepth 100000 in
theorem c_X8_quarrel (l : Launch) (D : va_G) (c : Nat → ClassId) (ad : Nat → Nat) (μ : Nat → Nat → Int32) (r : Int64) (q : Int32) (x2 : Int32) (hQ : wfQM μ) : wk_RdI l yX8_quarrel wsX8_quarrel rmX8_quarrel D (tysL c) [.ref (ad 0), .int q, .int x2] (modelW c ad μ r) (mquV μ q x2) := by
  refine wk_mkR (cc := cX8_quarrel) (maxL := 3) (rt := .int) (by decide) rfl (Nat.le_of_ble_eq_true rfl) rfl ?_
  intro pr ev ss mm args below meth cd ls H Q hst hP hK hl ret
  obtain ⟨hx, hb, hml, hown, hts, -⟩ := hst
  have hown : ss.vm.findClass RX8 = some mm.cls := hown
  have hl : lv_has ls 3 [(0, .ref (ad 0)), (1, .int q), (2, .int x2)] := hl
  have k1 := hts (.constantLong RX8 110 (5)) (List.mem_of_getElem? (i := 1) rfl)
  refine lv_aload_n hx hb dX8_quarrel_0 rfl (lv_at hl 0 rfl) ?_
  refine lv_iload_n hx hb dX8_quarrel_1 rfl (lv_at hl 1 rfl) ?_
  refine wk_callRV (As := [.int q]) (rest := []) ⟨hx, hb, hml, hown, hts⟩ (c_X8_isQuarrel l D c ad μ r q) (cwV 1 hts gX8_quarrel_X8_isQuarrel rfl rfl rfl hd_X8_isQuarrel ⟨Nat.le_of_ble_eq_true rfl, Nat.le_of_ble_eq_true rfl⟩) hK hP [0, 1, 2, 3, 4, 5, 6, 7, 8] rfl 0 rfl rfl rfl hl.1 rfl (Nat.le_of_ble_eq_true rfl) dX8_quarrel_2 (Nat.zero_le _) (Nat.zero_le _) ?_
  refine wk_bz (tgt := 29) hx hb dX8_quarrel_5 (by decide) (fun h1 => ?_) (fun h1 => ?_)
  · refine lv_iconst (v := -1) hx hb dX8_quarrel_29 (by decide) ?_
    exact ret 30 ls ((-1)) (by rw [mquV, if_neg (fun q => h1 q.1)]) dX8_quarrel_30
  refine lv_iload_n hx hb dX8_quarrel_8 rfl (lv_at hl 2 rfl) ?_
  refine lv_i2l (v := Int32.toInt64 x2) hx hb dX8_quarrel_9 rfl ?_
  refine lv_lconst (v := 0) hx hb dX8_quarrel_10 (by decide) ?_
  refine lv_ldc2 hx hb hown k1 dX8_quarrel_11 ?_
  refine wk_callRS (As := [.long (Int32.toInt64 x2), .long (Int32.toInt64 0), .long (Int32.toInt64 5)]) (rest := []) ⟨hx, hb, hml, hown, hts⟩ (c_X8_in l D c x2 0 5) (va_cwS 3 hts gX8_quarrel_X8_in rfl rfl rfl hd_X8_in ⟨Nat.le_of_ble_eq_true rfl, Nat.le_of_ble_eq_true rfl⟩) hK hP [] rfl rfl hl.1 rfl (Nat.le_of_ble_eq_true rfl) dX8_quarrel_14 (Nat.zero_le _) (Nat.zero_le _) ?_
  refine wk_bz (tgt := 29) hx hb dX8_quarrel_17 (by decide) (fun h2 => ?_) (fun h2 => ?_)
  · refine lv_iconst (v := -1) hx hb dX8_quarrel_29 (by decide) ?_
    exact ret 30 ls ((-1)) (by rw [mquV, if_neg (fun q => h2 q.2)]) dX8_quarrel_30
  have hw := qM_ix hQ h1
  have hw2 := hw.2
  have hQ6 := hQ.2
  have hxx := in_ix (y := 6) (n := 6) rfl (by omega) h2
  have hx2 := hxx.2
  refine lv_aload_n hx hb dX8_quarrel_20 rfl (lv_at hl 0 rfl) ?_
  refine lv_iload_n hx hb dX8_quarrel_21 rfl (lv_at hl 1 rfl) ?_
  refine wk_eqi (y := nI q.toNatClampNeg) (hw.1) ?_
  refine lv_iload_n hx hb dX8_quarrel_22 rfl (lv_at hl 2 rfl) ?_
  refine wk_eqi (y := nI x2.toNatClampNeg) (hxx.1) ?_
  refine wk_callRV (As := [.int (nI q.toNatClampNeg), .int (nI x2.toNatClampNeg)]) (rest := []) ⟨hx, hb, hml, hown, hts⟩ (c_X8_at l D c ad μ r q.toNatClampNeg x2.toNatClampNeg (by omega) (by omega)) (cwV 2 hts gX8_quarrel_X8_at rfl rfl rfl hd_X8_at ⟨Nat.le_of_ble_eq_true rfl, Nat.le_of_ble_eq_true rfl⟩) hK hP [0, 1, 2, 3, 4, 5, 6, 7, 8] rfl 0 rfl rfl rfl hl.1 rfl (Nat.le_of_ble_eq_true rfl) dX8_quarrel_23 (Nat.zero_le _) (Nat.zero_le _) ?_
  refine lv_goto (tgt := 30) hx hb dX8_quarrel_26 (by decide) ?_
  exact ret 30 ls (atV μ q.toNatClampNeg x2.toNatClampNeg) (by rw [mquV, if_pos ⟨h1, h2⟩]) dX8_quarrel_30

abbrev rmX8_meant : Room := { frames := 2, cells := 0, slots := 0, locals := 48 }
theorem hd_X8_meant : yX8_meant.cls = RX8 ∧ yX8_meant.cls ≠ "java/lang/invoke/MethodHandle" ∧ yX8_meant.cls ≠ "java/lang/invoke/VarHandle" ∧ (parseMethodDescriptor yX8_meant.desc).map (fun d => d.parameters.length) = some 2 := by decide +kernel
set_option maxHeartbeats 4000000 in
set_option maxRecDepth 100000 in
theorem c_X8_meant (l : Launch) (D : va_G) (c : Nat → ClassId) (ad : Nat → Nat) (μ : Nat → Nat → Int32) (r : Int64) (w : Int32) (x2 : Int32) (hW : wfW μ) : wk_RdI l yX8_meant wsX8_meant rmX8_meant D (tysL c) [.ref (ad 0), .int w, .int x2] (modelW c ad μ r) (mmeV μ w x2) := by
  refine wk_mkR (cc := cX8_meant) (maxL := 3) (rt := .int) (by decide) rfl (Nat.le_of_ble_eq_true rfl) rfl ?_
  intro pr ev ss mm args below meth cd ls H Q hst hP hK hl ret
  obtain ⟨hx, hb, hml, hown, hts, -⟩ := hst
  have hown : ss.vm.findClass RX8 = some mm.cls := hown
  have hl : lv_has ls 3 [(0, .ref (ad 0)), (1, .int w), (2, .int x2)] := hl
  have k1 := hts (.fieldLink RX8 19 "LastWordModel" "now" "[I") (List.mem_of_getElem? (i := 1) rfl)
  have iX8 : ∀ w ∈ u_ws RX8 TX8 18, w ∈ wsX8_meant := fun _ h => (List.mem_cons_of_mem _ (List.mem_append_right _ h))
  refine lv_aload_n hx hb dX8_meant_0 rfl (lv_at hl 0 rfl) ?_
  refine lv_iload_n hx hb dX8_meant_1 rfl (lv_at hl 1 rfl) ?_
  refine wk_callRV (As := [.int w]) (rest := []) ⟨hx, hb, hml, hown, hts⟩ (c_X8_isWriter l D c ad μ r w) (cwV 1 hts gX8_meant_X8_isWriter rfl rfl rfl hd_X8_isWriter ⟨Nat.le_of_ble_eq_true rfl, Nat.le_of_ble_eq_true rfl⟩) hK hP [0, 1, 2, 3, 4, 5, 6, 7, 8] rfl 0 rfl rfl rfl hl.1 rfl (Nat.le_of_ble_eq_true rfl) dX8_meant_2 (Nat.zero_le _) (Nat.zero_le _) ?_
  refine wk_bz (tgt := 30) hx hb dX8_meant_5 (by decide) (fun h1 => ?_) (fun h1 => ?_)
  · refine lv_iconst (v := -1) hx hb dX8_meant_30 (by decide) ?_
    exact ret 31 ls ((-1)) (by rw [mmeV, if_neg (fun q => h1 q.1)]) dX8_meant_31
  refine lv_iload_n hx hb dX8_meant_8 rfl (lv_at hl 2 rfl) ?_
  refine wk_callRS (As := [.int x2]) (rest := []) ⟨hx, hb, hml, hown, hts⟩ (c_X8_isSubject l D c x2) (va_cwS 1 hts gX8_meant_X8_isSubject rfl rfl rfl hd_X8_isSubject ⟨Nat.le_of_ble_eq_true rfl, Nat.le_of_ble_eq_true rfl⟩) hK hP [] rfl rfl hl.1 rfl (Nat.le_of_ble_eq_true rfl) dX8_meant_9 (Nat.zero_le _) (Nat.zero_le _) ?_
  refine wk_bz (tgt := 30) hx hb dX8_meant_12 (by decide) (fun h2 => ?_) (fun h2 => ?_)
  · refine lv_iconst (v := -1) hx hb dX8_meant_30 (by decide) ?_
    exact ret 31 ls ((-1)) (by rw [mmeV, if_neg (fun q => h2 q.2)]) dX8_meant_31
  refine lv_aload_n hx hb dX8_meant_15 rfl (lv_at hl 0 rfl) ?_
  refine lv_iload_n hx hb dX8_meant_16 rfl (lv_at hl 1 rfl) ?_
  refine lv_iload_n hx hb dX8_meant_17 rfl (lv_at hl 2 rfl) ?_
  refine wk_eqi (y := nI x2.toNatClampNeg) ((sM_ix h2).1) ?_
  refine lv_aload_n hx hb dX8_meant_18 rfl (lv_at hl 0 rfl) ?_
  refine wg_X8_8 hx hb hts iX8 hown hK hP 0 rfl k1 (v := .ref (ad 8)) rfl dX8_meant_19 ?_
  refine lv_iconst (v := 2) hx hb dX8_meant_22 (by decide) ?_
  refine wk_ald (f := μ 8) hx hb hK hP 4 0 rfl rfl 2 rfl (by omega) (by decide) dX8_meant_23 ?_
  refine wk_callRV (As := [.int w, .int (nI x2.toNatClampNeg), .int (μ 8 2)]) (rest := []) ⟨hx, hb, hml, hown, hts⟩ (c_X8_meantOf l D c ad μ r w x2.toNatClampNeg (μ 8 2) (hW) ((sM_ix h2).2)) (cwV 3 hts gX8_meant_X8_meantOf rfl rfl rfl hd_X8_meantOf ⟨Nat.le_of_ble_eq_true rfl, Nat.le_of_ble_eq_true rfl⟩) hK hP [0, 1, 2, 3, 4, 5, 6, 7, 8] rfl 0 rfl rfl rfl hl.1 rfl (Nat.le_of_ble_eq_true rfl) dX8_meant_24 (Nat.zero_le _) (Nat.zero_le _) ?_
  refine lv_goto (tgt := 31) hx hb dX8_meant_27 (by decide) ?_
  exact ret 31 ls (mnF μ w x2.toNatClampNeg (μ 8 2)) (by rw [mmeV, if_pos ⟨h1, h2⟩]) dX8_meant_31

abbrev rmX8_now : Room := { frames := 1, cells := 0, slots := 0, locals := 22 }
theorem hd_X8_now : yX8_now.cls = RX8 ∧ yX8_now.cls ≠ "java/lang/invoke/MethodHandle" ∧ yX8_now.cls ≠ "java/lang/invoke/VarHandle" ∧ (parseMethodDescriptor yX8_now.desc).map (fun d => d.parameters.length) = some 1 := by decide +kernel
set_option maxHeartbeats 4000000 in
set_option maxRecDepth 100000 in
theorem c_X8_now (l : Launch) (D : va_G) (c : Nat → ClassId) (ad : Nat → Nat) (μ : Nat → Nat → Int32) (r : Int64) (x2 : Int32) (hQ : wfQM μ) : wk_RdI l yX8_now wsX8_now rmX8_now D (tysL c) [.ref (ad 0), .int x2] (modelW c ad μ r) (nowMV μ x2) := by
  refine wk_mkR (cc := cX8_now) (maxL := 4) (rt := .int) (by decide) rfl (Nat.le_of_ble_eq_true rfl) rfl ?_
  intro pr ev ss mm args below meth cd ls H Q hst hP hK hl ret
  obtain ⟨hx, hb, hml, hown, hts, -⟩ := hst
  have hown : ss.vm.findClass RX8 = some mm.cls := hown
  have hl : lv_has ls 4 [(0, .ref (ad 0)), (1, .int x2)] := hl
  have k1 := hts (.fieldLink RX8 19 "LastWordModel" "now" "[I") (List.mem_of_getElem? (i := 1) rfl)
  have k2 := hts (.fieldLink RX8 87 "LastWordModel" "undos" "I") (List.mem_of_getElem? (i := 2) rfl)
  have iX8 : ∀ w ∈ u_ws RX8 TX8 18, w ∈ wsX8_now := fun _ h => (List.mem_cons_of_mem _ (List.mem_append_right _ h))
  have hQ6 := hQ.2
  refine lv_iconst (v := 0) hx hb dX8_now_0 (by decide) ?_
  refine lv_istore_n (lv' := [(2, .int 0), (0, .ref (ad 0)), (1, .int x2)]) hx hb dX8_now_1 rfl hl (by decide) rfl (fun ls hl => ?_)
  refine lv_iconst (v := 0) hx hb dX8_now_2 (by decide) ?_
  refine lv_istore_n (lv' := [(3, .int 0), (2, .int 0), (0, .ref (ad 0)), (1, .int x2)]) hx hb dX8_now_3 rfl hl (by decide) rfl (fun ls hl => ?_)
  have lp4 : ∀ (n : Nat) (i : Nat), (i ≤ qM μ) → qM μ - i < n → ∀ ls : Array Slot, lv_has ls 4 [(0, .ref (ad 0)), (1, .int x2), (2, .int (nwM μ i)), (3, .int (nI i))] → W pr l ev rmX8_now ss mm args below meth cd H [] 0 0 Q (F0 mm 4 ls []) := by
    intro n
    induction n with
    | zero => intro i hi hn; exact absurd hn (Nat.not_lt_zero _)
    | succ n ih4 =>
      intro i hi hn ls hl
      refine lv_iload_n hx hb dX8_now_4 rfl (lv_at hl 3 rfl) ?_
      refine lv_aload_n hx hb dX8_now_5 rfl (lv_at hl 0 rfl) ?_
      refine wg_X8_8 hx hb hts iX8 hown hK hP 0 rfl k1 (v := .ref (ad 8)) rfl dX8_now_6 ?_
      refine lv_iconst (v := 1) hx hb dX8_now_9 (by decide) ?_
      refine wk_ald (f := μ 8) hx hb hK hP 4 0 rfl rfl 1 rfl (by omega) (by decide) dX8_now_10 ?_
      refine wk_eqi (y := nI (qM μ)) (hQ.1) ?_
      refine wk_ge (tgt := 41) hx hb i (qM μ) rfl rfl (by omega) (by omega) dX8_now_11 (by decide) (fun h1 => ?_) (fun h1 => ?_)
      · refine lv_iload_n hx hb dX8_now_41 rfl (lv_at hl 1 rfl) ?_
        rcases wk_sw x2 5 (by omega) with hsw | ⟨ksw, hksw, rfl⟩
        · refine lv_tableOut (tgt := 90) hx hb dX8_now_42 (by omega) (by decide) ?_
          refine lv_iconst (v := -1) hx hb dX8_now_90 (by decide) ?_
          exact ret 91 ls ((-1)) (by rw [nowMV, if_neg (fun q => by omega)]) dX8_now_91
        rcases (show ksw = 0 ∨ ksw = 1 ∨ ksw = 2 ∨ ksw = 3 ∨ ksw = 4 by omega) with rfl | rfl | rfl | rfl | rfl
        · refine lv_tableIn (off := 34) (tgt := 76) hx hb dX8_now_42 (by decide) (by decide) (by decide) (by decide) ?_
          refine lv_aload_n hx hb dX8_now_76 rfl (lv_at hl 0 rfl) ?_
          refine wg_X8_8 hx hb hts iX8 hown hK hP 0 rfl k1 (v := .ref (ad 8)) rfl dX8_now_77 ?_
          refine lv_iload_n hx hb dX8_now_80 rfl (lv_at hl 1 rfl) ?_
          refine wk_eqi (y := nI 0) rfl ?_
          refine wk_ald (f := μ 8) hx hb hK hP 4 0 rfl rfl 0 rfl (by omega) (by decide) dX8_now_81 ?_
          exact ret 82 ls (μ 8 0) (by rw [nowMV, if_pos ⟨by decide, by decide⟩]; rfl) dX8_now_82
        · refine lv_tableIn (off := 34) (tgt := 76) hx hb dX8_now_42 (by decide) (by decide) (by decide) (by decide) ?_
          refine lv_aload_n hx hb dX8_now_76 rfl (lv_at hl 0 rfl) ?_
          refine wg_X8_8 hx hb hts iX8 hown hK hP 0 rfl k1 (v := .ref (ad 8)) rfl dX8_now_77 ?_
          refine lv_iload_n hx hb dX8_now_80 rfl (lv_at hl 1 rfl) ?_
          refine wk_eqi (y := nI 1) rfl ?_
          refine wk_ald (f := μ 8) hx hb hK hP 4 0 rfl rfl 1 rfl (by omega) (by decide) dX8_now_81 ?_
          exact ret 82 ls (μ 8 1) (by rw [nowMV, if_pos ⟨by decide, by decide⟩]; rfl) dX8_now_82
        · refine lv_tableIn (off := 41) (tgt := 83) hx hb dX8_now_42 (by decide) (by decide) (by decide) (by decide) ?_
          refine lv_iload_n hx hb dX8_now_83 rfl (lv_at hl 2 rfl) ?_
          exact ret 84 ls (nwM μ i) (by rw [nowMV, if_pos ⟨by decide, by decide⟩, show i = qM μ by omega]; rfl) dX8_now_84
        · refine lv_tableIn (off := 34) (tgt := 76) hx hb dX8_now_42 (by decide) (by decide) (by decide) (by decide) ?_
          refine lv_aload_n hx hb dX8_now_76 rfl (lv_at hl 0 rfl) ?_
          refine wg_X8_8 hx hb hts iX8 hown hK hP 0 rfl k1 (v := .ref (ad 8)) rfl dX8_now_77 ?_
          refine lv_iload_n hx hb dX8_now_80 rfl (lv_at hl 1 rfl) ?_
          refine wk_eqi (y := nI 3) rfl ?_
          refine wk_ald (f := μ 8) hx hb hK hP 4 0 rfl rfl 3 rfl (by omega) (by decide) dX8_now_81 ?_
          exact ret 82 ls (μ 8 3) (by rw [nowMV, if_pos ⟨by decide, by decide⟩]; rfl) dX8_now_82
        · refine lv_tableIn (off := 43) (tgt := 85) hx hb dX8_now_42 (by decide) (by decide) (by decide) (by decide) ?_
          refine lv_aload_n hx hb dX8_now_85 rfl (lv_at hl 0 rfl) ?_
          refine wg_X8_10 hx hb hts iX8 hown hK hP 0 rfl k2 (v := .int (μ 10 0)) rfl dX8_now_86 ?_
          exact ret 89 ls (μ 10 0) (by rw [nowMV, if_pos ⟨by decide, by decide⟩]; rfl) dX8_now_89
      refine lv_iload_n hx hb dX8_now_14 rfl (lv_at hl 2 rfl) ?_
      refine lv_aload_n hx hb dX8_now_15 rfl (lv_at hl 0 rfl) ?_
      refine lv_iload_n hx hb dX8_now_16 rfl (lv_at hl 3 rfl) ?_
      refine lv_iconst (v := 3) hx hb dX8_now_17 (by decide) ?_
      refine wk_callRV (As := [.int (nI i), .int 3]) (rest := [.int (nwM μ i)]) ⟨hx, hb, hml, hown, hts⟩ (c_X8_at l D c ad μ r i 3 (by omega) (by omega)) (cwV 2 hts gX8_now_X8_at rfl rfl rfl hd_X8_at ⟨Nat.le_of_ble_eq_true rfl, Nat.le_of_ble_eq_true rfl⟩) hK hP [0, 1, 2, 3, 4, 5, 6, 7, 8] rfl 0 rfl rfl rfl hl.1 rfl (Nat.le_of_ble_eq_true rfl) dX8_now_18 (Nat.zero_le _) (Nat.zero_le _) ?_
      refine lv_bipush (v := -9) hx hb dX8_now_21 (by decide) ?_
      refine lv_icmp_ne (tgt := 32) hx hb dX8_now_23 (by decide) (fun h2 => ?_) (fun h2 => ?_)
      · refine lv_iconst (v := 0) hx hb dX8_now_32 (by decide) ?_
        refine lv_ior hx hb dX8_now_33 ?_
        refine lv_istore_n (lv' := [(2, .int ((nwM μ i) ||| 0)), (0, .ref (ad 0)), (1, .int x2), (3, .int (nI i))]) hx hb dX8_now_34 rfl hl (by decide) rfl (fun ls hl => ?_)
        refine lv_iinc (v := nI (i + 1)) (lv' := [(3, .int (nI (i + 1))), (2, .int ((nwM μ i) ||| 0)), (0, .ref (ad 0)), (1, .int x2)]) hx hb dX8_now_35 hl (k := 3) rfl (nI_inc i 1) (by decide) rfl (fun ls hl => ?_)
        refine lv_goto (tgt := 4) hx hb dX8_now_38 (by decide) ?_
        have hl : lv_has ls 4 [(0, .ref (ad 0)), (1, .int x2), (2, .int ((nwM μ i) ||| 0)), (3, .int (nI (i + 1)))] := lv_sub hl [2, 3, 1, 0] rfl
        have hl := wk_lset (y := nwM μ (i + 1)) (lv_sub (l' := [(2, .int ((nwM μ i) ||| 0)), (0, .ref (ad 0)), (1, .int x2), (3, .int (nI (i + 1)))]) hl [2, 0, 1, 3] rfl) (by first | rfl | (simp [nwM, h1, h2]; done))
        have hl : lv_has ls 4 [(0, .ref (ad 0)), (1, .int x2), (2, .int (nwM μ (i + 1))), (3, .int (nI (i + 1)))] := lv_sub hl [1, 2, 0, 3] rfl
        exact ih4 (i + 1) (by omega) (by omega) ls hl
      refine lv_iconst (v := 1) hx hb dX8_now_26 (by decide) ?_
      refine lv_iload_n hx hb dX8_now_27 rfl (lv_at hl 3 rfl) ?_
      refine lv_ishl hx hb dX8_now_28 ?_
      refine lv_goto (tgt := 33) hx hb dX8_now_29 (by decide) ?_
      refine lv_ior hx hb dX8_now_33 ?_
      refine lv_istore_n (lv' := [(2, .int ((nwM μ i) ||| (1 <<< ((nI i) &&& 31)))), (0, .ref (ad 0)), (1, .int x2), (3, .int (nI i))]) hx hb dX8_now_34 rfl hl (by decide) rfl (fun ls hl => ?_)
      refine lv_iinc (v := nI (i + 1)) (lv' := [(3, .int (nI (i + 1))), (2, .int ((nwM μ i) ||| (1 <<< ((nI i) &&& 31)))), (0, .ref (ad 0)), (1, .int x2)]) hx hb dX8_now_35 hl (k := 3) rfl (nI_inc i 1) (by decide) rfl (fun ls hl => ?_)
      refine lv_goto (tgt := 4) hx hb dX8_now_38 (by decide) ?_
      have hl : lv_has ls 4 [(0, .ref (ad 0)), (1, .int x2), (2, .int ((nwM μ i) ||| (1 <<< ((nI i) &&& 31)))), (3, .int (nI (i + 1)))] := lv_sub hl [2, 3, 1, 0] rfl
      have hl := wk_lset (y := nwM μ (i + 1)) (lv_sub (l' := [(2, .int ((nwM μ i) ||| (1 <<< ((nI i) &&& 31)))), (0, .ref (ad 0)), (1, .int x2), (3, .int (nI (i + 1)))]) hl [2, 0, 1, 3] rfl) (by first | rfl | (simp [nwM, h1, h2]; done))
      have hl : lv_has ls 4 [(0, .ref (ad 0)), (1, .int x2), (2, .int (nwM μ (i + 1))), (3, .int (nI (i + 1)))] := lv_sub hl [1, 2, 0, 3] rfl
      exact ih4 (i + 1) (by omega) (by omega) ls hl
  have hl : lv_has ls 4 [(0, .ref (ad 0)), (1, .int x2), (2, .int 0), (3, .int 0)] := lv_sub hl [2, 3, 1, 0] rfl
  have hl := wk_lset (y := nwM μ 0) (lv_sub (l' := [(2, .int 0), (0, .ref (ad 0)), (1, .int x2), (3, .int 0)]) hl [2, 0, 1, 3] rfl) (by first | rfl | (simp [nwM]; done))
  have hl : lv_has ls 4 [(0, .ref (ad 0)), (1, .int x2), (2, .int (nwM μ 0)), (3, .int 0)] := lv_sub hl [1, 2, 0, 3] rfl
  have hl := wk_lset (y := nI 0) (lv_sub (l' := [(3, .int 0), (0, .ref (ad 0)), (1, .int x2), (2, .int (nwM μ 0))]) hl [3, 0, 1, 2] rfl) (by first | rfl | (simp [nwM]; done))
  have hl : lv_has ls 4 [(0, .ref (ad 0)), (1, .int x2), (2, .int (nwM μ 0)), (3, .int (nI 0))] := lv_sub hl [1, 2, 3, 0] rfl
  exact lp4 _ 0 (by omega) (Nat.lt_succ_self _) ls hl

abbrev rmX8_means : Room := { frames := 2, cells := 0, slots := 0, locals := 48 }
theorem hd_X8_means : yX8_means.cls = RX8 ∧ yX8_means.cls ≠ "java/lang/invoke/MethodHandle" ∧ yX8_means.cls ≠ "java/lang/invoke/VarHandle" ∧ (parseMethodDescriptor yX8_means.desc).map (fun d => d.parameters.length) = some 1 := by decide +kernel
set_option maxHeartbeats 4000000 in
set_option maxRecDepth 100000 in
theorem c_X8_means (l : Launch) (D : va_G) (c : Nat → ClassId) (ad : Nat → Nat) (μ : Nat → Nat → Int32) (r : Int64) (q : Nat) (hW : wfW μ) (hq6 : q < 6) (hsx : ixOK (μ 8 (10 + 6 * q + 1)) 5) : wk_UpV l yX8_means wsX8_means rmX8_means D (tysL c) [.ref (ad 0), .int (nI q)] (modelW c ad μ r) (modelW c ad (mnsF μ q) r) := by
  refine wk_mkV (cc := cX8_means) (maxL := 4) (by decide) rfl (Nat.le_of_ble_eq_true rfl) ?_
  intro A pr ev ss mm args below meth cd ls H H0 locs Q hst hP hK hD hS hA hl ret
  obtain ⟨hx, hb, hml, hown, hts, -⟩ := hst
  have hown : ss.vm.findClass RX8 = some mm.cls := hown
  have hl : lv_has ls 4 [(0, .ref (ad 0)), (1, .int (nI q))] := hl
  have k1 := hts (.fieldLink RX8 19 "LastWordModel" "now" "[I") (List.mem_of_getElem? (i := 1) rfl)
  have iX8 : ∀ w ∈ u_ws RX8 TX8 18, w ∈ wsX8_means := fun _ h => (List.mem_cons_of_mem _ (List.mem_append_right _ h))
  have hW6 := hW.2
  refine lv_bipush (v := 10) hx hb dX8_means_0 (by decide) ?_
  refine lv_bipush (v := 6) hx hb dX8_means_2 (by decide) ?_
  refine lv_iload_n hx hb dX8_means_4 rfl (lv_at hl 1 rfl) ?_
  refine lv_imul hx hb dX8_means_5 ?_
  refine wk_eqi (pk_mul 6 q) ?_
  refine lv_iadd hx hb dX8_means_6 ?_
  refine wk_eqi (nI_add 10 (6 * q)) ?_
  refine lv_istore_n (lv' := [(2, .int (nI (10 + (6 * q)))), (0, .ref (ad 0)), (1, .int (nI q))]) hx hb dX8_means_7 rfl hl (by decide) rfl (fun ls hl => ?_)
  refine lv_aload_n hx hb dX8_means_8 rfl (lv_at hl 1 rfl) ?_
  refine lv_aload_n hx hb dX8_means_9 rfl (lv_at hl 1 rfl) ?_
  refine wg_X8_8 hx hb hts iX8 hown hK hP 0 rfl k1 (v := .ref (ad 8)) rfl dX8_means_10 ?_
  refine lv_iload_n hx hb dX8_means_13 rfl (lv_at hl 0 rfl) ?_
  refine wk_ald (f := μ 8) hx hb hK hP 4 0 rfl rfl (10 + (6 * q)) rfl (by omega) (by decide) dX8_means_14 ?_
  refine lv_aload_n hx hb dX8_means_15 rfl (lv_at hl 1 rfl) ?_
  refine wg_X8_8 hx hb hts iX8 hown hK hP 0 rfl k1 (v := .ref (ad 8)) rfl dX8_means_16 ?_
  refine lv_iload_n hx hb dX8_means_19 rfl (lv_at hl 0 rfl) ?_
  refine lv_iconst (v := 1) hx hb dX8_means_20 (by decide) ?_
  refine lv_iadd hx hb dX8_means_21 ?_
  refine wk_eqi (nI_add (10 + (6 * q)) 1) ?_
  refine wk_ald (f := μ 8) hx hb hK hP 4 0 rfl rfl ((10 + (6 * q)) + 1) rfl (by omega) (by decide) dX8_means_22 ?_
  refine wk_eqi (y := nI ((μ 8 ((10 + (6 * q)) + 1)).toNatClampNeg)) (hsx.1) ?_
  refine lv_aload_n hx hb dX8_means_23 rfl (lv_at hl 1 rfl) ?_
  refine wg_X8_8 hx hb hts iX8 hown hK hP 0 rfl k1 (v := .ref (ad 8)) rfl dX8_means_24 ?_
  refine lv_iconst (v := 2) hx hb dX8_means_27 (by decide) ?_
  refine wk_ald (f := μ 8) hx hb hK hP 4 0 rfl rfl 2 rfl (by omega) (by decide) dX8_means_28 ?_
  refine wk_callRV (As := [.int (μ 8 (10 + (6 * q))), .int (nI ((μ 8 ((10 + (6 * q)) + 1)).toNatClampNeg)), .int (μ 8 2)]) (rest := []) ⟨hx, hb, hml, hown, hts⟩ (c_X8_meantOf l D c ad μ r (μ 8 (10 + (6 * q))) ((μ 8 ((10 + (6 * q)) + 1)).toNatClampNeg) (μ 8 2) (hW) (hsx.2)) (cwV 3 hts gX8_means_X8_meantOf rfl rfl rfl hd_X8_meantOf ⟨Nat.le_of_ble_eq_true rfl, Nat.le_of_ble_eq_true rfl⟩) hK hP [0, 1, 2, 3, 4, 5, 6, 7, 8] rfl 0 rfl rfl rfl hl.1 rfl (Nat.le_of_ble_eq_true rfl) dX8_means_29 (Nat.zero_le _) (Nat.zero_le _) ?_
  refine lv_topi (fun v ev => ?_)
  refine lv_istore_n (lv' := [(3, .int v), (2, .int (nI (10 + (6 * q)))), (0, .ref (ad 0)), (1, .int (nI q))]) hx hb dX8_means_32 rfl hl (by decide) rfl (fun ls hl => ?_)
  refine lv_aload_n hx hb dX8_means_33 rfl (lv_at hl 2 rfl) ?_
  refine wg_X8_8 hx hb hts iX8 hown hK hP 0 rfl k1 (v := .ref (ad 8)) rfl dX8_means_34 ?_
  refine lv_iload_n hx hb dX8_means_37 rfl (lv_at hl 1 rfl) ?_
  refine lv_iconst (v := 3) hx hb dX8_means_38 (by decide) ?_
  refine lv_iadd hx hb dX8_means_39 ?_
  refine wk_eqi (nI_add (10 + (6 * q)) 3) ?_
  refine lv_iload_n hx hb dX8_means_40 rfl (lv_at hl 0 rfl) ?_
  refine wk_ast hx hb hK hP hD hS 4 0 rfl rfl ((10 + (6 * q)) + 3) rfl (by omega) (by decide) dX8_means_41 (ws' := modelW c ad (va_up μ 8 (upd (μ 8) ((10 + (6 * q)) + 3) v)) r) rfl (fun H locs hP hD hS => ?_)
  refine lv_aload_n hx hb dX8_means_42 rfl (lv_at hl 2 rfl) ?_
  refine wg_X8_8 hx hb hts iX8 hown hK hP 0 rfl k1 (v := .ref (ad 8)) rfl dX8_means_43 ?_
  refine lv_iload_n hx hb dX8_means_46 rfl (lv_at hl 1 rfl) ?_
  refine lv_iconst (v := 4) hx hb dX8_means_47 (by decide) ?_
  refine lv_iadd hx hb dX8_means_48 ?_
  refine wk_eqi (nI_add (10 + (6 * q)) 4) ?_
  refine lv_iload_n hx hb dX8_means_49 rfl (lv_at hl 0 rfl) ?_
  refine lv_bipush (v := -9) hx hb dX8_means_50 (by decide) ?_
  refine lv_icmp_ne (tgt := 59) hx hb dX8_means_52 (by decide) (fun h1 => ?_) (fun h1 => ?_)
  rotate_left
  · refine lv_iconst (v := 0) hx hb dX8_means_55 (by decide) ?_
    refine lv_goto (tgt := 64) hx hb dX8_means_56 (by decide) ?_
    refine lv_topi (fun v2 ev2 => ?_)
    refine wk_ast hx hb hK hP hD hS 4 0 rfl rfl ((10 + (6 * q)) + 4) rfl (by omega) (by decide) dX8_means_64 (ws' := modelW c ad (va_up μ 8 (upd (upd (μ 8) ((10 + (6 * q)) + 3) v) ((10 + (6 * q)) + 4) v2)) r) rfl (fun H locs hP hD hS => ?_)
    have eg3 : va_up μ 8 (upd (upd (μ 8) ((10 + (6 * q)) + 3) v) ((10 + (6 * q)) + 4) v2) = mnsF μ q := by first | (rw [mnsF, mnsV, ← ev, if_neg h1, ev2]; rfl) | (rw [mnsF, mnsV, ← ev, if_pos h1, ev2])
    have hP : va_P D vwCl (modelW c ad (mnsF μ q) r) H := by rw [← eg3]; exact hP
    have hD : va_D A (modelW c ad (mnsF μ q) r) := by rw [← eg3]; exact hD
    exact ret 65 ls H _ hP hS dX8_means_65
  refine lv_aload_n hx hb dX8_means_59 rfl (lv_at hl 2 rfl) ?_
  refine lv_iload_n hx hb dX8_means_60 rfl (lv_at hl 0 rfl) ?_
  have hix : ixOK v (nM μ) := by rw [ev] at *; exact (mnF_ix hW _ _ _).resolve_left h1
  have hi2 := hix.2
  refine wk_eqi (y := nI v.toNatClampNeg) (hix.1) ?_
  refine wk_callRV (As := [.int (nI v.toNatClampNeg)]) (rest := [.int (nI ((10 + (6 * q)) + 4)), .ref (ad 8)]) ⟨hx, hb, hml, hown, hts⟩ (c_X8_pen l D c ad (va_up μ 8 (upd (μ 8) ((10 + (6 * q)) + 3) v)) r v.toNatClampNeg (by omega)) (cwV 1 hts gX8_means_X8_pen rfl rfl rfl hd_X8_pen ⟨Nat.le_of_ble_eq_true rfl, Nat.le_of_ble_eq_true rfl⟩) hK hP [0, 1, 2, 3, 4, 5, 6, 7, 8] rfl 0 rfl rfl rfl hl.1 rfl (Nat.le_of_ble_eq_true rfl) dX8_means_61 (Nat.zero_le _) (Nat.zero_le _) ?_
  refine lv_topi (fun v2 ev2 => ?_)
  refine wk_ast hx hb hK hP hD hS 4 0 rfl rfl ((10 + (6 * q)) + 4) rfl (by omega) (by decide) dX8_means_64 (ws' := modelW c ad (va_up μ 8 (upd (upd (μ 8) ((10 + (6 * q)) + 3) v) ((10 + (6 * q)) + 4) v2)) r) rfl (fun H locs hP hD hS => ?_)
  have eg2 : va_up μ 8 (upd (upd (μ 8) ((10 + (6 * q)) + 3) v) ((10 + (6 * q)) + 4) v2) = mnsF μ q := by first | (rw [mnsF, mnsV, ← ev, if_neg h1, ev2]; rfl) | (rw [mnsF, mnsV, ← ev, if_pos h1, ev2])
  have hP : va_P D vwCl (modelW c ad (mnsF μ q) r) H := by rw [← eg2]; exact hP
  have hD : va_D A (modelW c ad (mnsF μ q) r) := by rw [← eg2]; exact hD
  exact ret 65 ls H _ hP hS dX8_means_65

abbrev rmX8_prints : Room := { frames := 3, cells := 0, slots := 0, locals := 71 }
theorem hd_X8_prints : yX8_prints.cls = RX8 ∧ yX8_prints.cls ≠ "java/lang/invoke/MethodHandle" ∧ yX8_prints.cls ≠ "java/lang/invoke/VarHandle" ∧ (parseMethodDescriptor yX8_prints.desc).map (fun d => d.parameters.length) = some 3 := by decide +kernel
set_option maxHeartbeats 4000000 in
set_option maxRecDepth 100000 in
theorem c_X8_prints (l : Launch) (D : va_G) (c : Nat → ClassId) (ad : Nat → Nat) (μ : Nat → Nat → Int32) (r : Int64) (q : Nat) (w : Int32) (x2 : Nat) (hW : wfW μ) (hq6 : q < 6) (hs5 : x2 < 5) : wk_UpV l yX8_prints wsX8_prints rmX8_prints D (tysL c) [.ref (ad 0), .int (nI q), .int w, .int (nI x2)] (modelW c ad μ r) (modelW c ad (prF μ q w x2) r) := by
  refine wk_mkV (cc := cX8_prints) (maxL := 5) (by decide) rfl (Nat.le_of_ble_eq_true rfl) ?_
  intro A pr ev ss mm args below meth cd ls H H0 locs Q hst hP hK hD hS hA hl ret
  obtain ⟨hx, hb, hml, hown, hts, -⟩ := hst
  have hown : ss.vm.findClass RX8 = some mm.cls := hown
  have hl : lv_has ls 5 [(0, .ref (ad 0)), (1, .int (nI q)), (2, .int w), (3, .int (nI x2))] := hl
  have k1 := hts (.fieldLink RX8 19 "LastWordModel" "now" "[I") (List.mem_of_getElem? (i := 1) rfl)
  have iX8 : ∀ w ∈ u_ws RX8 TX8 18, w ∈ wsX8_prints := fun _ h => (List.mem_cons_of_mem _ (List.mem_append_right _ h))
  refine lv_bipush (v := 10) hx hb dX8_prints_0 (by decide) ?_
  refine lv_bipush (v := 6) hx hb dX8_prints_2 (by decide) ?_
  refine lv_iload_n hx hb dX8_prints_4 rfl (lv_at hl 1 rfl) ?_
  refine lv_imul hx hb dX8_prints_5 ?_
  refine wk_eqi (pk_mul 6 q) ?_
  refine lv_iadd hx hb dX8_prints_6 ?_
  refine wk_eqi (nI_add 10 (6 * q)) ?_
  refine lv_istore (lv' := [(4, .int (nI (10 + (6 * q)))), (0, .ref (ad 0)), (1, .int (nI q)), (2, .int w), (3, .int (nI x2))]) hx hb dX8_prints_7 hl (by decide) rfl (fun ls hl => ?_)
  refine lv_aload_n hx hb dX8_prints_9 rfl (lv_at hl 1 rfl) ?_
  refine wg_X8_8 hx hb hts iX8 hown hK hP 0 rfl k1 (v := .ref (ad 8)) rfl dX8_prints_10 ?_
  refine lv_iload hx hb dX8_prints_13 (lv_at hl 0 rfl) ?_
  refine lv_iload_n hx hb dX8_prints_15 rfl (lv_at hl 3 rfl) ?_
  refine wk_ast hx hb hK hP hD hS 4 0 rfl rfl (10 + (6 * q)) rfl (by omega) (by decide) dX8_prints_16 (ws' := modelW c ad (va_up μ 8 (upd (μ 8) (10 + (6 * q)) w)) r) rfl (fun H locs hP hD hS => ?_)
  refine lv_aload_n hx hb dX8_prints_17 rfl (lv_at hl 1 rfl) ?_
  refine wg_X8_8 hx hb hts iX8 hown hK hP 0 rfl k1 (v := .ref (ad 8)) rfl dX8_prints_18 ?_
  refine lv_iload hx hb dX8_prints_21 (lv_at hl 0 rfl) ?_
  refine lv_iconst (v := 1) hx hb dX8_prints_23 (by decide) ?_
  refine lv_iadd hx hb dX8_prints_24 ?_
  refine wk_eqi (nI_add (10 + (6 * q)) 1) ?_
  refine lv_iload_n hx hb dX8_prints_25 rfl (lv_at hl 4 rfl) ?_
  refine wk_ast hx hb hK hP hD hS 4 0 rfl rfl ((10 + (6 * q)) + 1) rfl (by omega) (by decide) dX8_prints_26 (ws' := modelW c ad (va_up μ 8 (upd (upd (μ 8) (10 + (6 * q)) w) ((10 + (6 * q)) + 1) (nI x2))) r) rfl (fun H locs hP hD hS => ?_)
  refine lv_aload_n hx hb dX8_prints_27 rfl (lv_at hl 1 rfl) ?_
  refine wg_X8_8 hx hb hts iX8 hown hK hP 0 rfl k1 (v := .ref (ad 8)) rfl dX8_prints_28 ?_
  refine lv_iload hx hb dX8_prints_31 (lv_at hl 0 rfl) ?_
  refine lv_iconst (v := 2) hx hb dX8_prints_33 (by decide) ?_
  refine lv_iadd hx hb dX8_prints_34 ?_
  refine wk_eqi (nI_add (10 + (6 * q)) 2) ?_
  refine lv_aload_n hx hb dX8_prints_35 rfl (lv_at hl 1 rfl) ?_
  refine wg_X8_8 hx hb hts iX8 hown hK hP 0 rfl k1 (v := .ref (ad 8)) rfl dX8_prints_36 ?_
  refine lv_iconst (v := 0) hx hb dX8_prints_39 (by decide) ?_
  refine wk_ald (f := upd (upd (μ 8) (10 + (6 * q)) w) ((10 + (6 * q)) + 1) (nI x2)) hx hb hK hP 4 0 rfl rfl 0 rfl (by omega) (by decide) dX8_prints_40 ?_
  refine wk_eqi (y := μ 8 0) (by rw [pk_un (by omega), pk_un (by omega)]) ?_
  refine wk_ast hx hb hK hP hD hS 4 0 rfl rfl ((10 + (6 * q)) + 2) rfl (by omega) (by decide) dX8_prints_41 (ws' := modelW c ad (va_up μ 8 (upd (upd (upd (μ 8) (10 + (6 * q)) w) ((10 + (6 * q)) + 1) (nI x2)) ((10 + (6 * q)) + 2) (μ 8 0))) r) rfl (fun H locs hP hD hS => ?_)
  refine lv_aload_n hx hb dX8_prints_42 rfl (lv_at hl 1 rfl) ?_
  refine wg_X8_8 hx hb hts iX8 hown hK hP 0 rfl k1 (v := .ref (ad 8)) rfl dX8_prints_43 ?_
  refine lv_iload hx hb dX8_prints_46 (lv_at hl 0 rfl) ?_
  refine lv_iconst (v := 5) hx hb dX8_prints_48 (by decide) ?_
  refine lv_iadd hx hb dX8_prints_49 ?_
  refine wk_eqi (nI_add (10 + (6 * q)) 5) ?_
  refine lv_iconst (v := 0) hx hb dX8_prints_50 (by decide) ?_
  refine wk_ast hx hb hK hP hD hS 4 0 rfl rfl ((10 + (6 * q)) + 5) rfl (by omega) (by decide) dX8_prints_51 (ws' := modelW c ad (va_up μ 8 (upd (upd (upd (upd (μ 8) (10 + (6 * q)) w) ((10 + (6 * q)) + 1) (nI x2)) ((10 + (6 * q)) + 2) (μ 8 0)) ((10 + (6 * q)) + 5) 0)) r) rfl (fun H locs hP hD hS => ?_)
  refine lv_aload_n hx hb dX8_prints_52 rfl (lv_at hl 1 rfl) ?_
  refine wg_X8_8 hx hb hts iX8 hown hK hP 0 rfl k1 (v := .ref (ad 8)) rfl dX8_prints_53 ?_
  refine lv_iconst (v := 3) hx hb dX8_prints_56 (by decide) ?_
  refine lv_dup2_11 hx hb dX8_prints_57 rfl rfl ?_
  refine wk_ald (f := upd (upd (upd (upd (μ 8) (10 + (6 * q)) w) ((10 + (6 * q)) + 1) (nI x2)) ((10 + (6 * q)) + 2) (μ 8 0)) ((10 + (6 * q)) + 5) 0) hx hb hK hP 4 0 rfl rfl 3 rfl (by omega) (by decide) dX8_prints_58 ?_
  refine wk_eqi (y := μ 8 3) (by rw [pk_un (by omega), pk_un (by omega), pk_un (by omega), pk_un (by omega)]) ?_
  refine lv_iconst (v := 1) hx hb dX8_prints_59 (by decide) ?_
  refine lv_iadd hx hb dX8_prints_60 ?_
  refine wk_ast hx hb hK hP hD hS 4 0 rfl rfl 3 rfl (by omega) (by decide) dX8_prints_61 (ws' := modelW c ad (va_up μ 8 (upd (upd (upd (upd (upd (μ 8) (10 + (6 * q)) w) ((10 + (6 * q)) + 1) (nI x2)) ((10 + (6 * q)) + 2) (μ 8 0)) ((10 + (6 * q)) + 5) 0) 3 ((μ 8 3) + 1))) r) rfl (fun H locs hP hD hS => ?_)
  have eg1 : va_up μ 8 (upd (upd (upd (upd (upd (μ 8) (10 + (6 * q)) w) ((10 + (6 * q)) + 1) (nI x2)) ((10 + (6 * q)) + 2) (μ 8 0)) ((10 + (6 * q)) + 5) 0) 3 ((μ 8 3) + 1)) = prS μ q w x2 := by rfl
  have hP : va_P D vwCl (modelW c ad (prS μ q w x2) r) H := by rw [← eg1]; exact hP
  have hD : va_D A (modelW c ad (prS μ q w x2) r) := by rw [← eg1]; exact hD
  refine lv_aload_n hx hb dX8_prints_62 rfl (lv_at hl 1 rfl) ?_
  refine lv_iload_n hx hb dX8_prints_63 rfl (lv_at hl 2 rfl) ?_
  refine wk_callVV (As := [.int (nI q)]) (rest := []) ⟨hx, hb, hml, hown, hts⟩ (c_X8_means l D c ad (prS μ q w x2) r q (hW) (hq6) (prS_ix μ q w hs5)) (cwV 1 hts gX8_prints_X8_means rfl rfl rfl hd_X8_means ⟨Nat.le_of_ble_eq_true rfl, Nat.le_of_ble_eq_true rfl⟩) hK hP hD hS hA [0, 1, 2, 3, 4, 5, 6, 7, 8] [] 9 rfl rfl [ad 0, ad 100, ad 6, ad 7, ad 8, ad 9, ad 12, ad 15, ad 17] rfl rfl (ws' := modelW c ad (mnsF (prS μ q w x2) q) r) rfl (wr := []) rfl rfl rfl rfl 0 rfl rfl rfl hl.1 rfl (Nat.le_of_ble_eq_true rfl) dX8_prints_64 (Nat.zero_le _) (Nat.zero_le _) (fun H locs hP hD hS => ?_)
  have eg2 : mnsF (prS μ q w x2) q = prF μ q w x2 := by rfl
  have hP : va_P D vwCl (modelW c ad (prF μ q w x2) r) H := by rw [← eg2]; exact hP
  have hD : va_D A (modelW c ad (prF μ q w x2) r) := by rw [← eg2]; exact hD
  exact ret 67 ls H _ hP hS dX8_prints_67

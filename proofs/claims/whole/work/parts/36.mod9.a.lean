/-! ===== LastWordModel, walked: looks ahead ===== -/
abbrev rmX8_bindsNobody : Room := { frames := 2, cells := 0, slots := 0, locals := 48 }
theorem hd_X8_bindsNobody : yX8_bindsNobody.cls = RX8 ∧ yX8_bindsNobody.cls ≠ "java/lang/invoke/MethodHandle" ∧ yX8_bindsNobody.cls ≠ "java/lang/invoke/VarHandle" ∧ (parseMethodDescriptor yX8_bindsNobody.desc).map (fun d => d.parameters.length) = some 1 := by decide +kernel
set_option maxHeartbeats 4000000 in
set_option maxRecDepth 100000 in
theorem c_X8_bindsNobody (l : Launch) (D : va_G) (c : Nat → ClassId) (ad : Nat → Nat) (μ : Nat → Nat → Int32) (r : Int64) (w : Int32) (hW : wfW μ) : wk_RdI l yX8_bindsNobody wsX8_bindsNobody rmX8_bindsNobody D (tysL c) [.ref (ad 0), .int w] (modelW c ad μ r) (mbnV μ w) := by
  refine wk_mkR (cc := cX8_bindsNobody) (maxL := 4) (rt := .int) (by decide) rfl (Nat.le_of_ble_eq_true rfl) rfl ?_
  intro pr ev ss mm args below meth cd ls H Q hst hP hK hl ret
  obtain ⟨hx, hb, hml, hown, hts, -⟩ := hst
  have hown : ss.vm.findClass RX8 = some mm.cls := hown
  have hl : lv_has ls 4 [(0, .ref (ad 0)), (1, .int w)] := hl
  have k1 := hts (.fieldLink RX8 19 "LastWordModel" "now" "[I") (List.mem_of_getElem? (i := 1) rfl)
  have iX8 : ∀ w ∈ u_ws RX8 TX8 18, w ∈ wsX8_bindsNobody := fun _ h => (List.mem_cons_of_mem _ (List.mem_append_right _ h))
  refine lv_aload_n hx hb dX8_bindsNobody_0 rfl (lv_at hl 0 rfl) ?_
  refine lv_iload_n hx hb dX8_bindsNobody_1 rfl (lv_at hl 1 rfl) ?_
  refine wk_callRV (As := [.int w]) (rest := []) ⟨hx, hb, hml, hown, hts⟩ (c_X8_isWriter l D c ad μ r w) (cwV 1 hts gX8_bindsNobody_X8_isWriter rfl rfl rfl hd_X8_isWriter ⟨Nat.le_of_ble_eq_true rfl, Nat.le_of_ble_eq_true rfl⟩) hK hP [0, 1, 2, 3, 4, 5, 6, 7, 8] rfl 0 rfl rfl rfl hl.1 rfl (Nat.le_of_ble_eq_true rfl) dX8_bindsNobody_2 (Nat.zero_le _) (Nat.zero_le _) ?_
  refine wk_bnz (tgt := 10) hx hb dX8_bindsNobody_5 (by decide) (fun h1 => ?_) (fun h1 => ?_)
  rotate_left
  · refine lv_iconst (v := -1) hx hb dX8_bindsNobody_8 (by decide) ?_
    exact ret 9 ls ((-1)) (by rw [mbnV, if_neg h1]) dX8_bindsNobody_9
  refine lv_iconst (v := 0) hx hb dX8_bindsNobody_10 (by decide) ?_
  refine lv_istore_n (lv' := [(2, .int 0), (0, .ref (ad 0)), (1, .int w)]) hx hb dX8_bindsNobody_11 rfl hl (by decide) rfl (fun ls hl => ?_)
  refine lv_iconst (v := 0) hx hb dX8_bindsNobody_12 (by decide) ?_
  refine lv_istore_n (lv' := [(3, .int 0), (2, .int 0), (0, .ref (ad 0)), (1, .int w)]) hx hb dX8_bindsNobody_13 rfl hl (by decide) rfl (fun ls hl => ?_)
  have lp14 : ∀ (n : Nat) (i : Nat), (i ≤ 5) → 5 - i < n → ∀ ls : Array Slot, lv_has ls 4 [(0, .ref (ad 0)), (1, .int w), (2, .int (mbnL μ w i)), (3, .int (nI i))] → W pr l ev rmX8_bindsNobody ss mm args below meth cd H [] 0 0 Q (F0 mm 14 ls []) := by
    intro n
    induction n with
    | zero => intro i hi hn; exact absurd hn (Nat.not_lt_zero _)
    | succ n ih14 =>
      intro i hi hn ls hl
      refine lv_iload_n hx hb dX8_bindsNobody_14 rfl (lv_at hl 3 rfl) ?_
      refine lv_iconst (v := 5) hx hb dX8_bindsNobody_15 (by decide) ?_
      refine wk_ge (tgt := 52) hx hb i 5 rfl rfl (by omega) (by omega) dX8_bindsNobody_16 (by decide) (fun h2 => ?_) (fun h2 => ?_)
      · refine lv_iload_n hx hb dX8_bindsNobody_52 rfl (lv_at hl 2 rfl) ?_
        exact ret 53 ls (mbnL μ w i) (by rw [mbnV, if_pos h1, show i = 5 by omega]) dX8_bindsNobody_53
      refine lv_iload_n hx hb dX8_bindsNobody_19 rfl (lv_at hl 2 rfl) ?_
      refine lv_aload_n hx hb dX8_bindsNobody_20 rfl (lv_at hl 0 rfl) ?_
      refine lv_iload_n hx hb dX8_bindsNobody_21 rfl (lv_at hl 1 rfl) ?_
      refine lv_iload_n hx hb dX8_bindsNobody_22 rfl (lv_at hl 3 rfl) ?_
      refine lv_aload_n hx hb dX8_bindsNobody_23 rfl (lv_at hl 0 rfl) ?_
      refine wg_X8_8 hx hb hts iX8 hown hK hP 0 rfl k1 (v := .ref (ad 8)) rfl dX8_bindsNobody_24 ?_
      refine lv_iconst (v := 2) hx hb dX8_bindsNobody_27 (by decide) ?_
      refine wk_ald (f := μ 8) hx hb hK hP 4 0 rfl rfl 2 rfl (by omega) (by decide) dX8_bindsNobody_28 ?_
      refine wk_callRV (As := [.int w, .int (nI i), .int (μ 8 2)]) (rest := [.int (mbnL μ w i)]) ⟨hx, hb, hml, hown, hts⟩ (c_X8_meantOf l D c ad μ r w i (μ 8 2) (hW) (by omega)) (cwV 3 hts gX8_bindsNobody_X8_meantOf rfl rfl rfl hd_X8_meantOf ⟨Nat.le_of_ble_eq_true rfl, Nat.le_of_ble_eq_true rfl⟩) hK hP [0, 1, 2, 3, 4, 5, 6, 7, 8] rfl 0 rfl rfl rfl hl.1 rfl (Nat.le_of_ble_eq_true rfl) dX8_bindsNobody_29 (Nat.zero_le _) (Nat.zero_le _) ?_
      refine lv_bipush (v := -9) hx hb dX8_bindsNobody_32 (by decide) ?_
      refine lv_icmp_ne (tgt := 43) hx hb dX8_bindsNobody_34 (by decide) (fun h3 => ?_) (fun h3 => ?_)
      · refine lv_iconst (v := 0) hx hb dX8_bindsNobody_43 (by decide) ?_
        refine lv_ior hx hb dX8_bindsNobody_44 ?_
        refine lv_istore_n (lv' := [(2, .int ((mbnL μ w i) ||| 0)), (0, .ref (ad 0)), (1, .int w), (3, .int (nI i))]) hx hb dX8_bindsNobody_45 rfl hl (by decide) rfl (fun ls hl => ?_)
        refine lv_iinc (v := nI (i + 1)) (lv' := [(3, .int (nI (i + 1))), (2, .int ((mbnL μ w i) ||| 0)), (0, .ref (ad 0)), (1, .int w)]) hx hb dX8_bindsNobody_46 hl (k := 3) rfl (nI_inc i 1) (by decide) rfl (fun ls hl => ?_)
        refine lv_goto (tgt := 14) hx hb dX8_bindsNobody_49 (by decide) ?_
        have hl : lv_has ls 4 [(0, .ref (ad 0)), (1, .int w), (2, .int ((mbnL μ w i) ||| 0)), (3, .int (nI (i + 1)))] := lv_sub hl [2, 3, 1, 0] rfl
        have hl := wk_lset (y := mbnL μ w (i + 1)) (lv_sub (l' := [(2, .int ((mbnL μ w i) ||| 0)), (0, .ref (ad 0)), (1, .int w), (3, .int (nI (i + 1)))]) hl [2, 0, 1, 3] rfl) (by first | rfl | (simp [mbnL, h1, h2, h3]; done))
        have hl : lv_has ls 4 [(0, .ref (ad 0)), (1, .int w), (2, .int (mbnL μ w (i + 1))), (3, .int (nI (i + 1)))] := lv_sub hl [1, 2, 0, 3] rfl
        exact ih14 (i + 1) (by omega) (by omega) ls hl
      refine lv_iconst (v := 1) hx hb dX8_bindsNobody_37 (by decide) ?_
      refine lv_iload_n hx hb dX8_bindsNobody_38 rfl (lv_at hl 3 rfl) ?_
      refine lv_ishl hx hb dX8_bindsNobody_39 ?_
      refine lv_goto (tgt := 44) hx hb dX8_bindsNobody_40 (by decide) ?_
      refine lv_ior hx hb dX8_bindsNobody_44 ?_
      refine lv_istore_n (lv' := [(2, .int ((mbnL μ w i) ||| (1 <<< ((nI i) &&& 31)))), (0, .ref (ad 0)), (1, .int w), (3, .int (nI i))]) hx hb dX8_bindsNobody_45 rfl hl (by decide) rfl (fun ls hl => ?_)
      refine lv_iinc (v := nI (i + 1)) (lv' := [(3, .int (nI (i + 1))), (2, .int ((mbnL μ w i) ||| (1 <<< ((nI i) &&& 31)))), (0, .ref (ad 0)), (1, .int w)]) hx hb dX8_bindsNobody_46 hl (k := 3) rfl (nI_inc i 1) (by decide) rfl (fun ls hl => ?_)
      refine lv_goto (tgt := 14) hx hb dX8_bindsNobody_49 (by decide) ?_
      have hl : lv_has ls 4 [(0, .ref (ad 0)), (1, .int w), (2, .int ((mbnL μ w i) ||| (1 <<< ((nI i) &&& 31)))), (3, .int (nI (i + 1)))] := lv_sub hl [2, 3, 1, 0] rfl
      have hl := wk_lset (y := mbnL μ w (i + 1)) (lv_sub (l' := [(2, .int ((mbnL μ w i) ||| (1 <<< ((nI i) &&& 31)))), (0, .ref (ad 0)), (1, .int w), (3, .int (nI (i + 1)))]) hl [2, 0, 1, 3] rfl) (by first | rfl | (simp [mbnL, h1, h2, h3]; done))
      have hl : lv_has ls 4 [(0, .ref (ad 0)), (1, .int w), (2, .int (mbnL μ w (i + 1))), (3, .int (nI (i + 1)))] := lv_sub hl [1, 2, 0, 3] rfl
      exact ih14 (i + 1) (by omega) (by omega) ls hl
  have hl : lv_has ls 4 [(0, .ref (ad 0)), (1, .int w), (2, .int 0), (3, .int 0)] := lv_sub hl [2, 3, 1, 0] rfl
  have hl := wk_lset (y := mbnL μ w 0) (lv_sub (l' := [(2, .int 0), (0, .ref (ad 0)), (1, .int w), (3, .int 0)]) hl [2, 0, 1, 3] rfl) (by first | rfl | (simp [mbnL, h1]; done))
  have hl : lv_has ls 4 [(0, .ref (ad 0)), (1, .int w), (2, .int (mbnL μ w 0)), (3, .int 0)] := lv_sub hl [1, 2, 0, 3] rfl
  have hl := wk_lset (y := nI 0) (lv_sub (l' := [(3, .int 0), (0, .ref (ad 0)), (1, .int w), (2, .int (mbnL μ w 0))]) hl [3, 0, 1, 2] rfl) (by first | rfl | (simp [mbnL, h1]; done))
  have hl : lv_has ls 4 [(0, .ref (ad 0)), (1, .int w), (2, .int (mbnL μ w 0)), (3, .int (nI 0))] := lv_sub hl [1, 2, 3, 0] rfl
  exact lp14 _ 0 (by omega) (Nat.lt_succ_self _) ls hl

abbrev rmX8_round : Room := { frames := 3, cells := 0, slots := 0, locals := 75 }
theorem hd_X8_round : yX8_round.cls = RX8 ∧ yX8_round.cls ≠ "java/lang/invoke/MethodHandle" ∧ yX8_round.cls ≠ "java/lang/invoke/VarHandle" ∧ (parseMethodDescriptor yX8_round.desc).map (fun d => d.parameters.length) = some 3 := by decide +kernel
set_option maxHeartbeats 4000000 in
set_option maxRecDepth 100000 in
theorem c_X8_round (l : Launch) (D : va_G) (c : Nat → ClassId) (ad : Nat → Nat) (μ : Nat → Nat → Int32) (r : Int64) (w : Int32) (x2 : Int32) (x3 : Int32) (hG : wfG μ) : wk_UpI l yX8_round wsX8_round rmX8_round D (tysL c) [.ref (ad 0), .int w, .int x2, .int x3] (modelW c ad μ r) (modelW c ad (mroF μ w x2 x3) r) (mroV μ w x2 x3) := by
  refine wk_mkU (cc := cX8_round) (maxL := 5) (rt := .int) (by decide) rfl (Nat.le_of_ble_eq_true rfl) rfl ?_
  intro A pr ev ss mm args below meth cd ls H H0 locs Q hst hP hK hD hS hA hl ret
  obtain ⟨hx, hb, hml, hown, hts, -⟩ := hst
  have hown : ss.vm.findClass RX8 = some mm.cls := hown
  have hl : lv_has ls 5 [(0, .ref (ad 0)), (1, .int w), (2, .int x2), (3, .int x3)] := hl
  have k1 := hts (.fieldLink RX8 19 "LastWordModel" "now" "[I") (List.mem_of_getElem? (i := 1) rfl)
  have k2 := hts (.fieldLink RX8 165 "LastWordModel" "lastWriter" "I") (List.mem_of_getElem? (i := 2) rfl)
  have iX8 : ∀ w ∈ u_ws RX8 TX8 18, w ∈ wsX8_round := fun _ h => (List.mem_cons_of_mem _ (List.mem_append_right _ h))
  refine lv_aload_n hx hb dX8_round_0 rfl (lv_at hl 0 rfl) ?_
  refine lv_iload_n hx hb dX8_round_1 rfl (lv_at hl 1 rfl) ?_
  refine wk_callRV (As := [.int w]) (rest := []) ⟨hx, hb, hml, hown, hts⟩ (c_X8_isWriter l D c ad μ r w) (cwV 1 hts gX8_round_X8_isWriter rfl rfl rfl hd_X8_isWriter ⟨Nat.le_of_ble_eq_true rfl, Nat.le_of_ble_eq_true rfl⟩) hK hP [0, 1, 2, 3, 4, 5, 6, 7, 8] rfl 0 rfl rfl rfl hl.1 rfl (Nat.le_of_ble_eq_true rfl) dX8_round_2 (Nat.zero_le _) (Nat.zero_le _) ?_
  refine wk_bz (tgt := 25) hx hb dX8_round_5 (by decide) (fun h1 => ?_) (fun h1 => ?_)
  · refine lv_iconst (v := -1) hx hb dX8_round_25 (by decide) ?_
    have eg2 : μ = mroF μ w x2 x3 := by rw [mroF, if_neg (fun q => h1 q.1.1)]
    have hP : va_P D vwCl (modelW c ad (mroF μ w x2 x3) r) H := by rw [← eg2]; exact hP
    have hD : va_D A (modelW c ad (mroF μ w x2 x3) r) := by rw [← eg2]; exact hD
    exact ret 26 ls H _ ((-1)) (by rw [mroV, if_neg (fun q => h1 q.1)]) hP hS dX8_round_26
  refine lv_iload_n hx hb dX8_round_8 rfl (lv_at hl 2 rfl) ?_
  refine wk_callRS (As := [.int x2]) (rest := []) ⟨hx, hb, hml, hown, hts⟩ (c_X8_isSubject l D c x2) (va_cwS 1 hts gX8_round_X8_isSubject rfl rfl rfl hd_X8_isSubject ⟨Nat.le_of_ble_eq_true rfl, Nat.le_of_ble_eq_true rfl⟩) hK hP [] rfl rfl hl.1 rfl (Nat.le_of_ble_eq_true rfl) dX8_round_9 (Nat.zero_le _) (Nat.zero_le _) ?_
  refine wk_bz (tgt := 25) hx hb dX8_round_12 (by decide) (fun h2 => ?_) (fun h2 => ?_)
  · refine lv_iconst (v := -1) hx hb dX8_round_25 (by decide) ?_
    have eg4 : μ = mroF μ w x2 x3 := by rw [mroF, if_neg (fun q => h2 q.1.2.1)]
    have hP : va_P D vwCl (modelW c ad (mroF μ w x2 x3) r) H := by rw [← eg4]; exact hP
    have hD : va_D A (modelW c ad (mroF μ w x2 x3) r) := by rw [← eg4]; exact hD
    exact ret 26 ls H _ ((-1)) (by rw [mroV, if_neg (fun q => h2 q.2.1)]) hP hS dX8_round_26
  refine lv_iload_n hx hb dX8_round_15 rfl (lv_at hl 3 rfl) ?_
  refine lv_i2l (v := Int32.toInt64 x3) hx hb dX8_round_16 rfl ?_
  refine lv_lconst (v := 0) hx hb dX8_round_17 (by decide) ?_
  refine lv_lconst (v := 1) hx hb dX8_round_18 (by decide) ?_
  refine wk_callRS (As := [.long (Int32.toInt64 x3), .long (Int32.toInt64 0), .long (Int32.toInt64 1)]) (rest := []) ⟨hx, hb, hml, hown, hts⟩ (c_X8_in l D c x3 0 1) (va_cwS 3 hts gX8_round_X8_in rfl rfl rfl hd_X8_in ⟨Nat.le_of_ble_eq_true rfl, Nat.le_of_ble_eq_true rfl⟩) hK hP [] rfl rfl hl.1 rfl (Nat.le_of_ble_eq_true rfl) dX8_round_19 (Nat.zero_le _) (Nat.zero_le _) ?_
  refine wk_bnz (tgt := 27) hx hb dX8_round_22 (by decide) (fun h3 => ?_) (fun h3 => ?_)
  rotate_left
  · refine lv_iconst (v := -1) hx hb dX8_round_25 (by decide) ?_
    have eg13 : μ = mroF μ w x2 x3 := by rw [mroF, if_neg (fun q => h3 q.1.2.2)]
    have hP : va_P D vwCl (modelW c ad (mroF μ w x2 x3) r) H := by rw [← eg13]; exact hP
    have hD : va_D A (modelW c ad (mroF μ w x2 x3) r) := by rw [← eg13]; exact hD
    exact ret 26 ls H _ ((-1)) (by rw [mroV, if_neg (fun q => h3 q.2.2)]) hP hS dX8_round_26
  refine lv_aload_n hx hb dX8_round_27 rfl (lv_at hl 0 rfl) ?_
  refine lv_iload_n hx hb dX8_round_28 rfl (lv_at hl 1 rfl) ?_
  refine wk_callRV (As := [.int w]) (rest := []) ⟨hx, hb, hml, hown, hts⟩ (c_X8_hasLaid l D c ad μ r w) (cwV 1 hts gX8_round_X8_hasLaid rfl rfl rfl hd_X8_hasLaid ⟨Nat.le_of_ble_eq_true rfl, Nat.le_of_ble_eq_true rfl⟩) hK hP [0, 1, 2, 3, 4, 5, 6, 7, 8] rfl 0 rfl rfl rfl hl.1 rfl (Nat.le_of_ble_eq_true rfl) dX8_round_29 (Nat.zero_le _) (Nat.zero_le _) ?_
  refine wk_bz (tgt := 38) hx hb dX8_round_32 (by decide) (fun h4 => ?_) (fun h4 => ?_)
  rotate_left
  · refine lv_bipush (v := -2) hx hb dX8_round_35 (by decide) ?_
    have eg12 : μ = mroF μ w x2 x3 := by rw [mroF, if_neg (fun q => q.2 h4)]
    have hP : va_P D vwCl (modelW c ad (mroF μ w x2 x3) r) H := by rw [← eg12]; exact hP
    have hD : va_D A (modelW c ad (mroF μ w x2 x3) r) := by rw [← eg12]; exact hD
    exact ret 37 ls H _ ((-2)) (by rw [mroV, if_pos ⟨h1, h2, h3⟩, if_pos h4]) hP hS dX8_round_37
  refine lv_aload_n hx hb dX8_round_38 rfl (lv_at hl 0 rfl) ?_
  refine lv_iload_n hx hb dX8_round_39 rfl (lv_at hl 1 rfl) ?_
  refine lv_iload_n hx hb dX8_round_40 rfl (lv_at hl 2 rfl) ?_
  refine lv_aload_n hx hb dX8_round_41 rfl (lv_at hl 0 rfl) ?_
  refine wg_X8_8 hx hb hts iX8 hown hK hP 0 rfl k1 (v := .ref (ad 8)) rfl dX8_round_42 ?_
  refine lv_iconst (v := 2) hx hb dX8_round_45 (by decide) ?_
  refine wk_ald (f := μ 8) hx hb hK hP 4 0 rfl rfl 2 rfl (by omega) (by decide) dX8_round_46 ?_
  refine wk_callUV (As := [.int w, .int x2, .int (μ 8 2)]) (rest := []) ⟨hx, hb, hml, hown, hts⟩ (c_X8_letters l D c ad μ r w x2 (μ 8 2) (hG) (sM_ix h2)) (cwV 3 hts gX8_round_X8_letters rfl rfl rfl hd_X8_letters ⟨Nat.le_of_ble_eq_true rfl, Nat.le_of_ble_eq_true rfl⟩) hK hP hD hS hA [0, 1, 2, 3, 4, 5, 6, 7, 8] [] 9 rfl rfl [ad 0, ad 100, ad 6, ad 7, ad 8, ad 9, ad 12, ad 15, ad 17] rfl rfl (ws' := modelW c ad (mlF μ w x2 (μ 8 2)) r) rfl (wr := []) rfl rfl rfl rfl 0 rfl rfl rfl hl.1 rfl (Nat.le_of_ble_eq_true rfl) dX8_round_47 (Nat.zero_le _) (Nat.zero_le _) (fun H locs hP hD hS => ?_)
  refine lv_topi (fun v ev => ?_)
  refine lv_istore (lv' := [(4, .int v), (0, .ref (ad 0)), (1, .int w), (2, .int x2), (3, .int x3)]) hx hb dX8_round_50 hl (by decide) rfl (fun ls hl => ?_)
  refine lv_iload hx hb dX8_round_52 (lv_at hl 0 rfl) ?_
  refine lv_bipush (v := -9) hx hb dX8_round_54 (by decide) ?_
  refine lv_icmp_eq (tgt := 63) hx hb dX8_round_56 (by decide) (fun h7 => ?_) (fun h7 => ?_)
  · refine lv_iload hx hb dX8_round_63 (lv_at hl 0 rfl) ?_
    refine lv_goto (tgt := 72) hx hb dX8_round_65 (by decide) ?_
    have eg8 : mlF μ w x2 (μ 8 2) = mroF μ w x2 x3 := by rw [mroF, if_pos ⟨⟨h1, h2, h3⟩, h4⟩]
    have hP : va_P D vwCl (modelW c ad (mroF μ w x2 x3) r) H := by rw [← eg8]; exact hP
    have hD : va_D A (modelW c ad (mroF μ w x2 x3) r) := by rw [← eg8]; exact hD
    exact ret 72 ls H _ v (by rw [mroV, if_pos ⟨h1, h2, h3⟩, if_neg h4, ← ev, if_pos h7]; exact h7) hP hS dX8_round_72
  refine lv_iload_n hx hb dX8_round_59 rfl (lv_at hl 4 rfl) ?_
  refine lv_if_ne (tgt := 68) hx hb dX8_round_60 (by decide) (fun h9 => ?_) (fun h9 => ?_)
  · refine lv_aload_n hx hb dX8_round_68 rfl (lv_at hl 1 rfl) ?_
    refine wg_X8_13 hx hb hts iX8 hown hK hP 0 rfl k2 (v := .int ((mlF μ w x2 (μ 8 2)) 13 0)) rfl dX8_round_69 ?_
    have eg10 : mlF μ w x2 (μ 8 2) = mroF μ w x2 x3 := by rw [mroF, if_pos ⟨⟨h1, h2, h3⟩, h4⟩]
    have hP : va_P D vwCl (modelW c ad (mroF μ w x2 x3) r) H := by rw [← eg10]; exact hP
    have hD : va_D A (modelW c ad (mroF μ w x2 x3) r) := by rw [← eg10]; exact hD
    exact ret 72 ls H _ ((mlF μ w x2 (μ 8 2)) 13 0) (by rw [mroV, if_pos ⟨h1, h2, h3⟩, if_neg h4, ← ev, if_neg h7, if_neg h9]) hP hS dX8_round_72
  refine lv_iload hx hb dX8_round_63 (lv_at hl 0 rfl) ?_
  refine lv_goto (tgt := 72) hx hb dX8_round_65 (by decide) ?_
  have eg11 : mlF μ w x2 (μ 8 2) = mroF μ w x2 x3 := by rw [mroF, if_pos ⟨⟨h1, h2, h3⟩, h4⟩]
  have hP : va_P D vwCl (modelW c ad (mroF μ w x2 x3) r) H := by rw [← eg11]; exact hP
  have hD : va_D A (modelW c ad (mroF μ w x2 x3) r) := by rw [← eg11]; exact hD
  exact ret 72 ls H _ v (by rw [mroV, if_pos ⟨h1, h2, h3⟩, if_neg h4, ← ev, if_neg h7, if_pos h9]) hP hS dX8_round_72

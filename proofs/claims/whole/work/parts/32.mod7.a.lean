/-! ===== LastWordModel, walked: days to come ===== -/
abbrev rmX8_day : Room := { frames := 5, cells := 0, slots := 0, locals := 118 }
theorem hd_X8_day : yX8_day.cls = RX8 ∧ yX8_day.cls ≠ "java/lang/invoke/MethodHandle" ∧ yX8_day.cls ≠ "java/lang/invoke/VarHandle" ∧ (parseMethodDescriptor yX8_day.desc).map (fun d => d.parameters.length) = some 0 := by decide +kernel
set_option maxHeartbeats 4000000 in
set_option maxRecDepth 100000 in
theorem c_X8_day (l : Launch) (D : va_G) (c : Nat → ClassId) (ad : Nat → Nat) (μ : Nat → Nat → Int32) (r : Int64) (hG : wfG μ) (hU : wfU μ) : wk_UpI l yX8_day wsX8_day rmX8_day D (tysL c) [.ref (ad 0)] (modelW c ad μ r) (modelW c ad (mdF μ) r) (mdV μ) := by
  refine wk_mkU (cc := cX8_day) (maxL := 1) (rt := .int) (by decide) rfl (Nat.le_of_ble_eq_true rfl) rfl ?_
  intro A pr ev ss mm args below meth cd ls H H0 locs Q hst hP hK hD hS hA hl ret
  obtain ⟨hx, hb, hml, hown, hts, -⟩ := hst
  have hown : ss.vm.findClass RX8 = some mm.cls := hown
  have hl : lv_has ls 1 [(0, .ref (ad 0))] := hl
  have k1 := hts (.fieldLink RX8 19 "LastWordModel" "now" "[I") (List.mem_of_getElem? (i := 1) rfl)
  have iX8 : ∀ w ∈ u_ws RX8 TX8 18, w ∈ wsX8_day := fun _ h => (List.mem_cons_of_mem _ (List.mem_append_right _ h))
  refine lv_aload_n hx hb dX8_day_0 rfl (lv_at hl 0 rfl) ?_
  refine wg_X8_8 hx hb hts iX8 hown hK hP 0 rfl k1 (v := .ref (ad 8)) rfl dX8_day_1 ?_
  refine lv_iconst (v := 0) hx hb dX8_day_4 (by decide) ?_
  refine wk_ald (f := μ 8) hx hb hK hP 4 0 rfl rfl 0 rfl (by omega) (by decide) dX8_day_5 ?_
  refine lv_sipush (v := 999) hx hb dX8_day_6 (by decide) ?_
  refine lv_icmp_ne (tgt := 15) hx hb dX8_day_9 (by decide) (fun h1 => ?_) (fun h1 => ?_)
  rotate_left
  · refine lv_bipush (v := -2) hx hb dX8_day_12 (by decide) ?_
    have eg3 : μ = mdF μ := by rw [mdF, if_pos h1]
    have hP : va_P D vwCl (modelW c ad (mdF μ) r) H := by rw [← eg3]; exact hP
    have hD : va_D A (modelW c ad (mdF μ) r) := by rw [← eg3]; exact hD
    exact ret 14 ls H _ ((-2)) (by rw [mdV, if_pos h1]) hP hS dX8_day_14
  refine lv_aload_n hx hb dX8_day_15 rfl (lv_at hl 0 rfl) ?_
  refine wk_callVV (As := []) (rest := []) ⟨hx, hb, hml, hown, hts⟩ (c_X8_notes l D c ad μ r (hU)) (cwV 0 hts gX8_day_X8_notes rfl rfl rfl hd_X8_notes ⟨Nat.le_of_ble_eq_true rfl, Nat.le_of_ble_eq_true rfl⟩) hK hP hD hS hA [0, 1, 2, 3, 4, 5, 6, 7, 8] [] 9 rfl rfl [ad 0, ad 100, ad 6, ad 7, ad 8, ad 9, ad 12, ad 15, ad 17] rfl rfl (ws' := modelW c ad (nsF μ) r) rfl (wr := []) rfl rfl rfl rfl 0 rfl rfl rfl hl.1 rfl (Nat.le_of_ble_eq_true rfl) dX8_day_16 (Nat.zero_le _) (Nat.zero_le _) (fun H locs hP hD hS => ?_)
  refine lv_aload_n hx hb dX8_day_19 rfl (lv_at hl 0 rfl) ?_
  refine wk_callUV (As := []) (rest := []) ⟨hx, hb, hml, hown, hts⟩ (c_X8_goesBy l D c ad (nsF μ) r (nsF_G hG)) (cwV 0 hts gX8_day_X8_goesBy rfl rfl rfl hd_X8_goesBy ⟨Nat.le_of_ble_eq_true rfl, Nat.le_of_ble_eq_true rfl⟩) hK hP hD hS hA [0, 1, 2, 3, 4, 5, 6, 7, 8] [] 9 rfl rfl [ad 0, ad 100, ad 6, ad 7, ad 8, ad 9, ad 12, ad 15, ad 17] rfl rfl (ws' := modelW c ad (gyS (nsF μ) (qM (nsF μ))) r) rfl (wr := []) rfl rfl rfl rfl 0 rfl rfl rfl hl.1 rfl (Nat.le_of_ble_eq_true rfl) dX8_day_20 (Nat.zero_le _) (Nat.zero_le _) (fun H locs hP hD hS => ?_)
  have eg2 : gyS (nsF μ) (qM (nsF μ)) = mdF μ := by rw [mdF, if_neg h1]
  have hP : va_P D vwCl (modelW c ad (mdF μ) r) H := by rw [← eg2]; exact hP
  have hD : va_D A (modelW c ad (mdF μ) r) := by rw [← eg2]; exact hD
  exact ret 23 ls H _ (gyC (nsF μ) (qM (nsF μ))) (by rw [mdV, if_neg h1]) hP hS dX8_day_23

abbrev rmX8_closes : Room := { frames := 5, cells := 0, slots := 0, locals := 118 }
theorem hd_X8_closes : yX8_closes.cls = RX8 ∧ yX8_closes.cls ≠ "java/lang/invoke/MethodHandle" ∧ yX8_closes.cls ≠ "java/lang/invoke/VarHandle" ∧ (parseMethodDescriptor yX8_closes.desc).map (fun d => d.parameters.length) = some 1 := by decide +kernel
set_option maxHeartbeats 4000000 in
set_option maxRecDepth 100000 in
theorem c_X8_closes (l : Launch) (D : va_G) (c : Nat → ClassId) (ad : Nat → Nat) (μ : Nat → Nat → Int32) (r : Int64) (q : Nat) (hG : wfG μ) (hq6 : q < 6) : wk_UpI l yX8_closes wsX8_closes rmX8_closes D (tysL c) [.ref (ad 0), .int (nI q)] (modelW c ad μ r) (modelW c ad (clF μ q) r) (clV μ q) := by
  refine wk_mkU (cc := cX8_closes) (maxL := 3) (rt := .int) (by decide) rfl (Nat.le_of_ble_eq_true rfl) rfl ?_
  intro A pr ev ss mm args below meth cd ls H H0 locs Q hst hP hK hD hS hA hl ret
  obtain ⟨hx, hb, hml, hown, hts, -⟩ := hst
  have hown : ss.vm.findClass RX8 = some mm.cls := hown
  have hl : lv_has ls 3 [(0, .ref (ad 0)), (1, .int (nI q))] := hl
  refine lv_iconst (v := 0) hx hb dX8_closes_0 (by decide) ?_
  refine lv_istore_n (lv' := [(2, .int 0), (0, .ref (ad 0)), (1, .int (nI q))]) hx hb dX8_closes_1 rfl hl (by decide) rfl (fun ls hl => ?_)
  have lp2 : ∀ (n : Nat) (i : Nat), (i ≤ 400) → (clN μ q (400 - i) i = clN μ q 400 0) → 400 - i < n → ∀ (H : Heap) (locs : List Loc), va_P D vwCl (modelW c ad (gyN μ i) r) H → va_D A (modelW c ad (gyN μ i) r) → va_S A H0 H locs → ∀ ls : Array Slot, lv_has ls 3 [(0, .ref (ad 0)), (1, .int (nI q)), (2, .int (nI i))] → W pr l ev rmX8_closes ss mm args below meth cd H locs 0 0 Q (F0 mm 2 ls []) := by
    intro n
    induction n with
    | zero => intro i hi hv hn; exact absurd hn (Nat.not_lt_zero _)
    | succ n ih2 =>
      intro i hi hv hn H locs hP hD hS ls hl
      refine lv_iload_n hx hb dX8_closes_2 rfl (lv_at hl 2 rfl) ?_
      refine lv_sipush (v := 400) hx hb dX8_closes_3 (by decide) ?_
      refine wk_ge (tgt := 31) hx hb i 400 rfl rfl (by omega) (by omega) dX8_closes_6 (by decide) (fun h1 => ?_) (fun h1 => ?_)
      · have hk : clN μ q 400 0 = i := by rw [← hv, show 400 - i = 0 by omega]; rfl
        refine lv_aload_n hx hb dX8_closes_31 rfl (lv_at hl 0 rfl) ?_
        refine lv_iload_n hx hb dX8_closes_32 rfl (lv_at hl 1 rfl) ?_
        refine lv_iconst (v := 3) hx hb dX8_closes_33 (by decide) ?_
        refine wk_callRV (As := [.int (nI q), .int 3]) (rest := []) ⟨hx, hb, hml, hown, hts⟩ (c_X8_at l D c ad (gyN μ i) r q 3 (by omega) (by omega)) (cwV 2 hts gX8_closes_X8_at rfl rfl rfl hd_X8_at ⟨Nat.le_of_ble_eq_true rfl, Nat.le_of_ble_eq_true rfl⟩) hK hP [0, 1, 2, 3, 4, 5, 6, 7, 8] rfl 0 rfl rfl rfl hl.1 rfl (Nat.le_of_ble_eq_true rfl) dX8_closes_34 (Nat.zero_le _) (Nat.zero_le _) ?_
        refine lv_bipush (v := -9) hx hb dX8_closes_37 (by decide) ?_
        refine lv_icmp_ne (tgt := 46) hx hb dX8_closes_39 (by decide) (fun h2 => ?_) (fun h2 => ?_)
        · refine lv_bipush (v := -9) hx hb dX8_closes_46 (by decide) ?_
          have eg3 : gyN μ i = clF μ q := by rw [clF, hk]
          have hP : va_P D vwCl (modelW c ad (clF μ q) r) H := by rw [← eg3]; exact hP
          have hD : va_D A (modelW c ad (clF μ q) r) := by rw [← eg3]; exact hD
          exact ret 48 ls H _ ((-9)) (by first | contradiction | (rw [clV, hk, if_pos h2]) | (rw [clV, hk, if_neg h2])) hP hS dX8_closes_48
        refine lv_iload_n hx hb dX8_closes_42 rfl (lv_at hl 2 rfl) ?_
        refine lv_goto (tgt := 48) hx hb dX8_closes_43 (by decide) ?_
        have eg4 : gyN μ i = clF μ q := by rw [clF, hk]
        have hP : va_P D vwCl (modelW c ad (clF μ q) r) H := by rw [← eg4]; exact hP
        have hD : va_D A (modelW c ad (clF μ q) r) := by rw [← eg4]; exact hD
        exact ret 48 ls H _ (nI i) (by first | contradiction | (rw [clV, hk, if_pos h2]) | (rw [clV, hk, if_neg h2])) hP hS dX8_closes_48
      refine lv_aload_n hx hb dX8_closes_9 rfl (lv_at hl 0 rfl) ?_
      refine lv_iload_n hx hb dX8_closes_10 rfl (lv_at hl 1 rfl) ?_
      refine lv_iconst (v := 3) hx hb dX8_closes_11 (by decide) ?_
      refine wk_callRV (As := [.int (nI q), .int 3]) (rest := []) ⟨hx, hb, hml, hown, hts⟩ (c_X8_at l D c ad (gyN μ i) r q 3 (by omega) (by omega)) (cwV 2 hts gX8_closes_X8_at rfl rfl rfl hd_X8_at ⟨Nat.le_of_ble_eq_true rfl, Nat.le_of_ble_eq_true rfl⟩) hK hP [0, 1, 2, 3, 4, 5, 6, 7, 8] rfl 0 rfl rfl rfl hl.1 rfl (Nat.le_of_ble_eq_true rfl) dX8_closes_12 (Nat.zero_le _) (Nat.zero_le _) ?_
      refine lv_bipush (v := -9) hx hb dX8_closes_15 (by decide) ?_
      refine lv_icmp_eq (tgt := 31) hx hb dX8_closes_17 (by decide) (fun h5 => ?_) (fun h5 => ?_)
      rotate_left
      · refine lv_aload_n hx hb dX8_closes_20 rfl (lv_at hl 0 rfl) ?_
        refine wk_callUV (As := []) (rest := []) ⟨hx, hb, hml, hown, hts⟩ (c_X8_goesBy l D c ad (gyN μ i) r ((gyN_G hG i).1)) (cwV 0 hts gX8_closes_X8_goesBy rfl rfl rfl hd_X8_goesBy ⟨Nat.le_of_ble_eq_true rfl, Nat.le_of_ble_eq_true rfl⟩) hK hP hD hS hA [0, 1, 2, 3, 4, 5, 6, 7, 8] [] 9 rfl rfl [ad 0, ad 100, ad 6, ad 7, ad 8, ad 9, ad 12, ad 15, ad 17] rfl rfl (ws' := modelW c ad (gyS (gyN μ i) (qM (gyN μ i))) r) rfl (wr := []) rfl rfl rfl rfl 0 rfl rfl rfl hl.1 rfl (Nat.le_of_ble_eq_true rfl) dX8_closes_21 (Nat.zero_le _) (Nat.zero_le _) (fun H locs hP hD hS => ?_)
        refine lv_pop hx hb dX8_closes_24 rfl ?_
        refine lv_iinc (v := nI (i + 1)) (lv' := [(2, .int (nI (i + 1))), (0, .ref (ad 0)), (1, .int (nI q))]) hx hb dX8_closes_25 hl (k := 2) rfl (nI_inc i 1) (by decide) rfl (fun ls hl => ?_)
        refine lv_goto (tgt := 2) hx hb dX8_closes_28 (by decide) ?_
        have eg9 : gyS (gyN μ i) (qM (gyN μ i)) = gyN μ (i + 1) := by rfl
        have hP : va_P D vwCl (modelW c ad (gyN μ (i + 1)) r) H := by rw [← eg9]; exact hP
        have hD : va_D A (modelW c ad (gyN μ (i + 1)) r) := by rw [← eg9]; exact hD
        have hl : lv_has ls 3 [(0, .ref (ad 0)), (1, .int (nI q)), (2, .int (nI (i + 1)))] := lv_sub hl [1, 2, 0] rfl
        exact ih2 (i + 1) (by omega) (by rw [← hv, show 400 - i = (400 - (i + 1)) + 1 by omega, clN, if_neg h5]) (by omega) H _ hP hD hS ls hl
      have hk : clN μ q 400 0 = i := by rw [← hv, show 400 - i = (400 - (i + 1)) + 1 by omega, clN, if_pos h5]
      refine lv_aload_n hx hb dX8_closes_31 rfl (lv_at hl 0 rfl) ?_
      refine lv_iload_n hx hb dX8_closes_32 rfl (lv_at hl 1 rfl) ?_
      refine lv_iconst (v := 3) hx hb dX8_closes_33 (by decide) ?_
      refine wk_callRV (As := [.int (nI q), .int 3]) (rest := []) ⟨hx, hb, hml, hown, hts⟩ (c_X8_at l D c ad (gyN μ i) r q 3 (by omega) (by omega)) (cwV 2 hts gX8_closes_X8_at rfl rfl rfl hd_X8_at ⟨Nat.le_of_ble_eq_true rfl, Nat.le_of_ble_eq_true rfl⟩) hK hP [0, 1, 2, 3, 4, 5, 6, 7, 8] rfl 0 rfl rfl rfl hl.1 rfl (Nat.le_of_ble_eq_true rfl) dX8_closes_34 (Nat.zero_le _) (Nat.zero_le _) ?_
      refine lv_bipush (v := -9) hx hb dX8_closes_37 (by decide) ?_
      refine lv_icmp_ne (tgt := 46) hx hb dX8_closes_39 (by decide) (fun h6 => ?_) (fun h6 => ?_)
      · refine lv_bipush (v := -9) hx hb dX8_closes_46 (by decide) ?_
        have eg7 : gyN μ i = clF μ q := by rw [clF, hk]
        have hP : va_P D vwCl (modelW c ad (clF μ q) r) H := by rw [← eg7]; exact hP
        have hD : va_D A (modelW c ad (clF μ q) r) := by rw [← eg7]; exact hD
        exact ret 48 ls H _ ((-9)) (by first | contradiction | (rw [clV, hk, if_pos h6]) | (rw [clV, hk, if_neg h6])) hP hS dX8_closes_48
      refine lv_iload_n hx hb dX8_closes_42 rfl (lv_at hl 2 rfl) ?_
      refine lv_goto (tgt := 48) hx hb dX8_closes_43 (by decide) ?_
      have eg8 : gyN μ i = clF μ q := by rw [clF, hk]
      have hP : va_P D vwCl (modelW c ad (clF μ q) r) H := by rw [← eg8]; exact hP
      have hD : va_D A (modelW c ad (clF μ q) r) := by rw [← eg8]; exact hD
      exact ret 48 ls H _ (nI i) (by first | contradiction | (rw [clV, hk, if_pos h6]) | (rw [clV, hk, if_neg h6])) hP hS dX8_closes_48
  have eg10 : μ = gyN μ 0 := by rfl
  have hP : va_P D vwCl (modelW c ad (gyN μ 0) r) H := by rw [← eg10]; exact hP
  have hD : va_D A (modelW c ad (gyN μ 0) r) := by rw [← eg10]; exact hD
  have hl : lv_has ls 3 [(0, .ref (ad 0)), (1, .int (nI q)), (2, .int 0)] := lv_sub hl [1, 2, 0] rfl
  have hl := wk_lset (y := nI 0) (lv_sub (l' := [(2, .int 0), (0, .ref (ad 0)), (1, .int (nI q))]) hl [2, 0, 1] rfl) (by rfl)
  have hl : lv_has ls 3 [(0, .ref (ad 0)), (1, .int (nI q)), (2, .int (nI 0))] := lv_sub hl [1, 2, 0] rfl
  exact lp2 _ 0 (by omega) (rfl) (Nat.lt_succ_self _) H _ hP hD hS ls hl

abbrev rmX8_ends : Room := { frames := 6, cells := 0, slots := 0, locals := 140 }
theorem hd_X8_ends : yX8_ends.cls = RX8 ∧ yX8_ends.cls ≠ "java/lang/invoke/MethodHandle" ∧ yX8_ends.cls ≠ "java/lang/invoke/VarHandle" ∧ (parseMethodDescriptor yX8_ends.desc).map (fun d => d.parameters.length) = some 1 := by decide +kernel
set_option maxHeartbeats 4000000 in
set_option maxRecDepth 100000 in
theorem c_X8_ends (l : Launch) (D : va_G) (c : Nat → ClassId) (ad : Nat → Nat) (μ : Nat → Nat → Int32) (r : Int64) (q : Int32) (hG : wfG μ) : wk_UpI l yX8_ends wsX8_ends rmX8_ends D (tysL c) [.ref (ad 0), .int q] (modelW c ad μ r) (modelW c ad (menF μ q) r) (menV μ q) := by
  refine wk_mkU (cc := cX8_ends) (maxL := 3) (rt := .int) (by decide) rfl (Nat.le_of_ble_eq_true rfl) rfl ?_
  intro A pr ev ss mm args below meth cd ls H H0 locs Q hst hP hK hD hS hA hl ret
  obtain ⟨hx, hb, hml, hown, hts, -⟩ := hst
  have hown : ss.vm.findClass RX8 = some mm.cls := hown
  have hl : lv_has ls 3 [(0, .ref (ad 0)), (1, .int q)] := hl
  refine lv_aload_n hx hb dX8_ends_0 rfl (lv_at hl 0 rfl) ?_
  refine lv_iload_n hx hb dX8_ends_1 rfl (lv_at hl 1 rfl) ?_
  refine wk_callRV (As := [.int q]) (rest := []) ⟨hx, hb, hml, hown, hts⟩ (c_X8_isQuarrel l D c ad μ r q) (cwV 1 hts gX8_ends_X8_isQuarrel rfl rfl rfl hd_X8_isQuarrel ⟨Nat.le_of_ble_eq_true rfl, Nat.le_of_ble_eq_true rfl⟩) hK hP [0, 1, 2, 3, 4, 5, 6, 7, 8] rfl 0 rfl rfl rfl hl.1 rfl (Nat.le_of_ble_eq_true rfl) dX8_ends_2 (Nat.zero_le _) (Nat.zero_le _) ?_
  refine wk_bnz (tgt := 10) hx hb dX8_ends_5 (by decide) (fun h1 => ?_) (fun h1 => ?_)
  rotate_left
  · refine lv_iconst (v := -1) hx hb dX8_ends_8 (by decide) ?_
    have eg3 : μ = menF μ q := by rw [menF, if_neg h1]
    have hP : va_P D vwCl (modelW c ad (menF μ q) r) H := by rw [← eg3]; exact hP
    have hD : va_D A (modelW c ad (menF μ q) r) := by rw [← eg3]; exact hD
    exact ret 9 ls H _ ((-1)) (by rw [menV, if_neg h1]) hP hS dX8_ends_9
  refine lv_aload_n hx hb dX8_ends_10 rfl (lv_at hl 0 rfl) ?_
  refine wk_callVV (As := []) (rest := []) ⟨hx, hb, hml, hown, hts⟩ (c_X8_asides l D c ad μ r) (cwV 0 hts gX8_ends_X8_asides rfl rfl rfl hd_X8_asides ⟨Nat.le_of_ble_eq_true rfl, Nat.le_of_ble_eq_true rfl⟩) hK hP hD hS hA [0, 1, 2, 3, 4, 5, 6, 7, 8] [] 9 rfl rfl [ad 0, ad 100, ad 6, ad 7, ad 8, ad 9, ad 12, ad 15, ad 17] rfl rfl (ws' := modelW c ad (asF μ) r) rfl (wr := []) rfl rfl rfl rfl 0 rfl rfl rfl hl.1 rfl (Nat.le_of_ble_eq_true rfl) dX8_ends_11 (Nat.zero_le _) (Nat.zero_le _) (fun H locs hP hD hS => ?_)
  refine lv_aload_n hx hb dX8_ends_14 rfl (lv_at hl 0 rfl) ?_
  refine lv_iload_n hx hb dX8_ends_15 rfl (lv_at hl 1 rfl) ?_
  refine wk_eqi (y := nI q.toNatClampNeg) ((qM_ix hG.2.1 h1).1) ?_
  refine wk_callUV (As := [.int (nI q.toNatClampNeg)]) (rest := []) ⟨hx, hb, hml, hown, hts⟩ (c_X8_closes l D c ad (asF μ) r q.toNatClampNeg (asF_G hG) (Nat.lt_of_lt_of_le (qM_ix hG.2.1 h1).2 hG.2.1.2)) (cwV 1 hts gX8_ends_X8_closes rfl rfl rfl hd_X8_closes ⟨Nat.le_of_ble_eq_true rfl, Nat.le_of_ble_eq_true rfl⟩) hK hP hD hS hA [0, 1, 2, 3, 4, 5, 6, 7, 8] [] 9 rfl rfl [ad 0, ad 100, ad 6, ad 7, ad 8, ad 9, ad 12, ad 15, ad 17] rfl rfl (ws' := modelW c ad (clF (asF μ) q.toNatClampNeg) r) rfl (wr := []) rfl rfl rfl rfl 0 rfl rfl rfl hl.1 rfl (Nat.le_of_ble_eq_true rfl) dX8_ends_16 (Nat.zero_le _) (Nat.zero_le _) (fun H locs hP hD hS => ?_)
  refine lv_istore_n (lv' := [(2, .int (clV (asF μ) q.toNatClampNeg)), (0, .ref (ad 0)), (1, .int q)]) hx hb dX8_ends_19 rfl hl (by decide) rfl (fun ls hl => ?_)
  refine lv_aload_n hx hb dX8_ends_20 rfl (lv_at hl 1 rfl) ?_
  refine wk_callVV (As := []) (rest := []) ⟨hx, hb, hml, hown, hts⟩ (c_X8_backs l D c ad (clF (asF μ) q.toNatClampNeg) r) (cwV 0 hts gX8_ends_X8_backs rfl rfl rfl hd_X8_backs ⟨Nat.le_of_ble_eq_true rfl, Nat.le_of_ble_eq_true rfl⟩) hK hP hD hS hA [0, 1, 2, 3, 4, 5, 6, 7, 8] [] 9 rfl rfl [ad 0, ad 100, ad 6, ad 7, ad 8, ad 9, ad 12, ad 15, ad 17] rfl rfl (ws' := modelW c ad (bkF (clF (asF μ) q.toNatClampNeg)) r) rfl (wr := []) rfl rfl rfl rfl 0 rfl rfl rfl hl.1 rfl (Nat.le_of_ble_eq_true rfl) dX8_ends_21 (Nat.zero_le _) (Nat.zero_le _) (fun H locs hP hD hS => ?_)
  refine lv_iload_n hx hb dX8_ends_24 rfl (lv_at hl 0 rfl) ?_
  have eg2 : bkF (clF (asF μ) q.toNatClampNeg) = menF μ q := by rw [menF, if_pos h1]
  have hP : va_P D vwCl (modelW c ad (menF μ q) r) H := by rw [← eg2]; exact hP
  have hD : va_D A (modelW c ad (menF μ q) r) := by rw [← eg2]; exact hD
  exact ret 25 ls H _ (clV (asF μ) q.toNatClampNeg) (by rw [menV, if_pos h1]) hP hS dX8_ends_25

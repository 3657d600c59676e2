/-! ===== LastWordModel, walked: last, many ===== -/
abbrev rmX8_last : Room := { frames := 3, cells := 0, slots := 0, locals := 75 }
theorem hd_X8_last : yX8_last.cls = RX8 ∧ yX8_last.cls ≠ "java/lang/invoke/MethodHandle" ∧ yX8_last.cls ≠ "java/lang/invoke/VarHandle" ∧ (parseMethodDescriptor yX8_last.desc).map (fun d => d.parameters.length) = some 1 := by decide +kernel
set_option maxHeartbeats 4000000 in
set_option maxRecDepth 100000 in
theorem c_X8_last (l : Launch) (D : va_G) (c : Nat → ClassId) (ad : Nat → Nat) (μ : Nat → Nat → Int32) (r : Int64) (w : Int32) (hG : wfG μ) : wk_UpI l yX8_last wsX8_last rmX8_last D (tysL c) [.ref (ad 0), .int w] (modelW c ad μ r) (modelW c ad (mlaF μ w) r) (mlaV μ w) := by
  refine wk_mkU (cc := cX8_last) (maxL := 3) (rt := .int) (by decide) rfl (Nat.le_of_ble_eq_true rfl) rfl ?_
  intro A pr ev ss mm args below meth cd ls H H0 locs Q hst hP hK hD hS hA hl ret
  obtain ⟨hx, hb, hml, hown, hts, -⟩ := hst
  have hown : ss.vm.findClass RX8 = some mm.cls := hown
  have hl : lv_has ls 3 [(0, .ref (ad 0)), (1, .int w)] := hl
  have k1 := hts (.fieldLink RX8 19 "LastWordModel" "now" "[I") (List.mem_of_getElem? (i := 1) rfl)
  have k2 := hts (.fieldLink RX8 165 "LastWordModel" "lastWriter" "I") (List.mem_of_getElem? (i := 2) rfl)
  have iX8 : ∀ w ∈ u_ws RX8 TX8 18, w ∈ wsX8_last := fun _ h => (List.mem_cons_of_mem _ (List.mem_append_right _ h))
  refine lv_aload_n hx hb dX8_last_0 rfl (lv_at hl 0 rfl) ?_
  refine lv_iload_n hx hb dX8_last_1 rfl (lv_at hl 1 rfl) ?_
  refine wk_callRV (As := [.int w]) (rest := []) ⟨hx, hb, hml, hown, hts⟩ (c_X8_isWriter l D c ad μ r w) (cwV 1 hts gX8_last_X8_isWriter rfl rfl rfl hd_X8_isWriter ⟨Nat.le_of_ble_eq_true rfl, Nat.le_of_ble_eq_true rfl⟩) hK hP [0, 1, 2, 3, 4, 5, 6, 7, 8] rfl 0 rfl rfl rfl hl.1 rfl (Nat.le_of_ble_eq_true rfl) dX8_last_2 (Nat.zero_le _) (Nat.zero_le _) ?_
  refine wk_bnz (tgt := 10) hx hb dX8_last_5 (by decide) (fun h1 => ?_) (fun h1 => ?_)
  rotate_left
  · refine lv_iconst (v := -1) hx hb dX8_last_8 (by decide) ?_
    have eg11 : μ = mlaF μ w := by rw [mlaF, if_neg (fun q => h1 q.1)]
    have hP : va_P D vwCl (modelW c ad (mlaF μ w) r) H := by rw [← eg11]; exact hP
    have hD : va_D A (modelW c ad (mlaF μ w) r) := by rw [← eg11]; exact hD
    exact ret 9 ls H _ ((-1)) (by rw [mlaV, if_neg h1]) hP hS dX8_last_9
  refine lv_aload_n hx hb dX8_last_10 rfl (lv_at hl 0 rfl) ?_
  refine lv_iload_n hx hb dX8_last_11 rfl (lv_at hl 1 rfl) ?_
  refine wk_callRV (As := [.int w]) (rest := []) ⟨hx, hb, hml, hown, hts⟩ (c_X8_hasLaid l D c ad μ r w) (cwV 1 hts gX8_last_X8_hasLaid rfl rfl rfl hd_X8_hasLaid ⟨Nat.le_of_ble_eq_true rfl, Nat.le_of_ble_eq_true rfl⟩) hK hP [0, 1, 2, 3, 4, 5, 6, 7, 8] rfl 0 rfl rfl rfl hl.1 rfl (Nat.le_of_ble_eq_true rfl) dX8_last_12 (Nat.zero_le _) (Nat.zero_le _) ?_
  refine wk_bz (tgt := 21) hx hb dX8_last_15 (by decide) (fun h4 => ?_) (fun h4 => ?_)
  rotate_left
  · refine lv_bipush (v := -2) hx hb dX8_last_18 (by decide) ?_
    have eg10 : μ = mlaF μ w := by rw [mlaF, if_neg (fun q => q.2 h4)]
    have hP : va_P D vwCl (modelW c ad (mlaF μ w) r) H := by rw [← eg10]; exact hP
    have hD : va_D A (modelW c ad (mlaF μ w) r) := by rw [← eg10]; exact hD
    exact ret 20 ls H _ ((-2)) (by rw [mlaV, if_pos h1, if_pos h4]) hP hS dX8_last_20
  refine lv_iconst (v := 0) hx hb dX8_last_21 (by decide) ?_
  refine lv_istore_n (lv' := [(2, .int 0), (0, .ref (ad 0)), (1, .int w)]) hx hb dX8_last_22 rfl hl (by decide) rfl (fun ls hl => ?_)
  have lp23 : ∀ (n : Nat) (i : Nat), (i ≤ 5) → (mlaN μ w (5 - i) i = mlaN μ w 5 0) → 5 - i < n → ∀ (H : Heap) (locs : List Loc), va_P D vwCl (modelW c ad (mlsS μ w i) r) H → va_D A (modelW c ad (mlsS μ w i) r) → va_S A H0 H locs → ∀ ls : Array Slot, lv_has ls 3 [(0, .ref (ad 0)), (1, .int w), (2, .int (nI i))] → W pr l ev rmX8_last ss mm args below meth cd H locs 0 0 Q (F0 mm 23 ls []) := by
    intro n
    induction n with
    | zero => intro i hi hv hn; exact absurd hn (Nat.not_lt_zero _)
    | succ n ih23 =>
      intro i hi hv hn H locs hP hD hS ls hl
      refine lv_iload_n hx hb dX8_last_23 rfl (lv_at hl 2 rfl) ?_
      refine lv_iconst (v := 5) hx hb dX8_last_24 (by decide) ?_
      refine wk_ge (tgt := 61) hx hb i 5 rfl rfl (by omega) (by omega) dX8_last_25 (by decide) (fun h3 => ?_) (fun h3 => ?_)
      · refine lv_bipush (v := -9) hx hb dX8_last_61 (by decide) ?_
        have eg4 : mlsS μ w i = mlaF μ w := by rw [mlaF, if_pos ⟨h1, h4⟩, show mlaN μ w 5 0 = 5 from by rw [← hv, show i = 5 by omega]; rfl, if_pos rfl, show i = 5 by omega]
        have hP : va_P D vwCl (modelW c ad (mlaF μ w) r) H := by rw [← eg4]; exact hP
        have hD : va_D A (modelW c ad (mlaF μ w) r) := by rw [← eg4]; exact hD
        exact ret 63 ls H _ ((-9)) (by rw [mlaV, if_pos h1, if_neg h4, show mlaN μ w 5 0 = 5 from by rw [← hv, show i = 5 by omega]; rfl, if_pos rfl]) hP hS dX8_last_63
      refine lv_aload_n hx hb dX8_last_28 rfl (lv_at hl 0 rfl) ?_
      refine lv_iload_n hx hb dX8_last_29 rfl (lv_at hl 1 rfl) ?_
      refine lv_iload_n hx hb dX8_last_30 rfl (lv_at hl 2 rfl) ?_
      refine lv_aload_n hx hb dX8_last_31 rfl (lv_at hl 0 rfl) ?_
      refine wg_X8_8 hx hb hts iX8 hown hK hP 0 rfl k1 (v := .ref (ad 8)) rfl dX8_last_32 ?_
      refine lv_iconst (v := 2) hx hb dX8_last_35 (by decide) ?_
      refine wk_ald (f := (mlsS μ w i) 8) hx hb hK hP 4 0 rfl rfl 2 rfl (by omega) (by decide) dX8_last_36 ?_
      refine wk_callUV (As := [.int w, .int (nI i), .int ((mlsS μ w i) 8 2)]) (rest := []) ⟨hx, hb, hml, hown, hts⟩ (c_X8_letters l D c ad (mlsS μ w i) r w (nI i) ((mlsS μ w i) 8 2) (mlsS_G hG w i) (nI_ix (by omega))) (cwV 3 hts gX8_last_X8_letters rfl rfl rfl hd_X8_letters ⟨Nat.le_of_ble_eq_true rfl, Nat.le_of_ble_eq_true rfl⟩) hK hP hD hS hA [0, 1, 2, 3, 4, 5, 6, 7, 8] [] 9 rfl rfl [ad 0, ad 100, ad 6, ad 7, ad 8, ad 9, ad 12, ad 15, ad 17] rfl rfl (ws' := modelW c ad (mlF (mlsS μ w i) w (nI i) ((mlsS μ w i) 8 2)) r) rfl (wr := []) rfl rfl rfl rfl 0 rfl rfl rfl hl.1 rfl (Nat.le_of_ble_eq_true rfl) dX8_last_37 (Nat.zero_le _) (Nat.zero_le _) (fun H locs hP hD hS => ?_)
      refine lv_topi (fun v ev => ?_)
      have eg5 : mlF (mlsS μ w i) w (nI i) ((mlsS μ w i) 8 2) = mlsS μ w (i + 1) := by rfl
      have hP : va_P D vwCl (modelW c ad (mlsS μ w (i + 1)) r) H := by rw [← eg5]; exact hP
      have hD : va_D A (modelW c ad (mlsS μ w (i + 1)) r) := by rw [← eg5]; exact hD
      refine lv_bipush (v := -9) hx hb dX8_last_40 (by decide) ?_
      refine lv_icmp_eq (tgt := 55) hx hb dX8_last_42 (by decide) (fun h6 => ?_) (fun h6 => ?_)
      · refine lv_iinc (v := nI (i + 1)) (lv' := [(2, .int (nI (i + 1))), (0, .ref (ad 0)), (1, .int w)]) hx hb dX8_last_55 hl (k := 2) rfl (nI_inc i 1) (by decide) rfl (fun ls hl => ?_)
        refine lv_goto (tgt := 23) hx hb dX8_last_58 (by decide) ?_
        have hl : lv_has ls 3 [(0, .ref (ad 0)), (1, .int w), (2, .int (nI (i + 1)))] := lv_sub hl [1, 2, 0] rfl
        exact ih23 (i + 1) (by omega) (by rw [← hv, show 5 - i = (5 - (i + 1)) + 1 by omega, mlaN, if_neg (fun q => q.1 (ev.symm.trans h6))]) (by omega) H _ hP hD hS ls hl
      have hA1 := h6
      refine lv_aload_n hx hb dX8_last_45 rfl (lv_at hl 0 rfl) ?_
      refine wg_X8_13 hx hb hts iX8 hown hK hP 0 rfl k2 (v := .int ((mlsS μ w (i + 1)) 13 0)) rfl dX8_last_46 ?_
      refine lv_iload_n hx hb dX8_last_49 rfl (lv_at hl 1 rfl) ?_
      refine lv_icmp_ne (tgt := 55) hx hb dX8_last_50 (by decide) (fun h7 => ?_) (fun h7 => ?_)
      · refine lv_iinc (v := nI (i + 1)) (lv' := [(2, .int (nI (i + 1))), (0, .ref (ad 0)), (1, .int w)]) hx hb dX8_last_55 hl (k := 2) rfl (nI_inc i 1) (by decide) rfl (fun ls hl => ?_)
        refine lv_goto (tgt := 23) hx hb dX8_last_58 (by decide) ?_
        have hl : lv_has ls 3 [(0, .ref (ad 0)), (1, .int w), (2, .int (nI (i + 1)))] := lv_sub hl [1, 2, 0] rfl
        exact ih23 (i + 1) (by omega) (by rw [← hv, show 5 - i = (5 - (i + 1)) + 1 by omega, mlaN, if_neg (fun q => h7 q.2)]) (by omega) H _ hP hD hS ls hl
      refine lv_iload_n hx hb dX8_last_53 rfl (lv_at hl 2 rfl) ?_
      have eg8 : mlsS μ w (i + 1) = mlaF μ w := by rw [mlaF, if_pos ⟨h1, h4⟩, show mlaN μ w 5 0 = i from by rw [← hv, show 5 - i = (5 - (i + 1)) + 1 by omega, mlaN, if_pos ⟨fun e => hA1 (ev.trans e), h7⟩], if_neg (by omega)]
      have hP : va_P D vwCl (modelW c ad (mlaF μ w) r) H := by rw [← eg8]; exact hP
      have hD : va_D A (modelW c ad (mlaF μ w) r) := by rw [← eg8]; exact hD
      exact ret 54 ls H _ (nI i) (by rw [mlaV, if_pos h1, if_neg h4, show mlaN μ w 5 0 = i from by rw [← hv, show 5 - i = (5 - (i + 1)) + 1 by omega, mlaN, if_pos ⟨fun e => hA1 (ev.trans e), h7⟩], if_neg (by omega)]) hP hS dX8_last_54
  have eg9 : μ = mlsS μ w 0 := by rfl
  have hP : va_P D vwCl (modelW c ad (mlsS μ w 0) r) H := by rw [← eg9]; exact hP
  have hD : va_D A (modelW c ad (mlsS μ w 0) r) := by rw [← eg9]; exact hD
  have hl : lv_has ls 3 [(0, .ref (ad 0)), (1, .int w), (2, .int 0)] := lv_sub hl [1, 2, 0] rfl
  have hl := wk_lset (y := nI 0) (lv_sub (l' := [(2, .int 0), (0, .ref (ad 0)), (1, .int w)]) hl [2, 0, 1] rfl) (by rfl)
  have hl : lv_has ls 3 [(0, .ref (ad 0)), (1, .int w), (2, .int (nI 0))] := lv_sub hl [1, 2, 0] rfl
  exact lp23 _ 0 (by omega) (rfl) (Nat.lt_succ_self _) H _ hP hD hS ls hl

abbrev rmX8_many : Room := { frames := 0, cells := 0, slots := 0, locals := 0 }
theorem hd_X8_many : yX8_many.cls ≠ "java/lang/invoke/MethodHandle" ∧ yX8_many.cls ≠ "java/lang/invoke/VarHandle" ∧ (parseMethodDescriptor yX8_many.desc).map (fun d => d.parameters.length) = some 1 := by decide +kernel
set_option maxHeartbeats 4000000 in
set_option maxRecDepth 100000 in
theorem c_X8_many (l : Launch) (D : va_G) (c : Nat → ClassId) (k : Nat) (hk : k < 64) : wk_RdI l yX8_many wsX8_many rmX8_many D (tysL c) [.int (nI k)] ([]) (nI (pcT k)) := by
  refine wk_mkR (cc := cX8_many) (maxL := 3) (rt := .int) (by decide) rfl (Nat.le_of_ble_eq_true rfl) rfl ?_
  intro pr ev ss mm args below meth cd ls H Q hst hP hK hl ret
  obtain ⟨hx, hb, hml, hown, hts, -⟩ := hst
  have hown : ss.vm.findClass RX8 = some mm.cls := hown
  have hl : lv_has ls 3 [(0, .int (nI k))] := hl
  refine lv_iconst (v := 0) hx hb dX8_many_0 (by decide) ?_
  refine lv_istore_n (lv' := [(1, .int 0), (0, .int (nI k))]) hx hb dX8_many_1 rfl hl (by decide) rfl (fun ls hl => ?_)
  refine lv_iload_n hx hb dX8_many_2 rfl (lv_at hl 1 rfl) ?_
  refine lv_istore_n (lv' := [(2, .int (nI k)), (1, .int 0), (0, .int (nI k))]) hx hb dX8_many_3 rfl hl (by decide) rfl (fun ls hl => ?_)
  have lp4 : ∀ (n : Nat) (j : Nat) (t : Nat), (j < 64) → (t + pcT j = pcT k) → j < n → ∀ ls : Array Slot, lv_has ls 3 [(1, .int (nI t)), (2, .int (nI j))] → W pr l ev rmX8_many ss mm args below meth cd H [] 0 0 Q (F0 mm 4 ls []) := by
    intro n
    induction n with
    | zero => intro j t hj hv hn; exact absurd hn (Nat.not_lt_zero _)
    | succ n ih4 =>
      intro j t hj hv hn ls hl
      refine lv_iload_n hx hb dX8_many_4 rfl (lv_at hl 1 rfl) ?_
      refine lv_if_eq (tgt := 20) hx hb dX8_many_5 (by decide) (fun h1 => ?_) (fun h1 => ?_)
      · have hz : j = 0 := (nI_eq (a := j) (b := 0) (by omega) (by omega)).mp h1
        refine lv_iload_n hx hb dX8_many_20 rfl (lv_at hl 0 rfl) ?_
        exact ret 21 ls (nI t) (by rw [← hv, hz]; rfl) dX8_many_21
      have hz : j ≠ 0 := fun e => h1 (by rw [e]; rfl)
      refine lv_iinc (v := nI (t + 1)) (lv' := [(1, .int (nI (t + 1))), (2, .int (nI j))]) hx hb dX8_many_8 hl (k := 0) rfl (nI_inc t 1) (by decide) rfl (fun ls hl => ?_)
      refine lv_iload_n hx hb dX8_many_11 rfl (lv_at hl 1 rfl) ?_
      refine lv_iload_n hx hb dX8_many_12 rfl (lv_at hl 1 rfl) ?_
      refine lv_iconst (v := 1) hx hb dX8_many_13 (by decide) ?_
      refine lv_isub hx hb dX8_many_14 ?_
      refine lv_iand hx hb dX8_many_15 ?_
      refine wk_eqi (y := nI (j &&& (j - 1))) (pcT_s j hj hz).1 ?_
      refine lv_istore_n (lv' := [(2, .int (nI (j &&& (j - 1)))), (1, .int (nI (t + 1)))]) hx hb dX8_many_16 rfl hl (by decide) rfl (fun ls hl => ?_)
      refine lv_goto (tgt := 4) hx hb dX8_many_17 (by decide) ?_
      have hl : lv_has ls 3 [(1, .int (nI (t + 1))), (2, .int (nI (j &&& (j - 1))))] := lv_sub hl [1, 0] rfl
      exact ih4 (j &&& (j - 1)) (t + 1) (Nat.lt_trans (pcT_s j hj hz).2.1 hj) (by have := (pcT_s j hj hz).2.2; omega) (Nat.lt_of_lt_of_le (pcT_s j hj hz).2.1 (by omega)) ls hl
  have hl : lv_has ls 3 [(1, .int 0), (2, .int (nI k))] := lv_sub hl [1, 0] rfl
  have hl := wk_lset (y := nI 0) (lv_sub (l' := [(1, .int 0), (2, .int (nI k))]) hl [0, 1] rfl) (by rfl)
  have hl : lv_has ls 3 [(1, .int (nI 0)), (2, .int (nI k))] := lv_sub hl [0, 1] rfl
  exact lp4 _ k 0 (hk) (Nat.zero_add _) (Nat.lt_succ_self _) ls hl

/-! ===== LastWordModel, walked: lateFirst ===== -/
abbrev rmX8_lateFirst : Room := { frames := 5, cells := 0, slots := 0, locals := 118 }
theorem hd_X8_lateFirst : yX8_lateFirst.cls = RX8 ∧ yX8_lateFirst.cls ≠ "java/lang/invoke/MethodHandle" ∧ yX8_lateFirst.cls ≠ "java/lang/invoke/VarHandle" ∧ (parseMethodDescriptor yX8_lateFirst.desc).map (fun d => d.parameters.length) = some 1 := by decide +kernel
set_option maxHeartbeats 4000000 in
set_option maxRecDepth 100000 in
theorem c_X8_lateFirst (l : Launch) (D : va_G) (c : Nat → ClassId) (ad : Nat → Nat) (μ : Nat → Nat → Int32) (r : Int64) (x2 : Int32) (hG : wfG μ) : wk_UpI l yX8_lateFirst wsX8_lateFirst rmX8_lateFirst D (tysL c) [.ref (ad 0), .int x2] (modelW c ad μ r) (modelW c ad (mlfF μ x2) r) (mlfV μ x2) := by
  refine wk_mkU (cc := cX8_lateFirst) (maxL := 4) (rt := .int) (by decide) rfl (Nat.le_of_ble_eq_true rfl) rfl ?_
  intro A pr ev ss mm args below meth cd ls H H0 locs Q hst hP hK hD hS hA hl ret
  obtain ⟨hx, hb, hml, hown, hts, -⟩ := hst
  have hown : ss.vm.findClass RX8 = some mm.cls := hown
  have hl : lv_has ls 4 [(0, .ref (ad 0)), (1, .int x2)] := hl
  have k1 := hts (.fieldLink RX8 139 "LastWordModel" "newly" "I") (List.mem_of_getElem? (i := 1) rfl)
  have iX8 : ∀ w ∈ u_ws RX8 TX8 18, w ∈ wsX8_lateFirst := fun _ h => (List.mem_cons_of_mem _ (List.mem_append_right _ h))
  refine lv_iload_n hx hb dX8_lateFirst_0 rfl (lv_at hl 1 rfl) ?_
  refine lv_i2l (v := Int32.toInt64 x2) hx hb dX8_lateFirst_1 rfl ?_
  refine lv_lconst (v := 0) hx hb dX8_lateFirst_2 (by decide) ?_
  refine lv_lconst (v := 1) hx hb dX8_lateFirst_3 (by decide) ?_
  refine wk_callRS (As := [.long (Int32.toInt64 x2), .long (Int32.toInt64 0), .long (Int32.toInt64 1)]) (rest := []) ⟨hx, hb, hml, hown, hts⟩ (c_X8_in l D c x2 0 1) (va_cwS 3 hts gX8_lateFirst_X8_in rfl rfl rfl hd_X8_in ⟨Nat.le_of_ble_eq_true rfl, Nat.le_of_ble_eq_true rfl⟩) hK hP [] rfl rfl hl.1 rfl (Nat.le_of_ble_eq_true rfl) dX8_lateFirst_4 (Nat.zero_le _) (Nat.zero_le _) ?_
  refine wk_bnz (tgt := 12) hx hb dX8_lateFirst_7 (by decide) (fun h1 => ?_) (fun h1 => ?_)
  rotate_left
  · refine lv_iconst (v := -1) hx hb dX8_lateFirst_10 (by decide) ?_
    have eg16 : μ = mlfF μ x2 := by rw [mlfF, if_neg h1]
    have hP : va_P D vwCl (modelW c ad (mlfF μ x2) r) H := by rw [← eg16]; exact hP
    have hD : va_D A (modelW c ad (mlfF μ x2) r) := by rw [← eg16]; exact hD
    exact ret 11 ls H _ ((-1)) (by rw [mlfV, if_neg h1]) hP hS dX8_lateFirst_11
  refine lv_aload_n hx hb dX8_lateFirst_12 rfl (lv_at hl 0 rfl) ?_
  refine wk_callVV (As := []) (rest := []) ⟨hx, hb, hml, hown, hts⟩ (c_X8_asides l D c ad μ r) (cwV 0 hts gX8_lateFirst_X8_asides rfl rfl rfl hd_X8_asides ⟨Nat.le_of_ble_eq_true rfl, Nat.le_of_ble_eq_true rfl⟩) hK hP hD hS hA [0, 1, 2, 3, 4, 5, 6, 7, 8] [] 9 rfl rfl [ad 0, ad 100, ad 6, ad 7, ad 8, ad 9, ad 12, ad 15, ad 17] rfl rfl (ws' := modelW c ad (asF μ) r) rfl (wr := []) rfl rfl rfl rfl 0 rfl rfl rfl hl.1 rfl (Nat.le_of_ble_eq_true rfl) dX8_lateFirst_13 (Nat.zero_le _) (Nat.zero_le _) (fun H locs hP hD hS => ?_)
  refine lv_iconst (v := 0) hx hb dX8_lateFirst_16 (by decide) ?_
  refine lv_istore_n (lv' := [(2, .int 0), (0, .ref (ad 0)), (1, .int x2)]) hx hb dX8_lateFirst_17 rfl hl (by decide) rfl (fun ls hl => ?_)
  refine lv_aload_n hx hb dX8_lateFirst_18 rfl (lv_at hl 1 rfl) ?_
  refine lv_bipush (v := -9) hx hb dX8_lateFirst_19 (by decide) ?_
  refine wp_X8_11 hx hb hts iX8 hown hK hP hD hS 0 rfl k1 (Nat.le_of_ble_eq_true rfl) dX8_lateFirst_21 (ws' := modelW c ad (va_up (asF μ) 11 (fun _ => (-9))) r) rfl (fun H locs hP hD hS => ?_)
  have lp24 : ∀ (n : Nat) (i : Nat), (i ≤ 200) → (lfN μ (200 - i) i = lfN μ 200 0) → 200 - i < n → ∀ (H : Heap) (locs : List Loc), va_P D vwCl (modelW c ad (gyN (lf0 μ) i) r) H → va_D A (modelW c ad (gyN (lf0 μ) i) r) → va_S A H0 H locs → ∀ ls : Array Slot, lv_has ls 4 [(0, .ref (ad 0)), (1, .int x2), (2, .int (nI i))] → W pr l ev rmX8_lateFirst ss mm args below meth cd H locs 0 0 Q (F0 mm 24 ls []) := by
    intro n
    induction n with
    | zero => intro i hi hv hn; exact absurd hn (Nat.not_lt_zero _)
    | succ n ih24 =>
      intro i hi hv hn H locs hP hD hS ls hl
      refine lv_iload_n hx hb dX8_lateFirst_24 rfl (lv_at hl 2 rfl) ?_
      refine lv_sipush (v := 200) hx hb dX8_lateFirst_25 (by decide) ?_
      refine wk_ge (tgt := 51) hx hb i 200 rfl rfl (by omega) (by omega) dX8_lateFirst_28 (by decide) (fun h2 => ?_) (fun h2 => ?_)
      · have hk : lfN μ 200 0 = i := by rw [← hv, show 200 - i = 0 by omega]; rfl
        refine lv_aload_n hx hb dX8_lateFirst_51 rfl (lv_at hl 0 rfl) ?_
        refine wg_X8_11 hx hb hts iX8 hown hK hP 0 rfl k1 (v := .int ((gyN (lf0 μ) i) 11 0)) rfl dX8_lateFirst_52 ?_
        refine lv_bipush (v := -9) hx hb dX8_lateFirst_55 (by decide) ?_
        refine lv_icmp_ne (tgt := 65) hx hb dX8_lateFirst_57 (by decide) (fun h3 => ?_) (fun h3 => ?_)
        rotate_left
        · refine lv_bipush (v := -9) hx hb dX8_lateFirst_60 (by decide) ?_
          refine lv_goto (tgt := 82) hx hb dX8_lateFirst_62 (by decide) ?_
          refine lv_istore_n (lv' := [(3, .int ((-9))), (0, .ref (ad 0)), (1, .int x2), (2, .int (nI i))]) hx hb dX8_lateFirst_82 rfl hl (by decide) rfl (fun ls hl => ?_)
          refine lv_aload_n hx hb dX8_lateFirst_83 rfl (lv_at hl 1 rfl) ?_
          refine wk_callVV (As := []) (rest := []) ⟨hx, hb, hml, hown, hts⟩ (c_X8_backs l D c ad (gyN (lf0 μ) i) r) (cwV 0 hts gX8_lateFirst_X8_backs rfl rfl rfl hd_X8_backs ⟨Nat.le_of_ble_eq_true rfl, Nat.le_of_ble_eq_true rfl⟩) hK hP hD hS hA [0, 1, 2, 3, 4, 5, 6, 7, 8] [] 9 rfl rfl [ad 0, ad 100, ad 6, ad 7, ad 8, ad 9, ad 12, ad 15, ad 17] rfl rfl (ws' := modelW c ad (bkF (gyN (lf0 μ) i)) r) rfl (wr := []) rfl rfl rfl rfl 0 rfl rfl rfl hl.1 rfl (Nat.le_of_ble_eq_true rfl) dX8_lateFirst_84 (Nat.zero_le _) (Nat.zero_le _) (fun H locs hP hD hS => ?_)
          refine lv_iload_n hx hb dX8_lateFirst_87 rfl (lv_at hl 0 rfl) ?_
          have eg7 : bkF (gyN (lf0 μ) i) = mlfF μ x2 := by rw [mlfF, if_pos h1, lfE, hk]
          have hP : va_P D vwCl (modelW c ad (mlfF μ x2) r) H := by rw [← eg7]; exact hP
          have hD : va_D A (modelW c ad (mlfF μ x2) r) := by rw [← eg7]; exact hD
          exact ret 88 ls H _ ((-9)) (by first | contradiction | (rw [mlfV, if_pos h1, lfE, hk, if_neg hne, if_pos h3]; done) | (rw [mlfV, if_pos h1, lfE, hk, if_neg hne, if_neg h3]; done) | (rw [mlfV, if_pos h1, lfE, hk, if_pos h3]; done)) hP hS dX8_lateFirst_88
        have hne := h3
        have hox := (lf_ix hG i).resolve_left hne
        have ho2 := hox.2
        refine lv_iload_n hx hb dX8_lateFirst_65 rfl (lv_at hl 1 rfl) ?_
        refine lv_if_ne (tgt := 73) hx hb dX8_lateFirst_66 (by decide) (fun h4 => ?_) (fun h4 => ?_)
        rotate_left
        · refine lv_iload_n hx hb dX8_lateFirst_69 rfl (lv_at hl 2 rfl) ?_
          refine lv_goto (tgt := 82) hx hb dX8_lateFirst_70 (by decide) ?_
          refine lv_istore_n (lv' := [(3, .int (nI i)), (0, .ref (ad 0)), (1, .int x2), (2, .int (nI i))]) hx hb dX8_lateFirst_82 rfl hl (by decide) rfl (fun ls hl => ?_)
          refine lv_aload_n hx hb dX8_lateFirst_83 rfl (lv_at hl 1 rfl) ?_
          refine wk_callVV (As := []) (rest := []) ⟨hx, hb, hml, hown, hts⟩ (c_X8_backs l D c ad (gyN (lf0 μ) i) r) (cwV 0 hts gX8_lateFirst_X8_backs rfl rfl rfl hd_X8_backs ⟨Nat.le_of_ble_eq_true rfl, Nat.le_of_ble_eq_true rfl⟩) hK hP hD hS hA [0, 1, 2, 3, 4, 5, 6, 7, 8] [] 9 rfl rfl [ad 0, ad 100, ad 6, ad 7, ad 8, ad 9, ad 12, ad 15, ad 17] rfl rfl (ws' := modelW c ad (bkF (gyN (lf0 μ) i)) r) rfl (wr := []) rfl rfl rfl rfl 0 rfl rfl rfl hl.1 rfl (Nat.le_of_ble_eq_true rfl) dX8_lateFirst_84 (Nat.zero_le _) (Nat.zero_le _) (fun H locs hP hD hS => ?_)
          refine lv_iload_n hx hb dX8_lateFirst_87 rfl (lv_at hl 0 rfl) ?_
          have eg6 : bkF (gyN (lf0 μ) i) = mlfF μ x2 := by rw [mlfF, if_pos h1, lfE, hk]
          have hP : va_P D vwCl (modelW c ad (mlfF μ x2) r) H := by rw [← eg6]; exact hP
          have hD : va_D A (modelW c ad (mlfF μ x2) r) := by rw [← eg6]; exact hD
          exact ret 88 ls H _ (nI i) (by first | contradiction | (rw [mlfV, if_pos h1, lfE, hk, if_neg hne, if_pos h4]; done) | (rw [mlfV, if_pos h1, lfE, hk, if_neg hne, if_neg h4]; done) | (rw [mlfV, if_pos h1, lfE, hk, if_pos h4]; done)) hP hS dX8_lateFirst_88
        refine lv_aload_n hx hb dX8_lateFirst_73 rfl (lv_at hl 0 rfl) ?_
        refine lv_aload_n hx hb dX8_lateFirst_74 rfl (lv_at hl 0 rfl) ?_
        refine wg_X8_11 hx hb hts iX8 hown hK hP 0 rfl k1 (v := .int ((gyN (lf0 μ) i) 11 0)) rfl dX8_lateFirst_75 ?_
        refine wk_eqi (y := nI (((gyN (lf0 μ) i) 11 0).toNatClampNeg)) (hox.1) ?_
        refine lv_iconst (v := 3) hx hb dX8_lateFirst_78 (by decide) ?_
        refine wk_callRV (As := [.int (nI (((gyN (lf0 μ) i) 11 0).toNatClampNeg)), .int 3]) (rest := []) ⟨hx, hb, hml, hown, hts⟩ (c_X8_at l D c ad (gyN (lf0 μ) i) r (((gyN (lf0 μ) i) 11 0).toNatClampNeg) 3 (by omega) (by omega)) (cwV 2 hts gX8_lateFirst_X8_at rfl rfl rfl hd_X8_at ⟨Nat.le_of_ble_eq_true rfl, Nat.le_of_ble_eq_true rfl⟩) hK hP [0, 1, 2, 3, 4, 5, 6, 7, 8] rfl 0 rfl rfl rfl hl.1 rfl (Nat.le_of_ble_eq_true rfl) dX8_lateFirst_79 (Nat.zero_le _) (Nat.zero_le _) ?_
        refine lv_istore_n (lv' := [(3, .int (atV (gyN (lf0 μ) i) (((gyN (lf0 μ) i) 11 0).toNatClampNeg) 3)), (0, .ref (ad 0)), (1, .int x2), (2, .int (nI i))]) hx hb dX8_lateFirst_82 rfl hl (by decide) rfl (fun ls hl => ?_)
        refine lv_aload_n hx hb dX8_lateFirst_83 rfl (lv_at hl 1 rfl) ?_
        refine wk_callVV (As := []) (rest := []) ⟨hx, hb, hml, hown, hts⟩ (c_X8_backs l D c ad (gyN (lf0 μ) i) r) (cwV 0 hts gX8_lateFirst_X8_backs rfl rfl rfl hd_X8_backs ⟨Nat.le_of_ble_eq_true rfl, Nat.le_of_ble_eq_true rfl⟩) hK hP hD hS hA [0, 1, 2, 3, 4, 5, 6, 7, 8] [] 9 rfl rfl [ad 0, ad 100, ad 6, ad 7, ad 8, ad 9, ad 12, ad 15, ad 17] rfl rfl (ws' := modelW c ad (bkF (gyN (lf0 μ) i)) r) rfl (wr := []) rfl rfl rfl rfl 0 rfl rfl rfl hl.1 rfl (Nat.le_of_ble_eq_true rfl) dX8_lateFirst_84 (Nat.zero_le _) (Nat.zero_le _) (fun H locs hP hD hS => ?_)
        refine lv_iload_n hx hb dX8_lateFirst_87 rfl (lv_at hl 0 rfl) ?_
        have eg5 : bkF (gyN (lf0 μ) i) = mlfF μ x2 := by rw [mlfF, if_pos h1, lfE, hk]
        have hP : va_P D vwCl (modelW c ad (mlfF μ x2) r) H := by rw [← eg5]; exact hP
        have hD : va_D A (modelW c ad (mlfF μ x2) r) := by rw [← eg5]; exact hD
        exact ret 88 ls H _ (atV (gyN (lf0 μ) i) (((gyN (lf0 μ) i) 11 0).toNatClampNeg) 3) (by first | contradiction | (rw [mlfV, if_pos h1, lfE, hk, if_neg hne, if_pos h4]; done) | (rw [mlfV, if_pos h1, lfE, hk, if_neg hne, if_neg h4]; done) | (rw [mlfV, if_pos h1, lfE, hk, if_pos h4]; done)) hP hS dX8_lateFirst_88
      refine lv_aload_n hx hb dX8_lateFirst_31 rfl (lv_at hl 0 rfl) ?_
      refine wg_X8_11 hx hb hts iX8 hown hK hP 0 rfl k1 (v := .int ((gyN (lf0 μ) i) 11 0)) rfl dX8_lateFirst_32 ?_
      refine lv_bipush (v := -9) hx hb dX8_lateFirst_35 (by decide) ?_
      refine lv_icmp_ne (tgt := 51) hx hb dX8_lateFirst_37 (by decide) (fun h8 => ?_) (fun h8 => ?_)
      rotate_left
      · refine lv_aload_n hx hb dX8_lateFirst_40 rfl (lv_at hl 0 rfl) ?_
        refine wk_callUV (As := []) (rest := []) ⟨hx, hb, hml, hown, hts⟩ (c_X8_goesBy l D c ad (gyN (lf0 μ) i) r ((gyN_G (lf0_G hG) i).1)) (cwV 0 hts gX8_lateFirst_X8_goesBy rfl rfl rfl hd_X8_goesBy ⟨Nat.le_of_ble_eq_true rfl, Nat.le_of_ble_eq_true rfl⟩) hK hP hD hS hA [0, 1, 2, 3, 4, 5, 6, 7, 8] [] 9 rfl rfl [ad 0, ad 100, ad 6, ad 7, ad 8, ad 9, ad 12, ad 15, ad 17] rfl rfl (ws' := modelW c ad (gyS (gyN (lf0 μ) i) (qM (gyN (lf0 μ) i))) r) rfl (wr := []) rfl rfl rfl rfl 0 rfl rfl rfl hl.1 rfl (Nat.le_of_ble_eq_true rfl) dX8_lateFirst_41 (Nat.zero_le _) (Nat.zero_le _) (fun H locs hP hD hS => ?_)
        refine lv_pop hx hb dX8_lateFirst_44 rfl ?_
        refine lv_iinc (v := nI (i + 1)) (lv' := [(2, .int (nI (i + 1))), (0, .ref (ad 0)), (1, .int x2)]) hx hb dX8_lateFirst_45 hl (k := 2) rfl (nI_inc i 1) (by decide) rfl (fun ls hl => ?_)
        refine lv_goto (tgt := 24) hx hb dX8_lateFirst_48 (by decide) ?_
        have eg14 : gyS (gyN (lf0 μ) i) (qM (gyN (lf0 μ) i)) = gyN (lf0 μ) (i + 1) := by rfl
        have hP : va_P D vwCl (modelW c ad (gyN (lf0 μ) (i + 1)) r) H := by rw [← eg14]; exact hP
        have hD : va_D A (modelW c ad (gyN (lf0 μ) (i + 1)) r) := by rw [← eg14]; exact hD
        have hl : lv_has ls 4 [(0, .ref (ad 0)), (1, .int x2), (2, .int (nI (i + 1)))] := lv_sub hl [1, 2, 0] rfl
        exact ih24 (i + 1) (by omega) (by rw [← hv, show 200 - i = (200 - (i + 1)) + 1 by omega, lfN, if_pos h8]) (by omega) H _ hP hD hS ls hl
      have hk : lfN μ 200 0 = i := by rw [← hv, show 200 - i = (200 - (i + 1)) + 1 by omega, lfN, if_neg h8]
      refine lv_aload_n hx hb dX8_lateFirst_51 rfl (lv_at hl 0 rfl) ?_
      refine wg_X8_11 hx hb hts iX8 hown hK hP 0 rfl k1 (v := .int ((gyN (lf0 μ) i) 11 0)) rfl dX8_lateFirst_52 ?_
      refine lv_bipush (v := -9) hx hb dX8_lateFirst_55 (by decide) ?_
      refine lv_icmp_ne (tgt := 65) hx hb dX8_lateFirst_57 (by decide) (fun h9 => ?_) (fun h9 => ?_)
      rotate_left
      · refine lv_bipush (v := -9) hx hb dX8_lateFirst_60 (by decide) ?_
        refine lv_goto (tgt := 82) hx hb dX8_lateFirst_62 (by decide) ?_
        refine lv_istore_n (lv' := [(3, .int ((-9))), (0, .ref (ad 0)), (1, .int x2), (2, .int (nI i))]) hx hb dX8_lateFirst_82 rfl hl (by decide) rfl (fun ls hl => ?_)
        refine lv_aload_n hx hb dX8_lateFirst_83 rfl (lv_at hl 1 rfl) ?_
        refine wk_callVV (As := []) (rest := []) ⟨hx, hb, hml, hown, hts⟩ (c_X8_backs l D c ad (gyN (lf0 μ) i) r) (cwV 0 hts gX8_lateFirst_X8_backs rfl rfl rfl hd_X8_backs ⟨Nat.le_of_ble_eq_true rfl, Nat.le_of_ble_eq_true rfl⟩) hK hP hD hS hA [0, 1, 2, 3, 4, 5, 6, 7, 8] [] 9 rfl rfl [ad 0, ad 100, ad 6, ad 7, ad 8, ad 9, ad 12, ad 15, ad 17] rfl rfl (ws' := modelW c ad (bkF (gyN (lf0 μ) i)) r) rfl (wr := []) rfl rfl rfl rfl 0 rfl rfl rfl hl.1 rfl (Nat.le_of_ble_eq_true rfl) dX8_lateFirst_84 (Nat.zero_le _) (Nat.zero_le _) (fun H locs hP hD hS => ?_)
        refine lv_iload_n hx hb dX8_lateFirst_87 rfl (lv_at hl 0 rfl) ?_
        have eg13 : bkF (gyN (lf0 μ) i) = mlfF μ x2 := by rw [mlfF, if_pos h1, lfE, hk]
        have hP : va_P D vwCl (modelW c ad (mlfF μ x2) r) H := by rw [← eg13]; exact hP
        have hD : va_D A (modelW c ad (mlfF μ x2) r) := by rw [← eg13]; exact hD
        exact ret 88 ls H _ ((-9)) (by first | contradiction | (rw [mlfV, if_pos h1, lfE, hk, if_neg hne, if_pos h9]; done) | (rw [mlfV, if_pos h1, lfE, hk, if_neg hne, if_neg h9]; done) | (rw [mlfV, if_pos h1, lfE, hk, if_pos h9]; done)) hP hS dX8_lateFirst_88
      have hne := h9
      have hox := (lf_ix hG i).resolve_left hne
      have ho2 := hox.2
      refine lv_iload_n hx hb dX8_lateFirst_65 rfl (lv_at hl 1 rfl) ?_
      refine lv_if_ne (tgt := 73) hx hb dX8_lateFirst_66 (by decide) (fun h10 => ?_) (fun h10 => ?_)
      rotate_left
      · refine lv_iload_n hx hb dX8_lateFirst_69 rfl (lv_at hl 2 rfl) ?_
        refine lv_goto (tgt := 82) hx hb dX8_lateFirst_70 (by decide) ?_
        refine lv_istore_n (lv' := [(3, .int (nI i)), (0, .ref (ad 0)), (1, .int x2), (2, .int (nI i))]) hx hb dX8_lateFirst_82 rfl hl (by decide) rfl (fun ls hl => ?_)
        refine lv_aload_n hx hb dX8_lateFirst_83 rfl (lv_at hl 1 rfl) ?_
        refine wk_callVV (As := []) (rest := []) ⟨hx, hb, hml, hown, hts⟩ (c_X8_backs l D c ad (gyN (lf0 μ) i) r) (cwV 0 hts gX8_lateFirst_X8_backs rfl rfl rfl hd_X8_backs ⟨Nat.le_of_ble_eq_true rfl, Nat.le_of_ble_eq_true rfl⟩) hK hP hD hS hA [0, 1, 2, 3, 4, 5, 6, 7, 8] [] 9 rfl rfl [ad 0, ad 100, ad 6, ad 7, ad 8, ad 9, ad 12, ad 15, ad 17] rfl rfl (ws' := modelW c ad (bkF (gyN (lf0 μ) i)) r) rfl (wr := []) rfl rfl rfl rfl 0 rfl rfl rfl hl.1 rfl (Nat.le_of_ble_eq_true rfl) dX8_lateFirst_84 (Nat.zero_le _) (Nat.zero_le _) (fun H locs hP hD hS => ?_)
        refine lv_iload_n hx hb dX8_lateFirst_87 rfl (lv_at hl 0 rfl) ?_
        have eg12 : bkF (gyN (lf0 μ) i) = mlfF μ x2 := by rw [mlfF, if_pos h1, lfE, hk]
        have hP : va_P D vwCl (modelW c ad (mlfF μ x2) r) H := by rw [← eg12]; exact hP
        have hD : va_D A (modelW c ad (mlfF μ x2) r) := by rw [← eg12]; exact hD
        exact ret 88 ls H _ (nI i) (by first | contradiction | (rw [mlfV, if_pos h1, lfE, hk, if_neg hne, if_pos h10]; done) | (rw [mlfV, if_pos h1, lfE, hk, if_neg hne, if_neg h10]; done) | (rw [mlfV, if_pos h1, lfE, hk, if_pos h10]; done)) hP hS dX8_lateFirst_88
      refine lv_aload_n hx hb dX8_lateFirst_73 rfl (lv_at hl 0 rfl) ?_
      refine lv_aload_n hx hb dX8_lateFirst_74 rfl (lv_at hl 0 rfl) ?_
      refine wg_X8_11 hx hb hts iX8 hown hK hP 0 rfl k1 (v := .int ((gyN (lf0 μ) i) 11 0)) rfl dX8_lateFirst_75 ?_
      refine wk_eqi (y := nI (((gyN (lf0 μ) i) 11 0).toNatClampNeg)) (hox.1) ?_
      refine lv_iconst (v := 3) hx hb dX8_lateFirst_78 (by decide) ?_
      refine wk_callRV (As := [.int (nI (((gyN (lf0 μ) i) 11 0).toNatClampNeg)), .int 3]) (rest := []) ⟨hx, hb, hml, hown, hts⟩ (c_X8_at l D c ad (gyN (lf0 μ) i) r (((gyN (lf0 μ) i) 11 0).toNatClampNeg) 3 (by omega) (by omega)) (cwV 2 hts gX8_lateFirst_X8_at rfl rfl rfl hd_X8_at ⟨Nat.le_of_ble_eq_true rfl, Nat.le_of_ble_eq_true rfl⟩) hK hP [0, 1, 2, 3, 4, 5, 6, 7, 8] rfl 0 rfl rfl rfl hl.1 rfl (Nat.le_of_ble_eq_true rfl) dX8_lateFirst_79 (Nat.zero_le _) (Nat.zero_le _) ?_
      refine lv_istore_n (lv' := [(3, .int (atV (gyN (lf0 μ) i) (((gyN (lf0 μ) i) 11 0).toNatClampNeg) 3)), (0, .ref (ad 0)), (1, .int x2), (2, .int (nI i))]) hx hb dX8_lateFirst_82 rfl hl (by decide) rfl (fun ls hl => ?_)
      refine lv_aload_n hx hb dX8_lateFirst_83 rfl (lv_at hl 1 rfl) ?_
      refine wk_callVV (As := []) (rest := []) ⟨hx, hb, hml, hown, hts⟩ (c_X8_backs l D c ad (gyN (lf0 μ) i) r) (cwV 0 hts gX8_lateFirst_X8_backs rfl rfl rfl hd_X8_backs ⟨Nat.le_of_ble_eq_true rfl, Nat.le_of_ble_eq_true rfl⟩) hK hP hD hS hA [0, 1, 2, 3, 4, 5, 6, 7, 8] [] 9 rfl rfl [ad 0, ad 100, ad 6, ad 7, ad 8, ad 9, ad 12, ad 15, ad 17] rfl rfl (ws' := modelW c ad (bkF (gyN (lf0 μ) i)) r) rfl (wr := []) rfl rfl rfl rfl 0 rfl rfl rfl hl.1 rfl (Nat.le_of_ble_eq_true rfl) dX8_lateFirst_84 (Nat.zero_le _) (Nat.zero_le _) (fun H locs hP hD hS => ?_)
      refine lv_iload_n hx hb dX8_lateFirst_87 rfl (lv_at hl 0 rfl) ?_
      have eg11 : bkF (gyN (lf0 μ) i) = mlfF μ x2 := by rw [mlfF, if_pos h1, lfE, hk]
      have hP : va_P D vwCl (modelW c ad (mlfF μ x2) r) H := by rw [← eg11]; exact hP
      have hD : va_D A (modelW c ad (mlfF μ x2) r) := by rw [← eg11]; exact hD
      exact ret 88 ls H _ (atV (gyN (lf0 μ) i) (((gyN (lf0 μ) i) 11 0).toNatClampNeg) 3) (by first | contradiction | (rw [mlfV, if_pos h1, lfE, hk, if_neg hne, if_pos h10]; done) | (rw [mlfV, if_pos h1, lfE, hk, if_neg hne, if_neg h10]; done) | (rw [mlfV, if_pos h1, lfE, hk, if_pos h10]; done)) hP hS dX8_lateFirst_88
  have eg15 : va_up (asF μ) 11 (fun _ => (-9)) = gyN (lf0 μ) 0 := by rfl
  have hP : va_P D vwCl (modelW c ad (gyN (lf0 μ) 0) r) H := by rw [← eg15]; exact hP
  have hD : va_D A (modelW c ad (gyN (lf0 μ) 0) r) := by rw [← eg15]; exact hD
  have hl : lv_has ls 4 [(0, .ref (ad 0)), (1, .int x2), (2, .int 0)] := lv_sub hl [1, 2, 0] rfl
  have hl := wk_lset (y := nI 0) (lv_sub (l' := [(2, .int 0), (0, .ref (ad 0)), (1, .int x2)]) hl [2, 0, 1] rfl) (by rfl)
  have hl : lv_has ls 4 [(0, .ref (ad 0)), (1, .int x2), (2, .int (nI 0))] := lv_sub hl [1, 2, 0] rfl
  exact lp24 _ 0 (by omega) (rfl) (Nat.lt_succ_self _) H locs hP hD hS ls hl

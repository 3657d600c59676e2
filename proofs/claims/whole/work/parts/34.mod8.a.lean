/-! ===== LastWordModel, walked: days and letters ===== -/
abbrev rmX8_inDays : Room := { frames := 5, cells := 0, slots := 0, locals := 118 }
theorem hd_X8_inDays : yX8_inDays.cls = RX8 ∧ yX8_inDays.cls ≠ "java/lang/invoke/MethodHandle" ∧ yX8_inDays.cls ≠ "java/lang/invoke/VarHandle" ∧ (parseMethodDescriptor yX8_inDays.desc).map (fun d => d.parameters.length) = some 3 := by decide +kernel
set_option maxHeartbeats 4000000 in
set_option maxRecDepth 100000 in
theorem c_X8_inDays (l : Launch) (D : va_G) (c : Nat → ClassId) (ad : Nat → Nat) (μ : Nat → Nat → Int32) (r : Int64) (q : Int32) (d : Int32) (x2 : Int32) (hG : wfG μ) : wk_UpI l yX8_inDays wsX8_inDays rmX8_inDays D (tysL c) [.ref (ad 0), .int q, .int d, .int x2] (modelW c ad μ r) (modelW c ad (midF μ q d x2) r) (midV μ q d x2) := by
  refine wk_mkU (cc := cX8_inDays) (maxL := 5) (rt := .int) (by decide) rfl (Nat.le_of_ble_eq_true rfl) rfl ?_
  intro A pr ev ss mm args below meth cd ls H H0 locs Q hst hP hK hD hS hA hl ret
  obtain ⟨hx, hb, hml, hown, hts, -⟩ := hst
  have hown : ss.vm.findClass RX8 = some mm.cls := hown
  have hl : lv_has ls 5 [(0, .ref (ad 0)), (1, .int q), (2, .int d), (3, .int x2)] := hl
  have k1 := hts (.constantLong RX8 152 (60)) (List.mem_of_getElem? (i := 1) rfl)
  have k2 := hts (.constantLong RX8 154 (2)) (List.mem_of_getElem? (i := 2) rfl)
  refine lv_aload_n hx hb dX8_inDays_0 rfl (lv_at hl 0 rfl) ?_
  refine lv_iload_n hx hb dX8_inDays_1 rfl (lv_at hl 1 rfl) ?_
  refine wk_callRV (As := [.int q]) (rest := []) ⟨hx, hb, hml, hown, hts⟩ (c_X8_isQuarrel l D c ad μ r q) (cwV 1 hts gX8_inDays_X8_isQuarrel rfl rfl rfl hd_X8_isQuarrel ⟨Nat.le_of_ble_eq_true rfl, Nat.le_of_ble_eq_true rfl⟩) hK hP [0, 1, 2, 3, 4, 5, 6, 7, 8] rfl 0 rfl rfl rfl hl.1 rfl (Nat.le_of_ble_eq_true rfl) dX8_inDays_2 (Nat.zero_le _) (Nat.zero_le _) ?_
  refine wk_bz (tgt := 32) hx hb dX8_inDays_5 (by decide) (fun h1 => ?_) (fun h1 => ?_)
  · refine lv_iconst (v := -1) hx hb dX8_inDays_32 (by decide) ?_
    have eg2 : μ = midF μ q d x2 := by rw [midF, if_neg (fun q => h1 q.1)]
    have hP : va_P D vwCl (modelW c ad (midF μ q d x2) r) H := by rw [← eg2]; exact hP
    have hD : va_D A (modelW c ad (midF μ q d x2) r) := by rw [← eg2]; exact hD
    exact ret 33 ls H _ ((-1)) (by rw [midV, if_neg (fun q => h1 q.1)]) hP hS dX8_inDays_33
  refine lv_iload_n hx hb dX8_inDays_8 rfl (lv_at hl 2 rfl) ?_
  refine lv_i2l (v := Int32.toInt64 d) hx hb dX8_inDays_9 rfl ?_
  refine lv_lconst (v := 0) hx hb dX8_inDays_10 (by decide) ?_
  refine lv_ldc2 hx hb hown k1 dX8_inDays_11 ?_
  refine wk_callRS (As := [.long (Int32.toInt64 d), .long (Int32.toInt64 0), .long (Int32.toInt64 60)]) (rest := []) ⟨hx, hb, hml, hown, hts⟩ (c_X8_in l D c d 0 60) (va_cwS 3 hts gX8_inDays_X8_in rfl rfl rfl hd_X8_in ⟨Nat.le_of_ble_eq_true rfl, Nat.le_of_ble_eq_true rfl⟩) hK hP [] rfl rfl hl.1 rfl (Nat.le_of_ble_eq_true rfl) dX8_inDays_14 (Nat.zero_le _) (Nat.zero_le _) ?_
  refine wk_bz (tgt := 32) hx hb dX8_inDays_17 (by decide) (fun h2 => ?_) (fun h2 => ?_)
  · refine lv_iconst (v := -1) hx hb dX8_inDays_32 (by decide) ?_
    have eg4 : μ = midF μ q d x2 := by rw [midF, if_neg (fun q => h2 q.2.1)]
    have hP : va_P D vwCl (modelW c ad (midF μ q d x2) r) H := by rw [← eg4]; exact hP
    have hD : va_D A (modelW c ad (midF μ q d x2) r) := by rw [← eg4]; exact hD
    exact ret 33 ls H _ ((-1)) (by rw [midV, if_neg (fun q => h2 q.2.1)]) hP hS dX8_inDays_33
  refine lv_iload_n hx hb dX8_inDays_20 rfl (lv_at hl 3 rfl) ?_
  refine lv_i2l (v := Int32.toInt64 x2) hx hb dX8_inDays_21 rfl ?_
  refine lv_lconst (v := 0) hx hb dX8_inDays_22 (by decide) ?_
  refine lv_ldc2 hx hb hown k2 dX8_inDays_23 ?_
  refine wk_callRS (As := [.long (Int32.toInt64 x2), .long (Int32.toInt64 0), .long (Int32.toInt64 2)]) (rest := []) ⟨hx, hb, hml, hown, hts⟩ (c_X8_in l D c x2 0 2) (va_cwS 3 hts gX8_inDays_X8_in rfl rfl rfl hd_X8_in ⟨Nat.le_of_ble_eq_true rfl, Nat.le_of_ble_eq_true rfl⟩) hK hP [] rfl rfl hl.1 rfl (Nat.le_of_ble_eq_true rfl) dX8_inDays_26 (Nat.zero_le _) (Nat.zero_le _) ?_
  refine wk_bnz (tgt := 34) hx hb dX8_inDays_29 (by decide) (fun h3 => ?_) (fun h3 => ?_)
  rotate_left
  · refine lv_iconst (v := -1) hx hb dX8_inDays_32 (by decide) ?_
    have eg12 : μ = midF μ q d x2 := by rw [midF, if_neg (fun q => h3 q.2.2)]
    have hP : va_P D vwCl (modelW c ad (midF μ q d x2) r) H := by rw [← eg12]; exact hP
    have hD : va_D A (modelW c ad (midF μ q d x2) r) := by rw [← eg12]; exact hD
    exact ret 33 ls H _ ((-1)) (by rw [midV, if_neg (fun q => h3 q.2.2)]) hP hS dX8_inDays_33
  have hq0 := qM_ix hG.2.1 h1
  have hq1 := hq0.2
  have hq2 := hG.2.1.2
  have hd0 := ix_of (y := 61) (n := 61) rfl (by omega) ⟨h2.1, Int32.lt_of_le_of_lt h2.2 (by decide)⟩
  have hd1 := hd0.2
  have hz := in_ix (y := 3) (n := 3) rfl (by omega) h3
  have hz1 := hz.2
  refine lv_aload_n hx hb dX8_inDays_34 rfl (lv_at hl 0 rfl) ?_
  refine wk_callVV (As := []) (rest := []) ⟨hx, hb, hml, hown, hts⟩ (c_X8_asides l D c ad μ r) (cwV 0 hts gX8_inDays_X8_asides rfl rfl rfl hd_X8_asides ⟨Nat.le_of_ble_eq_true rfl, Nat.le_of_ble_eq_true rfl⟩) hK hP hD hS hA [0, 1, 2, 3, 4, 5, 6, 7, 8] [] 9 rfl rfl [ad 0, ad 100, ad 6, ad 7, ad 8, ad 9, ad 12, ad 15, ad 17] rfl rfl (ws' := modelW c ad (asF μ) r) rfl (wr := []) rfl rfl rfl rfl 0 rfl rfl rfl hl.1 rfl (Nat.le_of_ble_eq_true rfl) dX8_inDays_35 (Nat.zero_le _) (Nat.zero_le _) (fun H locs hP hD hS => ?_)
  refine lv_iconst (v := 0) hx hb dX8_inDays_38 (by decide) ?_
  refine lv_istore (lv' := [(4, .int 0), (0, .ref (ad 0)), (1, .int q), (2, .int d), (3, .int x2)]) hx hb dX8_inDays_39 hl (by decide) rfl (fun ls hl => ?_)
  have lp41 : ∀ (n : Nat) (i : Nat), (i ≤ d.toNatClampNeg) → d.toNatClampNeg - i < n → ∀ (H : Heap) (locs : List Loc), va_P D vwCl (modelW c ad (gyN (asF μ) i) r) H → va_D A (modelW c ad (gyN (asF μ) i) r) → va_S A H0 H locs → ∀ ls : Array Slot, lv_has ls 5 [(0, .ref (ad 0)), (1, .int q), (2, .int d), (3, .int x2), (4, .int (nI i))] → W pr l ev rmX8_inDays ss mm args below meth cd H locs 0 0 Q (F0 mm 41 ls []) := by
    intro n
    induction n with
    | zero => intro i hi hn; exact absurd hn (Nat.not_lt_zero _)
    | succ n ih41 =>
      intro i hi hn H locs hP hD hS ls hl
      refine lv_iload hx hb dX8_inDays_41 (lv_at hl 4 rfl) ?_
      refine lv_iload_n hx hb dX8_inDays_43 rfl (lv_at hl 2 rfl) ?_
      refine wk_eqi (y := nI d.toNatClampNeg) (hd0.1) ?_
      refine wk_ge (tgt := 58) hx hb i d.toNatClampNeg rfl rfl (by omega) (by omega) dX8_inDays_44 (by decide) (fun h6 => ?_) (fun h6 => ?_)
      rotate_left
      · refine lv_aload_n hx hb dX8_inDays_47 rfl (lv_at hl 0 rfl) ?_
        refine wk_callUV (As := []) (rest := []) ⟨hx, hb, hml, hown, hts⟩ (c_X8_goesBy l D c ad (gyN (asF μ) i) r ((gyN_G (asF_G hG) i).1)) (cwV 0 hts gX8_inDays_X8_goesBy rfl rfl rfl hd_X8_goesBy ⟨Nat.le_of_ble_eq_true rfl, Nat.le_of_ble_eq_true rfl⟩) hK hP hD hS hA [0, 1, 2, 3, 4, 5, 6, 7, 8] [] 9 rfl rfl [ad 0, ad 100, ad 6, ad 7, ad 8, ad 9, ad 12, ad 15, ad 17] rfl rfl (ws' := modelW c ad (gyS (gyN (asF μ) i) (qM (gyN (asF μ) i))) r) rfl (wr := []) rfl rfl rfl rfl 0 rfl rfl rfl hl.1 rfl (Nat.le_of_ble_eq_true rfl) dX8_inDays_48 (Nat.zero_le _) (Nat.zero_le _) (fun H locs hP hD hS => ?_)
        refine lv_pop hx hb dX8_inDays_51 rfl ?_
        refine lv_iinc (v := nI (i + 1)) (lv' := [(4, .int (nI (i + 1))), (0, .ref (ad 0)), (1, .int q), (2, .int d), (3, .int x2)]) hx hb dX8_inDays_52 hl (k := 4) rfl (nI_inc i 1) (by decide) rfl (fun ls hl => ?_)
        refine lv_goto (tgt := 41) hx hb dX8_inDays_55 (by decide) ?_
        have eg10 : gyS (gyN (asF μ) i) (qM (gyN (asF μ) i)) = gyN (asF μ) (i + 1) := by rfl
        have hP : va_P D vwCl (modelW c ad (gyN (asF μ) (i + 1)) r) H := by rw [← eg10]; exact hP
        have hD : va_D A (modelW c ad (gyN (asF μ) (i + 1)) r) := by rw [← eg10]; exact hD
        have hl : lv_has ls 5 [(0, .ref (ad 0)), (1, .int q), (2, .int d), (3, .int x2), (4, .int (nI (i + 1)))] := lv_sub hl [1, 2, 3, 4, 0] rfl
        exact ih41 (i + 1) (by omega) (by omega) H _ hP hD hS ls hl
      refine lv_aload_n hx hb dX8_inDays_58 rfl (lv_at hl 0 rfl) ?_
      refine lv_iload_n hx hb dX8_inDays_59 rfl (lv_at hl 1 rfl) ?_
      refine wk_eqi (y := nI q.toNatClampNeg) (hq0.1) ?_
      refine lv_iload_n hx hb dX8_inDays_60 rfl (lv_at hl 3 rfl) ?_
      refine lv_iconst (v := 2) hx hb dX8_inDays_61 (by decide) ?_
      refine lv_icmp_ne (tgt := 69) hx hb dX8_inDays_62 (by decide) (fun h7 => ?_) (fun h7 => ?_)
      · refine lv_iload_n hx hb dX8_inDays_69 rfl (lv_at hl 3 rfl) ?_
        refine wk_eqi (y := nI x2.toNatClampNeg) (hz.1) ?_
        refine wk_callRV (As := [.int (nI q.toNatClampNeg), .int (nI x2.toNatClampNeg)]) (rest := []) ⟨hx, hb, hml, hown, hts⟩ (c_X8_at l D c ad (gyN (asF μ) i) r q.toNatClampNeg x2.toNatClampNeg (by omega) (by omega)) (cwV 2 hts gX8_inDays_X8_at rfl rfl rfl hd_X8_at ⟨Nat.le_of_ble_eq_true rfl, Nat.le_of_ble_eq_true rfl⟩) hK hP [0, 1, 2, 3, 4, 5, 6, 7, 8] rfl 0 rfl rfl rfl hl.1 rfl (Nat.le_of_ble_eq_true rfl) dX8_inDays_70 (Nat.zero_le _) (Nat.zero_le _) ?_
        refine lv_istore (lv' := [(4, .int (atV (gyN (asF μ) i) q.toNatClampNeg x2.toNatClampNeg)), (0, .ref (ad 0)), (1, .int q), (2, .int d), (3, .int x2)]) hx hb dX8_inDays_73 hl (by decide) rfl (fun ls hl => ?_)
        refine lv_aload_n hx hb dX8_inDays_75 rfl (lv_at hl 1 rfl) ?_
        refine wk_callVV (As := []) (rest := []) ⟨hx, hb, hml, hown, hts⟩ (c_X8_backs l D c ad (gyN (asF μ) i) r) (cwV 0 hts gX8_inDays_X8_backs rfl rfl rfl hd_X8_backs ⟨Nat.le_of_ble_eq_true rfl, Nat.le_of_ble_eq_true rfl⟩) hK hP hD hS hA [0, 1, 2, 3, 4, 5, 6, 7, 8] [] 9 rfl rfl [ad 0, ad 100, ad 6, ad 7, ad 8, ad 9, ad 12, ad 15, ad 17] rfl rfl (ws' := modelW c ad (bkF (gyN (asF μ) i)) r) rfl (wr := []) rfl rfl rfl rfl 0 rfl rfl rfl hl.1 rfl (Nat.le_of_ble_eq_true rfl) dX8_inDays_76 (Nat.zero_le _) (Nat.zero_le _) (fun H locs hP hD hS => ?_)
        refine lv_iload hx hb dX8_inDays_79 (lv_at hl 0 rfl) ?_
        have eg8 : bkF (gyN (asF μ) i) = midF μ q d x2 := by rw [midF, if_pos ⟨h1, h2, h3⟩, show i = d.toNatClampNeg by omega]
        have hP : va_P D vwCl (modelW c ad (midF μ q d x2) r) H := by rw [← eg8]; exact hP
        have hD : va_D A (modelW c ad (midF μ q d x2) r) := by rw [← eg8]; exact hD
        exact ret 81 ls H _ (atV (gyN (asF μ) i) q.toNatClampNeg x2.toNatClampNeg) (by first | (rw [midV, if_pos ⟨h1, h2, h3⟩, if_pos h7, show i = d.toNatClampNeg by omega]) | (rw [midV, if_pos ⟨h1, h2, h3⟩, if_neg h7, show i = d.toNatClampNeg by omega])) hP hS dX8_inDays_81
      refine lv_iconst (v := 3) hx hb dX8_inDays_65 (by decide) ?_
      refine lv_goto (tgt := 70) hx hb dX8_inDays_66 (by decide) ?_
      refine wk_callRV (As := [.int (nI q.toNatClampNeg), .int 3]) (rest := []) ⟨hx, hb, hml, hown, hts⟩ (c_X8_at l D c ad (gyN (asF μ) i) r q.toNatClampNeg 3 (by omega) (by omega)) (cwV 2 hts gX8_inDays_X8_at rfl rfl rfl hd_X8_at ⟨Nat.le_of_ble_eq_true rfl, Nat.le_of_ble_eq_true rfl⟩) hK hP [0, 1, 2, 3, 4, 5, 6, 7, 8] rfl 0 rfl rfl rfl hl.1 rfl (Nat.le_of_ble_eq_true rfl) dX8_inDays_70 (Nat.zero_le _) (Nat.zero_le _) ?_
      refine lv_istore (lv' := [(4, .int (atV (gyN (asF μ) i) q.toNatClampNeg 3)), (0, .ref (ad 0)), (1, .int q), (2, .int d), (3, .int x2)]) hx hb dX8_inDays_73 hl (by decide) rfl (fun ls hl => ?_)
      refine lv_aload_n hx hb dX8_inDays_75 rfl (lv_at hl 1 rfl) ?_
      refine wk_callVV (As := []) (rest := []) ⟨hx, hb, hml, hown, hts⟩ (c_X8_backs l D c ad (gyN (asF μ) i) r) (cwV 0 hts gX8_inDays_X8_backs rfl rfl rfl hd_X8_backs ⟨Nat.le_of_ble_eq_true rfl, Nat.le_of_ble_eq_true rfl⟩) hK hP hD hS hA [0, 1, 2, 3, 4, 5, 6, 7, 8] [] 9 rfl rfl [ad 0, ad 100, ad 6, ad 7, ad 8, ad 9, ad 12, ad 15, ad 17] rfl rfl (ws' := modelW c ad (bkF (gyN (asF μ) i)) r) rfl (wr := []) rfl rfl rfl rfl 0 rfl rfl rfl hl.1 rfl (Nat.le_of_ble_eq_true rfl) dX8_inDays_76 (Nat.zero_le _) (Nat.zero_le _) (fun H locs hP hD hS => ?_)
      refine lv_iload hx hb dX8_inDays_79 (lv_at hl 0 rfl) ?_
      have eg9 : bkF (gyN (asF μ) i) = midF μ q d x2 := by rw [midF, if_pos ⟨h1, h2, h3⟩, show i = d.toNatClampNeg by omega]
      have hP : va_P D vwCl (modelW c ad (midF μ q d x2) r) H := by rw [← eg9]; exact hP
      have hD : va_D A (modelW c ad (midF μ q d x2) r) := by rw [← eg9]; exact hD
      exact ret 81 ls H _ (atV (gyN (asF μ) i) q.toNatClampNeg 3) (by first | (rw [midV, if_pos ⟨h1, h2, h3⟩, if_pos h7, show i = d.toNatClampNeg by omega]) | (rw [midV, if_pos ⟨h1, h2, h3⟩, if_neg h7, show i = d.toNatClampNeg by omega])) hP hS dX8_inDays_81
  have eg11 : asF μ = gyN (asF μ) 0 := by rfl
  have hP : va_P D vwCl (modelW c ad (gyN (asF μ) 0) r) H := by rw [← eg11]; exact hP
  have hD : va_D A (modelW c ad (gyN (asF μ) 0) r) := by rw [← eg11]; exact hD
  have hl : lv_has ls 5 [(0, .ref (ad 0)), (1, .int q), (2, .int d), (3, .int x2), (4, .int 0)] := lv_sub hl [1, 2, 3, 4, 0] rfl
  have hl := wk_lset (y := nI 0) (lv_sub (l' := [(4, .int 0), (0, .ref (ad 0)), (1, .int q), (2, .int d), (3, .int x2)]) hl [4, 0, 1, 2, 3] rfl) (by rfl)
  have hl : lv_has ls 5 [(0, .ref (ad 0)), (1, .int q), (2, .int d), (3, .int x2), (4, .int (nI 0))] := lv_sub hl [1, 2, 3, 4, 0] rfl
  exact lp41 _ 0 (by omega) (Nat.lt_succ_self _) H locs hP hD hS ls hl

abbrev rmX8_letters : Room := { frames := 2, cells := 0, slots := 0, locals := 48 }
theorem hd_X8_letters : yX8_letters.cls = RX8 ∧ yX8_letters.cls ≠ "java/lang/invoke/MethodHandle" ∧ yX8_letters.cls ≠ "java/lang/invoke/VarHandle" ∧ (parseMethodDescriptor yX8_letters.desc).map (fun d => d.parameters.length) = some 3 := by decide +kernel
set_option maxHeartbeats 4000000 in
set_option maxRecDepth 100000 in
theorem c_X8_letters (l : Launch) (D : va_G) (c : Nat → ClassId) (ad : Nat → Nat) (μ : Nat → Nat → Int32) (r : Int64) (w : Int32) (x2 : Int32) (laid : Int32) (hG : wfG μ) (hs5 : ixOK x2 5) : wk_UpI l yX8_letters wsX8_letters rmX8_letters D (tysL c) [.ref (ad 0), .int w, .int x2, .int laid] (modelW c ad μ r) (modelW c ad (mlF μ w x2 laid) r) (mlV μ w x2 laid) := by
  refine wk_mkU (cc := cX8_letters) (maxL := 8) (rt := .int) (by decide) rfl (Nat.le_of_ble_eq_true rfl) rfl ?_
  intro A pr ev ss mm args below meth cd ls H H0 locs Q hst hP hK hD hS hA hl ret
  obtain ⟨hx, hb, hml, hown, hts, -⟩ := hst
  have hown : ss.vm.findClass RX8 = some mm.cls := hown
  have hl : lv_has ls 8 [(0, .ref (ad 0)), (1, .int w), (2, .int x2), (3, .int laid)] := hl
  have k1 := hts (.fieldLink RX8 165 "LastWordModel" "lastWriter" "I") (List.mem_of_getElem? (i := 1) rfl)
  have iX8 : ∀ w ∈ u_ws RX8 TX8 18, w ∈ wsX8_letters := fun _ h => (List.mem_cons_of_mem _ (List.mem_append_right _ h))
  have hW6 := hG.1.1.2
  refine lv_iload_n hx hb dX8_letters_0 rfl (lv_at hl 1 rfl) ?_
  refine lv_istore (lv' := [(4, .int w), (0, .ref (ad 0)), (1, .int w), (2, .int x2), (3, .int laid)]) hx hb dX8_letters_1 hl (by decide) rfl (fun ls hl => ?_)
  refine lv_iload_n hx hb dX8_letters_3 rfl (lv_at hl 3 rfl) ?_
  refine lv_istore (lv' := [(5, .int x2), (4, .int w), (0, .ref (ad 0)), (1, .int w), (2, .int x2), (3, .int laid)]) hx hb dX8_letters_4 hl (by decide) rfl (fun ls hl => ?_)
  refine lv_iconst (v := 1) hx hb dX8_letters_6 (by decide) ?_
  refine lv_istore (lv' := [(6, .int 1), (5, .int x2), (4, .int w), (0, .ref (ad 0)), (1, .int w), (2, .int x2), (3, .int laid)]) hx hb dX8_letters_7 hl (by decide) rfl (fun ls hl => ?_)
  have lp9 : ∀ (n : Nat) (i : Nat), (i ≤ 31) → (ixOK (mlS μ w x2 laid i).2 5) → (mlN μ w x2 laid (31 - i) i = mlN μ w x2 laid 31 0) → 31 - i < n → ∀ (H : Heap) (locs : List Loc), va_P D vwCl (modelW c ad (mlR μ w x2 laid i) r) H → va_D A (modelW c ad (mlR μ w x2 laid i) r) → va_S A H0 H locs → ∀ ls : Array Slot, lv_has ls 8 [(0, .ref (ad 0)), (3, .int laid), (4, .int ((mlS μ w x2 laid i).1)), (5, .int ((mlS μ w x2 laid i).2)), (6, .int (nI (i + 1)))] → W pr l ev rmX8_letters ss mm args below meth cd H locs 0 0 Q (F0 mm 9 ls []) := by
    intro n
    induction n with
    | zero => intro i hi hsi hv hn; exact absurd hn (Nat.not_lt_zero _)
    | succ n ih9 =>
      intro i hi hsi hv hn H locs hP hD hS ls hl
      refine lv_iload hx hb dX8_letters_9 (lv_at hl 4 rfl) ?_
      refine lv_bipush (v := 32) hx hb dX8_letters_11 (by decide) ?_
      refine wk_ge (tgt := 63) hx hb (i + 1) 32 rfl rfl (by omega) (by omega) dX8_letters_13 (by decide) (fun h1 => ?_) (fun h1 => ?_)
      · refine lv_bipush (v := -9) hx hb dX8_letters_63 (by decide) ?_
        have eg2 : mlR μ w x2 laid i = mlF μ w x2 laid := by rw [mlF, show mlN μ w x2 laid 31 0 = 31 from by rw [← hv, show i = 31 by omega]; rfl, if_pos rfl, show i = 31 by omega]
        have hP : va_P D vwCl (modelW c ad (mlF μ w x2 laid) r) H := by rw [← eg2]; exact hP
        have hD : va_D A (modelW c ad (mlF μ w x2 laid) r) := by rw [← eg2]; exact hD
        exact ret 65 ls H _ ((-9)) (by rw [mlV, show mlN μ w x2 laid 31 0 = 31 from by rw [← hv, show i = 31 by omega]; rfl, if_pos rfl]) hP hS dX8_letters_65
      refine lv_aload_n hx hb dX8_letters_16 rfl (lv_at hl 0 rfl) ?_
      refine lv_iload hx hb dX8_letters_17 (lv_at hl 2 rfl) ?_
      refine wp_X8_13 hx hb hts iX8 hown hK hP hD hS 0 rfl k1 (Nat.le_of_ble_eq_true rfl) dX8_letters_19 (ws' := modelW c ad (va_up (mlR μ w x2 laid i) 13 (fun _ => (mlS μ w x2 laid i).1)) r) rfl (fun H locs hP hD hS => ?_)
      have eg3 : va_up (mlR μ w x2 laid i) 13 (fun _ => (mlS μ w x2 laid i).1) = mlR μ w x2 laid (i + 1) := by exact mlR_s μ w x2 laid i
      have hP : va_P D vwCl (modelW c ad (mlR μ w x2 laid (i + 1)) r) H := by rw [← eg3]; exact hP
      have hD : va_D A (modelW c ad (mlR μ w x2 laid (i + 1)) r) := by rw [← eg3]; exact hD
      refine lv_aload_n hx hb dX8_letters_22 rfl (lv_at hl 0 rfl) ?_
      refine lv_iload hx hb dX8_letters_23 (lv_at hl 2 rfl) ?_
      refine lv_iload hx hb dX8_letters_25 (lv_at hl 3 rfl) ?_
      refine wk_eqi (y := nI (((mlS μ w x2 laid i).2).toNatClampNeg)) (hsi.1) ?_
      refine lv_iload_n hx hb dX8_letters_27 rfl (lv_at hl 1 rfl) ?_
      refine wk_callRV (As := [.int ((mlS μ w x2 laid i).1), .int (nI (((mlS μ w x2 laid i).2).toNatClampNeg)), .int laid]) (rest := []) ⟨hx, hb, hml, hown, hts⟩ (c_X8_meantOf l D c ad (mlR μ w x2 laid (i + 1)) r ((mlS μ w x2 laid i).1) (((mlS μ w x2 laid i).2).toNatClampNeg) laid (by have q := hG.1.1; unfold wfW nM at *; rw [mlR_of μ w x2 laid (by decide) (i + 1)]; exact q) (hsi.2)) (cwV 3 hts gX8_letters_X8_meantOf rfl rfl rfl hd_X8_meantOf ⟨Nat.le_of_ble_eq_true rfl, Nat.le_of_ble_eq_true rfl⟩) hK hP [0, 1, 2, 3, 4, 5, 6, 7, 8] rfl 0 rfl rfl rfl hl.1 rfl (Nat.le_of_ble_eq_true rfl) dX8_letters_28 (Nat.zero_le _) (Nat.zero_le _) ?_
      refine wk_eqi (y := mlM μ w x2 laid i) (mnF_of (mlR_of μ w x2 laid (by decide) (i + 1)) _ _ _) ?_
      refine lv_topi (fun v ev => ?_)
      refine lv_istore (lv' := [(7, .int v), (0, .ref (ad 0)), (3, .int laid), (4, .int ((mlS μ w x2 laid i).1)), (5, .int ((mlS μ w x2 laid i).2)), (6, .int (nI (i + 1)))]) hx hb dX8_letters_31 hl (by decide) rfl (fun ls hl => ?_)
      refine lv_iload hx hb dX8_letters_33 (lv_at hl 0 rfl) ?_
      refine lv_bipush (v := -9) hx hb dX8_letters_35 (by decide) ?_
      refine lv_icmp_ne (tgt := 43) hx hb dX8_letters_37 (by decide) (fun h4 => ?_) (fun h4 => ?_)
      rotate_left
      · refine lv_iload hx hb dX8_letters_40 (lv_at hl 5 rfl) ?_
        have eg5 : mlR μ w x2 laid (i + 1) = mlF μ w x2 laid := by rw [mlF, show mlN μ w x2 laid 31 0 = i from by rw [← hv, show 31 - i = (31 - (i + 1)) + 1 by omega, mlN, ← ev, if_pos h4], if_neg (by omega)]
        have hP : va_P D vwCl (modelW c ad (mlF μ w x2 laid) r) H := by rw [← eg5]; exact hP
        have hD : va_D A (modelW c ad (mlF μ w x2 laid) r) := by rw [← eg5]; exact hD
        exact ret 42 ls H _ (nI (i + 1)) (by rw [mlV, show mlN μ w x2 laid 31 0 = i from by rw [← hv, show 31 - i = (31 - (i + 1)) + 1 by omega, mlN, ← ev, if_pos h4], if_neg (by omega)]) hP hS dX8_letters_42
      have ev3 : v = mnF μ (mlS μ w x2 laid i).1 (mlS μ w x2 laid i).2.toNatClampNeg laid := ev
      have hov : ixOK v (nM μ) := by rw [ev]; exact (mnF_ix hG.1.1 _ _ _).resolve_left (fun e => h4 (ev.trans e))
      have ho2 := hov.2
      have hal : ixOK (anM μ v.toNatClampNeg (mlS μ w x2 laid i).2) 5 := anM_ix hG hov.2 hsi
      refine lv_aload_n hx hb dX8_letters_43 rfl (lv_at hl 1 rfl) ?_
      refine lv_iload hx hb dX8_letters_44 (lv_at hl 0 rfl) ?_
      refine wk_eqi (y := nI v.toNatClampNeg) (hov.1) ?_
      refine lv_iload hx hb dX8_letters_46 (lv_at hl 4 rfl) ?_
      refine wk_callRV (As := [.int (nI v.toNatClampNeg), .int ((mlS μ w x2 laid i).2)]) (rest := []) ⟨hx, hb, hml, hown, hts⟩ (c_X8_answers l D c ad (mlR μ w x2 laid (i + 1)) r v.toNatClampNeg ((mlS μ w x2 laid i).2) (by omega)) (cwV 2 hts gX8_letters_X8_answers rfl rfl rfl hd_X8_answers ⟨Nat.le_of_ble_eq_true rfl, Nat.le_of_ble_eq_true rfl⟩) hK hP [0, 1, 2, 3, 4, 5, 6, 7, 8] rfl 0 rfl rfl rfl hl.1 rfl (Nat.le_of_ble_eq_true rfl) dX8_letters_48 (Nat.zero_le _) (Nat.zero_le _) ?_
      refine wk_eqi (y := anM μ v.toNatClampNeg (mlS μ w x2 laid i).2) (anM_of (mlR_of μ w x2 laid (by decide) (i + 1)) _ _) ?_
      refine lv_istore (lv' := [(5, .int (anM μ v.toNatClampNeg (mlS μ w x2 laid i).2)), (7, .int v), (0, .ref (ad 0)), (3, .int laid), (4, .int ((mlS μ w x2 laid i).1)), (6, .int (nI (i + 1)))]) hx hb dX8_letters_51 hl (by decide) rfl (fun ls hl => ?_)
      refine lv_iload hx hb dX8_letters_53 (lv_at hl 1 rfl) ?_
      refine lv_istore (lv' := [(4, .int v), (5, .int (anM μ v.toNatClampNeg (mlS μ w x2 laid i).2)), (7, .int v), (0, .ref (ad 0)), (3, .int laid), (6, .int (nI (i + 1)))]) hx hb dX8_letters_55 hl (by decide) rfl (fun ls hl => ?_)
      refine lv_iinc (v := nI ((i + 1) + 1)) (lv' := [(6, .int (nI ((i + 1) + 1))), (4, .int v), (5, .int (anM μ v.toNatClampNeg (mlS μ w x2 laid i).2)), (7, .int v), (0, .ref (ad 0)), (3, .int laid)]) hx hb dX8_letters_57 hl (k := 5) rfl (nI_inc (i + 1) 1) (by decide) rfl (fun ls hl => ?_)
      refine lv_goto (tgt := 9) hx hb dX8_letters_60 (by decide) ?_
      have hl : lv_has ls 8 [(0, .ref (ad 0)), (3, .int laid), (4, .int v), (5, .int (anM μ v.toNatClampNeg (mlS μ w x2 laid i).2)), (6, .int (nI ((i + 1) + 1)))] := lv_sub hl [4, 5, 1, 2, 0] rfl
      have hl := wk_lset (y := (mlS μ w x2 laid (i + 1)).1) (lv_sub (l' := [(4, .int v), (0, .ref (ad 0)), (3, .int laid), (5, .int (anM μ v.toNatClampNeg (mlS μ w x2 laid i).2)), (6, .int (nI ((i + 1) + 1)))]) hl [2, 0, 1, 3, 4] rfl) (by first | rfl | (rw [mlS, ev3]; done) | (simp only [mlS, ← ev3]; done))
      have hl : lv_has ls 8 [(0, .ref (ad 0)), (3, .int laid), (4, .int ((mlS μ w x2 laid (i + 1)).1)), (5, .int (anM μ v.toNatClampNeg (mlS μ w x2 laid i).2)), (6, .int (nI ((i + 1) + 1)))] := lv_sub hl [1, 2, 0, 3, 4] rfl
      have hl := wk_lset (y := (mlS μ w x2 laid (i + 1)).2) (lv_sub (l' := [(5, .int (anM μ v.toNatClampNeg (mlS μ w x2 laid i).2)), (0, .ref (ad 0)), (3, .int laid), (4, .int ((mlS μ w x2 laid (i + 1)).1)), (6, .int (nI ((i + 1) + 1)))]) hl [3, 0, 1, 2, 4] rfl) (by first | rfl | (rw [mlS, ev3]; done) | (simp only [mlS, ← ev3]; done))
      have hl : lv_has ls 8 [(0, .ref (ad 0)), (3, .int laid), (4, .int ((mlS μ w x2 laid (i + 1)).1)), (5, .int ((mlS μ w x2 laid (i + 1)).2)), (6, .int (nI ((i + 1) + 1)))] := lv_sub hl [1, 2, 3, 0, 4] rfl
      exact ih9 (i + 1) (by omega) (by rw [mlS, ← ev3]; exact hal) (by rw [← hv, show 31 - i = (31 - (i + 1)) + 1 by omega, mlN, ← ev, if_neg h4]) (by omega) H _ hP hD hS ls hl
  have eg6 : μ = mlR μ w x2 laid 0 := by first | rfl | (rw [mlS, ev3]; done) | (simp only [mlS, ← ev3]; done)
  have hP : va_P D vwCl (modelW c ad (mlR μ w x2 laid 0) r) H := by rw [← eg6]; exact hP
  have hD : va_D A (modelW c ad (mlR μ w x2 laid 0) r) := by rw [← eg6]; exact hD
  have hl : lv_has ls 8 [(0, .ref (ad 0)), (3, .int laid), (4, .int w), (5, .int x2), (6, .int 1)] := lv_sub hl [3, 6, 2, 1, 0] rfl
  have hl := wk_lset (y := (mlS μ w x2 laid 0).1) (lv_sub (l' := [(4, .int w), (0, .ref (ad 0)), (3, .int laid), (5, .int x2), (6, .int 1)]) hl [2, 0, 1, 3, 4] rfl) (by first | rfl | (rw [mlS, ev3]; done) | (simp only [mlS, ← ev3]; done))
  have hl : lv_has ls 8 [(0, .ref (ad 0)), (3, .int laid), (4, .int ((mlS μ w x2 laid 0).1)), (5, .int x2), (6, .int 1)] := lv_sub hl [1, 2, 0, 3, 4] rfl
  have hl := wk_lset (y := (mlS μ w x2 laid 0).2) (lv_sub (l' := [(5, .int x2), (0, .ref (ad 0)), (3, .int laid), (4, .int ((mlS μ w x2 laid 0).1)), (6, .int 1)]) hl [3, 0, 1, 2, 4] rfl) (by first | rfl | (rw [mlS, ev3]; done) | (simp only [mlS, ← ev3]; done))
  have hl : lv_has ls 8 [(0, .ref (ad 0)), (3, .int laid), (4, .int ((mlS μ w x2 laid 0).1)), (5, .int ((mlS μ w x2 laid 0).2)), (6, .int 1)] := lv_sub hl [1, 2, 3, 0, 4] rfl
  have hl := wk_lset (y := nI (0 + 1)) (lv_sub (l' := [(6, .int 1), (0, .ref (ad 0)), (3, .int laid), (4, .int ((mlS μ w x2 laid 0).1)), (5, .int ((mlS μ w x2 laid 0).2))]) hl [4, 0, 1, 2, 3] rfl) (by first | rfl | (rw [mlS, ev3]; done) | (simp only [mlS, ← ev3]; done))
  have hl : lv_has ls 8 [(0, .ref (ad 0)), (3, .int laid), (4, .int ((mlS μ w x2 laid 0).1)), (5, .int ((mlS μ w x2 laid 0).2)), (6, .int (nI (0 + 1)))] := lv_sub hl [1, 2, 3, 4, 0] rfl
  exact lp9 _ 0 (by omega) (hs5) (rfl) (Nat.lt_succ_self _) H _ hP hD hS ls hl

/-! ===== LastWord, walked: how it goes, dates ===== -/
abbrev rmX7_inDays : Room := { frames := 4, cells := 0, slots := 0, locals := 98 }
theorem hd_X7_inDays : yX7_inDays.cls = RX7 ∧ yX7_inDays.cls ≠ "java/lang/invoke/MethodHandle" ∧ yX7_inDays.cls ≠ "java/lang/invoke/VarHandle" ∧ (parseMethodDescriptor yX7_inDays.desc).map (fun d => d.parameters.length) = some 3 := by decide +kernel
set_option maxHeartbeats 4000000 in
set_option maxRecDepth 100000 in
theorem c_X7_inDays (l : Launch) (D : va_G) (c : Nat → ClassId) (x : Nat) (t : Nat → Nat) (p : Nat → Nat) (sp : Nat → Nat) (a : Nat → Nat) (b : Nat → Nat) (h : Nat → Nat) (g : Nat → Nat) (f : Nat → Nat) (o : Nat → Nat) (k : Int64) (π : Nat → Nat → Int32) (σ : Nat → Nat → Int32) (β : Nat → Nat → Int32) (q : Int32) (n2 : Int32) (x2 : Int32) (hp : wfP π) (ha : wfA π σ) : wk_UpJ l yX7_inDays wsX7_inDays rmX7_inDays D (tysL c) [.ref x, .int q, .int n2, .int x2] (lwW x t p sp a b h g f o k ++ pageW c p π ++ affW c a σ ++ affW c b β) (fun j1 j2 => lwW x t p sp a b h g f o k ++ pageW c p π ++ affW c a σ ++ affW c b j1) (inDaysV π σ q n2 x2) := by
  refine wk_mkJ (cc := cX7_inDays) (maxL := 5) (rt := .int) (by decide) rfl (Nat.le_of_ble_eq_true rfl) rfl ?_
  intro A pr ev ss mm args below meth cd ls H H0 locs Q hst hP hK hD hS hA hl ret
  obtain ⟨hx, hb, hml, hown, hts, -⟩ := hst
  have hown : ss.vm.findClass RX7 = some mm.cls := hown
  have hl : lv_has ls 5 [(0, .ref x), (1, .int q), (2, .int n2), (3, .int x2)] := hl
  have k1 := hts (.fieldLink RX7 29 "LastWord" "affairs" "LLastWord$Affairs;") (List.mem_of_getElem? (i := 1) rfl)
  have k2 := hts (.fieldLink RX7 33 "LastWord" "ahead" "LLastWord$Affairs;") (List.mem_of_getElem? (i := 2) rfl)
  have k6 := hts (.fieldLink RX7 121 "LastWord$Affairs" "owes" "[I") (List.mem_of_getElem? (i := 6) rfl)
  have k5 := hts (.fieldLink RX7 115 "LastWord$Affairs" "subject" "[I") (List.mem_of_getElem? (i := 5) rfl)
  have k4 := hts (.fieldLink RX7 112 "LastWord$Affairs" "author" "[I") (List.mem_of_getElem? (i := 4) rfl)
  have k3 := hts (.fieldLink RX7 19 "LastWord" "page" "LLastWord$Page;") (List.mem_of_getElem? (i := 3) rfl)
  have iX0 : ∀ w ∈ u_ws RX0 TX0 11, w ∈ wsX7_inDays := fun _ h => (List.mem_cons_of_mem _ (List.mem_append_left _ (List.mem_append_right _ h)))
  have iX7 : ∀ w ∈ u_ws RX7 TX7 10, w ∈ wsX7_inDays := fun _ h => (List.mem_cons_of_mem _ (List.mem_append_left _ (List.mem_append_left _ (List.mem_append_right _ h))))
  refine lv_aload_n hx hb dX7_inDays_0 rfl (lv_at hl 0 rfl) ?_
  refine wg_X7_3 hx hb hts iX7 hown hK hP 0 rfl k1 (v := .ref (a 0)) rfl dX7_inDays_1 ?_
  refine lv_iload_n hx hb dX7_inDays_4 rfl (lv_at hl 1 rfl) ?_
  refine wk_callRV (As := [.int q]) (rest := []) ⟨hx, hb, hml, hown, hts⟩ (c_X0_hasQuarrel l D c a σ q) (cwV 1 hts gX7_inDays_X0_hasQuarrel rfl rfl rfl hd_X0_hasQuarrel ⟨Nat.le_of_ble_eq_true rfl, Nat.le_of_ble_eq_true rfl⟩) hK hP [11, 12, 13, 14, 15, 16, 17, 18] rfl 0 rfl rfl rfl hl.1 rfl (Nat.le_of_ble_eq_true rfl) dX7_inDays_5 (Nat.zero_le _) (Nat.zero_le _) ?_
  refine wk_bz (tgt := 30) hx hb dX7_inDays_8 (by decide) (fun h1 => ?_) (fun h1 => ?_)
  · refine lv_iconst (v := -1) hx hb dX7_inDays_30 (by decide) ?_
    exact ret 31 ls H _ ((-1)) β π (by rw [inDaysV, if_neg (fun q => absurd q.1 h1)]) hP hS dX7_inDays_31
  refine lv_iload_n hx hb dX7_inDays_11 rfl (lv_at hl 2 rfl) ?_
  refine lv_if_lt (tgt := 30) hx hb dX7_inDays_12 (by decide) (fun h2 => ?_) (fun h2 => ?_)
  · refine lv_iconst (v := -1) hx hb dX7_inDays_30 (by decide) ?_
    exact ret 31 ls H _ ((-1)) β π (by rw [inDaysV, if_neg (fun q => absurd h2 (Int32.not_lt.mpr q.2.1.1))]) hP hS dX7_inDays_31
  refine lv_iload_n hx hb dX7_inDays_15 rfl (lv_at hl 2 rfl) ?_
  refine lv_bipush (v := 60) hx hb dX7_inDays_16 (by decide) ?_
  refine lv_icmp_gt (tgt := 30) hx hb dX7_inDays_18 (by decide) (fun h3 => ?_) (fun h3 => ?_)
  · refine lv_iconst (v := -1) hx hb dX7_inDays_30 (by decide) ?_
    exact ret 31 ls H _ ((-1)) β π (by rw [inDaysV, if_neg (fun q => absurd h3 (Int32.not_lt.mpr q.2.1.2))]) hP hS dX7_inDays_31
  refine lv_iload_n hx hb dX7_inDays_21 rfl (lv_at hl 3 rfl) ?_
  refine lv_if_lt (tgt := 30) hx hb dX7_inDays_22 (by decide) (fun h4 => ?_) (fun h4 => ?_)
  · refine lv_iconst (v := -1) hx hb dX7_inDays_30 (by decide) ?_
    exact ret 31 ls H _ ((-1)) β π (by rw [inDaysV, if_neg (fun q => absurd h4 (Int32.not_lt.mpr q.2.2.1))]) hP hS dX7_inDays_31
  refine lv_iload_n hx hb dX7_inDays_25 rfl (lv_at hl 3 rfl) ?_
  refine lv_iconst (v := 2) hx hb dX7_inDays_26 (by decide) ?_
  refine lv_icmp_le (tgt := 32) hx hb dX7_inDays_27 (by decide) (fun h5 => ?_) (fun h5 => ?_)
  rotate_left
  · refine lv_iconst (v := -1) hx hb dX7_inDays_30 (by decide) ?_
    exact ret 31 ls H _ ((-1)) β π (by rw [inDaysV, if_neg (fun q => absurd q.2.2.2 h5)]) hP hS dX7_inDays_31
  have hw := qu_ix ha.1 h1
  have hq6 := ha.1.2
  have hc : isQu σ q ∧ (0 ≤ n2 ∧ n2 ≤ 60) ∧ 0 ≤ x2 ∧ x2 ≤ 2 := ⟨h1, ⟨Int32.not_lt.mp h2, Int32.not_lt.mp h3⟩, Int32.not_lt.mp h4, h5⟩
  obtain ⟨hn0, hn1⟩ : ixOK n2 61 := ix_of (y := 61) (n := 61) rfl (by omega) ⟨hc.2.1.1, by apply Int32.lt_iff_toInt_lt.mpr; have := Int32.le_iff_toInt_le.mp hc.2.1.2; rw [show (60 : Int32).toInt = 60 from by decide] at this; rw [show (61 : Int32).toInt = 61 from by decide]; omega⟩
  refine lv_aload_n hx hb dX7_inDays_32 rfl (lv_at hl 0 rfl) ?_
  refine wg_X7_4 hx hb hts iX7 hown hK hP 0 rfl k2 (v := .ref (b 0)) rfl dX7_inDays_33 ?_
  refine lv_aload_n hx hb dX7_inDays_36 rfl (lv_at hl 0 rfl) ?_
  refine wg_X7_3 hx hb hts iX7 hown hK hP 0 rfl k1 (v := .ref (a 0)) rfl dX7_inDays_37 ?_
  refine wk_callVV (As := [.ref (a 0)]) (rest := []) ⟨hx, hb, hml, hown, hts⟩ (c_X0_copy l D c b β a σ) (cwV 1 hts gX7_inDays_X0_copy rfl rfl rfl hd_X0_copy ⟨Nat.le_of_ble_eq_true rfl, Nat.le_of_ble_eq_true rfl⟩) hK hP hD hS hA [19, 20, 21, 22, 23, 24, 25, 26, 11, 12, 13, 14, 15, 16, 17, 18] [0, 1, 2, 3, 4, 5, 6, 7, 8, 9, 10] 27 rfl rfl [b 0, b 4, b 5, b 6, b 7, b 8, b 9, b 10, a 0, a 4, a 5, a 6, a 7, a 8, a 9, a 10] rfl rfl (ws' := lwW x t p sp a b h g f o k ++ pageW c p π ++ affW c a σ ++ affW c b σ) rfl (wr := lwW x t p sp a b h g f o k ++ pageW c p π) rfl rfl rfl rfl 0 rfl rfl rfl hl.1 rfl (Nat.le_of_ble_eq_true rfl) dX7_inDays_40 (Nat.zero_le _) (Nat.zero_le _) (fun H locs hP hD hS => ?_)
  refine lv_iconst (v := 0) hx hb dX7_inDays_43 (by decide) ?_
  refine lv_istore (lv' := [(4, .int 0), (0, .ref x), (1, .int q), (2, .int n2), (3, .int x2)]) hx hb dX7_inDays_44 hl (by decide) rfl (fun ls hl => ?_)
  have lp46 : ∀ (n : Nat) (i : Nat), (i ≤ n2.toNatClampNeg) → n2.toNatClampNeg - i < n → ∀ (H : Heap) (locs : List Loc), va_P D vwCl (lwW x t p sp a b h g f o k ++ pageW c p π ++ affW c a σ ++ affW c b (passI π σ i)) H → va_D A (lwW x t p sp a b h g f o k ++ pageW c p π ++ affW c a σ ++ affW c b (passI π σ i)) → va_S A H0 H locs → ∀ ls : Array Slot, lv_has ls 5 [(0, .ref x), (1, .int q), (2, .int (nI n2.toNatClampNeg)), (3, .int x2), (4, .int (nI i))] → W pr l ev rmX7_inDays ss mm args below meth cd H locs 0 0 Q (F0 mm 46 ls []) := by
    intro n
    induction n with
    | zero => intro i hi hn; exact absurd hn (Nat.not_lt_zero _)
    | succ n ih46 =>
      intro i hi hn H locs hP hD hS ls hl
      refine lv_iload hx hb dX7_inDays_46 (lv_at hl 4 rfl) ?_
      refine lv_iload_n hx hb dX7_inDays_48 rfl (lv_at hl 2 rfl) ?_
      refine wk_ge (tgt := 70) hx hb i n2.toNatClampNeg rfl rfl (by omega) (by omega) dX7_inDays_49 (by decide) (fun h6 => ?_) (fun h6 => ?_)
      rotate_left
      · refine lv_aload_n hx hb dX7_inDays_52 rfl (lv_at hl 0 rfl) ?_
        refine wg_X7_4 hx hb hts iX7 hown hK hP 0 rfl k2 (v := .ref (b 0)) rfl dX7_inDays_53 ?_
        refine lv_aload_n hx hb dX7_inDays_56 rfl (lv_at hl 0 rfl) ?_
        refine wg_X7_1 hx hb hts iX7 hown hK hP 0 rfl k3 (v := .ref (p 0)) rfl dX7_inDays_57 ?_
        refine wk_callUV (As := [.ref (p 0)]) (rest := []) ⟨hx, hb, hml, hown, hts⟩ (c_X0_passDay l D c b (passI π σ i) p π (hp) (passI_wf hp ha i)) (cwV 1 hts gX7_inDays_X0_passDay rfl rfl rfl hd_X0_passDay ⟨Nat.le_of_ble_eq_true rfl, Nat.le_of_ble_eq_true rfl⟩) hK hP hD hS hA [19, 20, 21, 22, 23, 24, 25, 26, 1, 2, 3, 4, 5, 6, 7, 8, 9, 10] [0, 11, 12, 13, 14, 15, 16, 17, 18] 27 rfl rfl [b 0, b 4, b 5, b 6, b 7, b 8, b 9, b 10, p 0, p 2, p 3, p 4, p (5 + 0), p (5 + 1), p (5 + 2), p (5 + 3), p (5 + 4), p (5 + 5)] rfl rfl (ws' := lwW x t p sp a b h g f o k ++ pageW c p π ++ affW c a σ ++ affW c b (passF π (passI π σ i))) rfl (wr := lwW x t p sp a b h g f o k ++ affW c a σ) rfl rfl rfl rfl 0 rfl rfl rfl hl.1 rfl (Nat.le_of_ble_eq_true rfl) dX7_inDays_60 (Nat.zero_le _) (Nat.zero_le _) (fun H locs hP hD hS => ?_)
        refine lv_pop hx hb dX7_inDays_63 rfl ?_
        refine lv_iinc (v := nI (i + 1)) (lv' := [(4, .int (nI (i + 1))), (0, .ref x), (1, .int q), (2, .int (nI n2.toNatClampNeg)), (3, .int x2)]) hx hb dX7_inDays_64 hl (k := 4) rfl (nI_inc i 1) (by decide) rfl (fun ls hl => ?_)
        refine lv_goto (tgt := 46) hx hb dX7_inDays_67 (by decide) ?_
        have eg9 : passF π (passI π σ i) = passI π σ (i + 1) := by rfl
        have hP : va_P D vwCl (lwW x t p sp a b h g f o k ++ pageW c p π ++ affW c a σ ++ affW c b (passI π σ (i + 1))) H := by rw [← eg9]; exact hP
        have hD : va_D A (lwW x t p sp a b h g f o k ++ pageW c p π ++ affW c a σ ++ affW c b (passI π σ (i + 1))) := by rw [← eg9]; exact hD
        have hl : lv_has ls 5 [(0, .ref x), (1, .int q), (2, .int (nI n2.toNatClampNeg)), (3, .int x2), (4, .int (nI (i + 1)))] := lv_sub hl [1, 2, 3, 4, 0] rfl
        exact ih46 (i + 1) (by omega) (by omega) H _ hP hD hS ls hl
      refine lv_iload_n hx hb dX7_inDays_70 rfl (lv_at hl 3 rfl) ?_
      refine lv_if_ne (tgt := 84) hx hb dX7_inDays_71 (by decide) (fun h7 => ?_) (fun h7 => ?_)
      rotate_left
      · refine lv_aload_n hx hb dX7_inDays_74 rfl (lv_at hl 0 rfl) ?_
        refine wg_X7_4 hx hb hts iX7 hown hK hP 0 rfl k2 (v := .ref (b 0)) rfl dX7_inDays_75 ?_
        refine wg_X0_5 hx hb hts iX0 hown hK hP 19 rfl k4 (v := .ref (b 5)) rfl dX7_inDays_78 ?_
        refine lv_iload_n hx hb dX7_inDays_81 rfl (lv_at hl 1 rfl) ?_
        refine wk_ald (f := (passI π σ i) 5) hx hb hK hP 21 0 rfl rfl q.toNatClampNeg (hw.1) (Nat.lt_of_lt_of_le hw.2 hq6) (by decide) dX7_inDays_82 ?_
        exact ret 83 ls H _ ((passI π σ i) 5 q.toNatClampNeg) (passI π σ i) π (by rw [inDaysV, if_pos hc, inDK, if_pos h7, show i = n2.toNatClampNeg by omega]) hP hS dX7_inDays_83
      refine lv_iload_n hx hb dX7_inDays_84 rfl (lv_at hl 3 rfl) ?_
      refine lv_iconst (v := 1) hx hb dX7_inDays_85 (by decide) ?_
      refine lv_icmp_ne (tgt := 101) hx hb dX7_inDays_86 (by decide) (fun h8 => ?_) (fun h8 => ?_)
      · refine lv_aload_n hx hb dX7_inDays_101 rfl (lv_at hl 0 rfl) ?_
        refine wg_X7_4 hx hb hts iX7 hown hK hP 0 rfl k2 (v := .ref (b 0)) rfl dX7_inDays_102 ?_
        refine wg_X0_8 hx hb hts iX0 hown hK hP 19 rfl k6 (v := .ref (b 8)) rfl dX7_inDays_105 ?_
        refine lv_iload_n hx hb dX7_inDays_108 rfl (lv_at hl 1 rfl) ?_
        refine wk_ald (f := (passI π σ i) 8) hx hb hK hP 24 0 rfl rfl q.toNatClampNeg (hw.1) (Nat.lt_of_lt_of_le hw.2 hq6) (by decide) dX7_inDays_109 ?_
        exact ret 110 ls H _ ((passI π σ i) 8 q.toNatClampNeg) (passI π σ i) π (by rw [inDaysV, if_pos hc, inDK, if_neg h7, if_neg h8, show i = n2.toNatClampNeg by omega]) hP hS dX7_inDays_110
      refine lv_aload_n hx hb dX7_inDays_89 rfl (lv_at hl 0 rfl) ?_
      refine wg_X7_4 hx hb hts iX7 hown hK hP 0 rfl k2 (v := .ref (b 0)) rfl dX7_inDays_90 ?_
      refine wg_X0_6 hx hb hts iX0 hown hK hP 19 rfl k5 (v := .ref (b 6)) rfl dX7_inDays_93 ?_
      refine lv_iload_n hx hb dX7_inDays_96 rfl (lv_at hl 1 rfl) ?_
      refine wk_ald (f := (passI π σ i) 6) hx hb hK hP 22 0 rfl rfl q.toNatClampNeg (hw.1) (Nat.lt_of_lt_of_le hw.2 hq6) (by decide) dX7_inDays_97 ?_
      refine lv_goto (tgt := 110) hx hb dX7_inDays_98 (by decide) ?_
      exact ret 110 ls H _ ((passI π σ i) 6 q.toNatClampNeg) (passI π σ i) π (by rw [inDaysV, if_pos hc, inDK, if_neg h7, if_pos h8, show i = n2.toNatClampNeg by omega]) hP hS dX7_inDays_110
  have eg10 : σ = passI π σ 0 := by rfl
  have hP : va_P D vwCl (lwW x t p sp a b h g f o k ++ pageW c p π ++ affW c a σ ++ affW c b (passI π σ 0)) H := by rw [← eg10]; exact hP
  have hD : va_D A (lwW x t p sp a b h g f o k ++ pageW c p π ++ affW c a σ ++ affW c b (passI π σ 0)) := by rw [← eg10]; exact hD
  have hl : lv_has ls 5 [(0, .ref x), (1, .int q), (2, .int n2), (3, .int x2), (4, .int 0)] := lv_sub hl [1, 2, 3, 4, 0] rfl
  have hl := wk_lset (y := nI n2.toNatClampNeg) (lv_sub (l' := [(2, .int n2), (0, .ref x), (1, .int q), (3, .int x2), (4, .int 0)]) hl [2, 0, 1, 3, 4] rfl) (by exact hn0)
  have hl : lv_has ls 5 [(0, .ref x), (1, .int q), (2, .int (nI n2.toNatClampNeg)), (3, .int x2), (4, .int 0)] := lv_sub hl [1, 2, 0, 3, 4] rfl
  have hl := wk_lset (y := nI 0) (lv_sub (l' := [(4, .int 0), (0, .ref x), (1, .int q), (2, .int (nI n2.toNatClampNeg)), (3, .int x2)]) hl [4, 0, 1, 2, 3] rfl) (by rfl)
  have hl : lv_has ls 5 [(0, .ref x), (1, .int q), (2, .int (nI n2.toNatClampNeg)), (3, .int x2), (4, .int (nI 0))] := lv_sub hl [1, 2, 3, 4, 0] rfl
  exact lp46 _ 0 (by omega) (Nat.lt_succ_self _) H locs hP hD hS ls hl

abbrev rmX7_daysTillClosed : Room := { frames := 4, cells := 0, slots := 0, locals := 98 }
theorem hd_X7_daysTillClosed : yX7_daysTillClosed.cls = RX7 ∧ yX7_daysTillClosed.cls ≠ "java/lang/invoke/MethodHandle" ∧ yX7_daysTillClosed.cls ≠ "java/lang/invoke/VarHandle" ∧ (parseMethodDescriptor yX7_daysTillClosed.desc).map (fun d => d.parameters.length) = some 1 := by decide +kernel
set_option maxHeartbeats 4000000 in
set_option maxRecDepth 100000 in
theorem c_X7_daysTillClosed (l : Launch) (D : va_G) (c : Nat → ClassId) (x : Nat) (t : Nat → Nat) (p : Nat → Nat) (sp : Nat → Nat) (a : Nat → Nat) (b : Nat → Nat) (h : Nat → Nat) (g : Nat → Nat) (f : Nat → Nat) (o : Nat → Nat) (k : Int64) (π : Nat → Nat → Int32) (β : Nat → Nat → Int32) (κ : Nat → Nat → Int32) (q : Nat) (hp : wfP π) (hb2 : wfA π β) (hq : q < nQ β) : wk_UpJ l yX7_daysTillClosed wsX7_daysTillClosed rmX7_daysTillClosed D (tysL c) [.ref x, .int (nI q)] (lwW x t p sp a b h g f o k ++ pageW c p π ++ affW c b β ++ courseW c o κ) (fun j1 j2 => lwW x t p sp a b h g f o k ++ pageW c p π ++ affW c b j1 ++ courseW c o j2) (dtcV π β q) := by
  refine wk_mkJ (cc := cX7_daysTillClosed) (maxL := 3) (rt := .int) (by decide) rfl (Nat.le_of_ble_eq_true rfl) rfl ?_
  intro A pr ev ss mm args below meth cd ls H H0 locs Q hst hP hK hD hS hA hl ret
  obtain ⟨hx, hb, hml, hown, hts, -⟩ := hst
  have hown : ss.vm.findClass RX7 = some mm.cls := hown
  have hl : lv_has ls 3 [(0, .ref x), (1, .int (nI q))] := hl
  have k1 := hts (.fieldLink RX7 60 "LastWord" "course" "LLastWord$Course;") (List.mem_of_getElem? (i := 1) rfl)
  have k2 := hts (.fieldLink RX7 19 "LastWord" "page" "LLastWord$Page;") (List.mem_of_getElem? (i := 2) rfl)
  have k3 := hts (.fieldLink RX7 33 "LastWord" "ahead" "LLastWord$Affairs;") (List.mem_of_getElem? (i := 3) rfl)
  have k4 := hts (.fieldLink RX7 112 "LastWord$Affairs" "author" "[I") (List.mem_of_getElem? (i := 4) rfl)
  have k5 := hts (.fieldLink RX7 115 "LastWord$Affairs" "subject" "[I") (List.mem_of_getElem? (i := 5) rfl)
  have k6 := hts (.fieldLink RX7 134 "LastWord$Affairs" "laid" "I") (List.mem_of_getElem? (i := 6) rfl)
  have k7 := hts (.fieldLink RX7 185 "LastWord$Course" "length" "I") (List.mem_of_getElem? (i := 7) rfl)
  have k8 := hts (.fieldLink RX7 121 "LastWord$Affairs" "owes" "[I") (List.mem_of_getElem? (i := 8) rfl)
  have iX0 : ∀ w ∈ u_ws RX0 TX0 11, w ∈ wsX7_daysTillClosed := fun _ h => (List.mem_cons_of_mem _ (List.mem_append_left _ (List.mem_append_left _ (List.mem_append_right _ h))))
  have iX2 : ∀ w ∈ u_ws RX2 TX2 2, w ∈ wsX7_daysTillClosed := fun _ h => (List.mem_cons_of_mem _ (List.mem_append_left _ (List.mem_append_right _ h)))
  have iX7 : ∀ w ∈ u_ws RX7 TX7 10, w ∈ wsX7_daysTillClosed := fun _ h => (List.mem_cons_of_mem _ (List.mem_append_left _ (List.mem_append_left _ (List.mem_append_left _ (List.mem_append_right _ h)))))
  have hq6 := hb2.1.2
  refine lv_aload_n hx hb dX7_daysTillClosed_0 rfl (lv_at hl 0 rfl) ?_
  refine wg_X7_8 hx hb hts iX7 hown hK hP 0 rfl k1 (v := .ref (o 0)) rfl dX7_daysTillClosed_1 ?_
  refine lv_aload_n hx hb dX7_daysTillClosed_4 rfl (lv_at hl 0 rfl) ?_
  refine wg_X7_1 hx hb hts iX7 hown hK hP 0 rfl k2 (v := .ref (p 0)) rfl dX7_daysTillClosed_5 ?_
  refine lv_aload_n hx hb dX7_daysTillClosed_8 rfl (lv_at hl 0 rfl) ?_
  refine wg_X7_4 hx hb hts iX7 hown hK hP 0 rfl k3 (v := .ref (b 0)) rfl dX7_daysTillClosed_9 ?_
  refine wg_X0_5 hx hb hts iX0 hown hK hP 11 rfl k4 (v := .ref (b 5)) rfl dX7_daysTillClosed_12 ?_
  refine lv_iload_n hx hb dX7_daysTillClosed_15 rfl (lv_at hl 1 rfl) ?_
  refine wk_ald (f := β 5) hx hb hK hP 13 0 rfl rfl q rfl (by omega) (by decide) dX7_daysTillClosed_16 ?_
  refine lv_aload_n hx hb dX7_daysTillClosed_17 rfl (lv_at hl 0 rfl) ?_
  refine wg_X7_4 hx hb hts iX7 hown hK hP 0 rfl k3 (v := .ref (b 0)) rfl dX7_daysTillClosed_18 ?_
  refine wg_X0_6 hx hb hts iX0 hown hK hP 11 rfl k5 (v := .ref (b 6)) rfl dX7_daysTillClosed_21 ?_
  refine lv_iload_n hx hb dX7_daysTillClosed_24 rfl (lv_at hl 1 rfl) ?_
  refine wk_ald (f := β 6) hx hb hK hP 14 0 rfl rfl q rfl (by omega) (by decide) dX7_daysTillClosed_25 ?_
  refine wk_eqi (y := nI ((β 6 q).toNatClampNeg)) ((hb2.2 q hq).1.1) ?_
  refine lv_aload_n hx hb dX7_daysTillClosed_26 rfl (lv_at hl 0 rfl) ?_
  refine wg_X7_4 hx hb hts iX7 hown hK hP 0 rfl k3 (v := .ref (b 0)) rfl dX7_daysTillClosed_27 ?_
  refine wg_X0_3 hx hb hts iX0 hown hK hP 11 rfl k6 (v := .int (β 3 0)) rfl dX7_daysTillClosed_30 ?_
  refine wk_callVV (As := [.ref (p 0), .int (β 5 q), .int (nI ((β 6 q).toNatClampNeg)), .int (β 3 0)]) (rest := []) ⟨hx, hb, hml, hown, hts⟩ (c_X2_follow l D c o κ p π (β 5 q) ((β 6 q).toNatClampNeg) (β 3 0) (hp) ((hb2.2 q hq).1.2)) (cwV 4 hts gX7_daysTillClosed_X2_follow rfl rfl rfl hd_X2_follow ⟨Nat.le_of_ble_eq_true rfl, Nat.le_of_ble_eq_true rfl⟩) hK hP hD hS hA [19, 1, 2, 3, 4, 5, 6, 7, 8, 9, 10] [0, 11, 12, 13, 14, 15, 16, 17, 18] 20 rfl rfl [o 0, p 0, p 2, p 3, p 4, p (5 + 0), p (5 + 1), p (5 + 2), p (5 + 3), p (5 + 4), p (5 + 5)] rfl rfl (ws' := lwW x t p sp a b h g f o k ++ pageW c p π ++ affW c b β ++ courseW c o (followF π κ (β 3 0) (β 5 q) ((β 6 q).toNatClampNeg))) rfl (wr := lwW x t p sp a b h g f o k ++ affW c b β) rfl rfl rfl rfl 0 rfl rfl rfl hl.1 rfl (Nat.le_of_ble_eq_true rfl) dX7_daysTillClosed_33 (Nat.zero_le _) (Nat.zero_le _) (fun H locs hP hD hS => ?_)
  refine lv_aload_n hx hb dX7_daysTillClosed_36 rfl (lv_at hl 0 rfl) ?_
  refine wg_X7_8 hx hb hts iX7 hown hK hP 0 rfl k1 (v := .ref (o 0)) rfl dX7_daysTillClosed_37 ?_
  refine wg_X2_0 hx hb hts iX2 hown hK hP 19 rfl k7 (v := .int ((followF π κ (β 3 0) (β 5 q) ((β 6 q).toNatClampNeg)) 0 0)) rfl dX7_daysTillClosed_40 ?_
  refine wk_eqi (y := (crU π β q).1) rfl ?_
  refine lv_bipush (v := -9) hx hb dX7_daysTillClosed_43 (by decide) ?_
  refine lv_icmp_ne (tgt := 51) hx hb dX7_daysTillClosed_45 (by decide) (fun h1 => ?_) (fun h1 => ?_)
  rotate_left
  · refine lv_bipush (v := -9) hx hb dX7_daysTillClosed_48 (by decide) ?_
    exact ret 50 ls H _ ((-9)) β (followF π κ (β 3 0) (β 5 q) ((β 6 q).toNatClampNeg)) (by rw [dtcV, if_pos h1]) hP hS dX7_daysTillClosed_50
  have hcr : ¬ (crU π β q).1 = -9 := h1
  refine lv_iconst (v := 0) hx hb dX7_daysTillClosed_51 (by decide) ?_
  refine lv_istore_n (lv' := [(2, .int 0), (0, .ref x), (1, .int (nI q))]) hx hb dX7_daysTillClosed_52 rfl hl (by decide) rfl (fun ls hl => ?_)
  have lp53 : ∀ (n : Nat) (i : Nat), (i ≤ 401) → (dcL π q (401 - i) (passI π β i) i = dcL π q 401 β 0) → 401 - i < n → ∀ (H : Heap) (locs : List Loc), va_P D vwCl (lwW x t p sp a b h g f o k ++ pageW c p π ++ affW c b (passI π β i) ++ courseW c o (followF π κ (β 3 0) (β 5 q) ((β 6 q).toNatClampNeg))) H → va_D A (lwW x t p sp a b h g f o k ++ pageW c p π ++ affW c b (passI π β i) ++ courseW c o (followF π κ (β 3 0) (β 5 q) ((β 6 q).toNatClampNeg))) → va_S A H0 H locs → ∀ ls : Array Slot, lv_has ls 3 [(0, .ref x), (1, .int (nI q)), (2, .int (nI i))] → W pr l ev rmX7_daysTillClosed ss mm args below meth cd H locs 0 0 Q (F0 mm 53 ls []) := by
    intro n
    induction n with
    | zero => intro i hi hv hn; exact absurd hn (Nat.not_lt_zero _)
    | succ n ih53 =>
      intro i hi hv hn H locs hP hD hS ls hl
      refine lv_iload_n hx hb dX7_daysTillClosed_53 rfl (lv_at hl 2 rfl) ?_
      refine lv_sipush (v := 400) hx hb dX7_daysTillClosed_54 (by decide) ?_
      refine wk_gt (tgt := 94) hx hb i 400 rfl rfl (by omega) (by omega) dX7_daysTillClosed_57 (by decide) (fun h2 => ?_) (fun h2 => ?_)
      · refine lv_bipush (v := -9) hx hb dX7_daysTillClosed_94 (by decide) ?_
        exact ret 96 ls H _ ((-9)) (passI π β i) (followF π κ (β 3 0) (β 5 q) ((β 6 q).toNatClampNeg)) (by rw [dtcV, if_neg hcr, ← hv, show 401 - i = 0 by omega]; rfl) hP hS dX7_daysTillClosed_96
      refine lv_aload_n hx hb dX7_daysTillClosed_60 rfl (lv_at hl 0 rfl) ?_
      refine wg_X7_4 hx hb hts iX7 hown hK hP 0 rfl k3 (v := .ref (b 0)) rfl dX7_daysTillClosed_61 ?_
      refine wg_X0_8 hx hb hts iX0 hown hK hP 11 rfl k8 (v := .ref (b 8)) rfl dX7_daysTillClosed_64 ?_
      refine lv_iload_n hx hb dX7_daysTillClosed_67 rfl (lv_at hl 1 rfl) ?_
      refine wk_ald (f := (passI π β i) 8) hx hb hK hP 16 0 rfl rfl q rfl (by omega) (by decide) dX7_daysTillClosed_68 ?_
      refine lv_bipush (v := -9) hx hb dX7_daysTillClosed_69 (by decide) ?_
      refine lv_icmp_ne (tgt := 76) hx hb dX7_daysTillClosed_71 (by decide) (fun h3 => ?_) (fun h3 => ?_)
      rotate_left
      · refine lv_iload_n hx hb dX7_daysTillClosed_74 rfl (lv_at hl 2 rfl) ?_
        exact ret 75 ls H _ (nI i) (passI π β i) (followF π κ (β 3 0) (β 5 q) ((β 6 q).toNatClampNeg)) (by rw [dtcV, if_neg hcr, ← hv, show 401 - i = (401 - (i + 1)) + 1 by omega, dcL, if_pos h3]) hP hS dX7_daysTillClosed_75
      refine lv_aload_n hx hb dX7_daysTillClosed_76 rfl (lv_at hl 0 rfl) ?_
      refine wg_X7_4 hx hb hts iX7 hown hK hP 0 rfl k3 (v := .ref (b 0)) rfl dX7_daysTillClosed_77 ?_
      refine lv_aload_n hx hb dX7_daysTillClosed_80 rfl (lv_at hl 0 rfl) ?_
      refine wg_X7_1 hx hb hts iX7 hown hK hP 0 rfl k2 (v := .ref (p 0)) rfl dX7_daysTillClosed_81 ?_
      refine wk_callUV (As := [.ref (p 0)]) (rest := []) ⟨hx, hb, hml, hown, hts⟩ (c_X0_passDay l D c b (passI π β i) p π (hp) (passI_wf hp hb2 i)) (cwV 1 hts gX7_daysTillClosed_X0_passDay rfl rfl rfl hd_X0_passDay ⟨Nat.le_of_ble_eq_true rfl, Nat.le_of_ble_eq_true rfl⟩) hK hP hD hS hA [11, 12, 13, 14, 15, 16, 17, 18, 1, 2, 3, 4, 5, 6, 7, 8, 9, 10] [0, 19] 20 rfl rfl [b 0, b 4, b 5, b 6, b 7, b 8, b 9, b 10, p 0, p 2, p 3, p 4, p (5 + 0), p (5 + 1), p (5 + 2), p (5 + 3), p (5 + 4), p (5 + 5)] rfl rfl (ws' := lwW x t p sp a b h g f o k ++ pageW c p π ++ affW c b (passF π (passI π β i)) ++ courseW c o (followF π κ (β 3 0) (β 5 q) ((β 6 q).toNatClampNeg))) rfl (wr := lwW x t p sp a b h g f o k ++ courseW c o (followF π κ (β 3 0) (β 5 q) ((β 6 q).toNatClampNeg))) rfl rfl rfl rfl 0 rfl rfl rfl hl.1 rfl (Nat.le_of_ble_eq_true rfl) dX7_daysTillClosed_84 (Nat.zero_le _) (Nat.zero_le _) (fun H locs hP hD hS => ?_)
      refine lv_pop hx hb dX7_daysTillClosed_87 rfl ?_
      refine lv_iinc (v := nI (i + 1)) (lv' := [(2, .int (nI (i + 1))), (0, .ref x), (1, .int (nI q))]) hx hb dX7_daysTillClosed_88 hl (k := 2) rfl (nI_inc i 1) (by decide) rfl (fun ls hl => ?_)
      refine lv_goto (tgt := 53) hx hb dX7_daysTillClosed_91 (by decide) ?_
      have eg4 : passF π (passI π β i) = passI π β (i + 1) := by rfl
      have hP : va_P D vwCl (lwW x t p sp a b h g f o k ++ pageW c p π ++ affW c b (passI π β (i + 1)) ++ courseW c o (followF π κ (β 3 0) (β 5 q) ((β 6 q).toNatClampNeg))) H := by rw [← eg4]; exact hP
      have hD : va_D A (lwW x t p sp a b h g f o k ++ pageW c p π ++ affW c b (passI π β (i + 1)) ++ courseW c o (followF π κ (β 3 0) (β 5 q) ((β 6 q).toNatClampNeg))) := by rw [← eg4]; exact hD
      have hl : lv_has ls 3 [(0, .ref x), (1, .int (nI q)), (2, .int (nI (i + 1)))] := lv_sub hl [1, 2, 0] rfl
      exact ih53 (i + 1) (by omega) (by rw [← hv, show 401 - i = (401 - (i + 1)) + 1 by omega, dcL, if_neg h3]; rfl) (by omega) H _ hP hD hS ls hl
  have eg5 : β = passI π β 0 := by rfl
  have hP : va_P D vwCl (lwW x t p sp a b h g f o k ++ pageW c p π ++ affW c b (passI π β 0) ++ courseW c o (followF π κ (β 3 0) (β 5 q) ((β 6 q).toNatClampNeg))) H := by rw [← eg5]; exact hP
  have hD : va_D A (lwW x t p sp a b h g f o k ++ pageW c p π ++ affW c b (passI π β 0) ++ courseW c o (followF π κ (β 3 0) (β 5 q) ((β 6 q).toNatClampNeg))) := by rw [← eg5]; exact hD
  have hl : lv_has ls 3 [(0, .ref x), (1, .int (nI q)), (2, .int 0)] := lv_sub hl [1, 2, 0] rfl
  have hl := wk_lset (y := nI 0) (lv_sub (l' := [(2, .int 0), (0, .ref x), (1, .int (nI q))]) hl [2, 0, 1] rfl) (by rfl)
  have hl : lv_has ls 3 [(0, .ref x), (1, .int (nI q)), (2, .int (nI 0))] := lv_sub hl [1, 2, 0] rfl
  exact lp53 _ 0 (by omega) (rfl) (Nat.lt_succ_self _) H locs hP hD hS ls hl

abbrev rmX7_ends : Room := { frames := 5, cells := 0, slots := 0, locals := 120 }
theorem hd_X7_ends : yX7_ends.cls = RX7 ∧ yX7_ends.cls ≠ "java/lang/invoke/MethodHandle" ∧ yX7_ends.cls ≠ "java/lang/invoke/VarHandle" ∧ (parseMethodDescriptor yX7_ends.desc).map (fun d => d.parameters.length) = some 1 := by decide +kernel
set_option maxHeartbeats 4000000 in
set_option maxRecDepth 100000 in
theorem c_X7_ends (l : Launch) (D : va_G) (c : Nat → ClassId) (x : Nat) (t : Nat → Nat) (p : Nat → Nat) (sp : Nat → Nat) (a : Nat → Nat) (b : Nat → Nat) (h : Nat → Nat) (g : Nat → Nat) (f : Nat → Nat) (o : Nat → Nat) (k : Int64) (π : Nat → Nat → Int32) (σ : Nat → Nat → Int32) (β : Nat → Nat → Int32) (κ : Nat → Nat → Int32) (q : Int32) (hp : wfP π) (ha : wfA π σ) : wk_UpJ l yX7_ends wsX7_ends rmX7_ends D (tysL c) [.ref x, .int q] (lwW x t p sp a b h g f o k ++ pageW c p π ++ affW c a σ ++ affW c b β ++ courseW c o κ) (fun j1 j2 => lwW x t p sp a b h g f o k ++ pageW c p π ++ affW c a σ ++ affW c b j1 ++ courseW c o j2) (endsV π σ q) := by
  refine wk_mkJ (cc := cX7_ends) (maxL := 2) (rt := .int) (by decide) rfl (Nat.le_of_ble_eq_true rfl) rfl ?_
  intro A pr ev ss mm args below meth cd ls H H0 locs Q hst hP hK hD hS hA hl ret
  obtain ⟨hx, hb, hml, hown, hts, -⟩ := hst
  have hown : ss.vm.findClass RX7 = some mm.cls := hown
  have hl : lv_has ls 2 [(0, .ref x), (1, .int q)] := hl
  have k1 := hts (.fieldLink RX7 29 "LastWord" "affairs" "LLastWord$Affairs;") (List.mem_of_getElem? (i := 1) rfl)
  have k2 := hts (.fieldLink RX7 33 "LastWord" "ahead" "LLastWord$Affairs;") (List.mem_of_getElem? (i := 2) rfl)
  have iX7 : ∀ w ∈ u_ws RX7 TX7 10, w ∈ wsX7_ends := fun _ h => (List.mem_cons_of_mem _ (List.mem_append_left _ (List.mem_append_left _ (List.mem_append_left _ (List.mem_append_right _ h)))))
  refine lv_aload_n hx hb dX7_ends_0 rfl (lv_at hl 0 rfl) ?_
  refine wg_X7_3 hx hb hts iX7 hown hK hP 0 rfl k1 (v := .ref (a 0)) rfl dX7_ends_1 ?_
  refine lv_iload_n hx hb dX7_ends_4 rfl (lv_at hl 1 rfl) ?_
  refine wk_callRV (As := [.int q]) (rest := []) ⟨hx, hb, hml, hown, hts⟩ (c_X0_hasQuarrel l D c a σ q) (cwV 1 hts gX7_ends_X0_hasQuarrel rfl rfl rfl hd_X0_hasQuarrel ⟨Nat.le_of_ble_eq_true rfl, Nat.le_of_ble_eq_true rfl⟩) hK hP [11, 12, 13, 14, 15, 16, 17, 18] rfl 0 rfl rfl rfl hl.1 rfl (Nat.le_of_ble_eq_true rfl) dX7_ends_5 (Nat.zero_le _) (Nat.zero_le _) ?_
  refine wk_bnz (tgt := 13) hx hb dX7_ends_8 (by decide) (fun h1 => ?_) (fun h1 => ?_)
  rotate_left
  · refine lv_iconst (v := -1) hx hb dX7_ends_11 (by decide) ?_
    exact ret 12 ls H _ ((-1)) β κ (by rw [endsV, if_neg h1]) hP hS dX7_ends_12
  have hw := qu_ix ha.1 h1
  refine lv_aload_n hx hb dX7_ends_13 rfl (lv_at hl 0 rfl) ?_
  refine wg_X7_4 hx hb hts iX7 hown hK hP 0 rfl k2 (v := .ref (b 0)) rfl dX7_ends_14 ?_
  refine lv_aload_n hx hb dX7_ends_17 rfl (lv_at hl 0 rfl) ?_
  refine wg_X7_3 hx hb hts iX7 hown hK hP 0 rfl k1 (v := .ref (a 0)) rfl dX7_ends_18 ?_
  refine wk_callVV (As := [.ref (a 0)]) (rest := []) ⟨hx, hb, hml, hown, hts⟩ (c_X0_copy l D c b β a σ) (cwV 1 hts gX7_ends_X0_copy rfl rfl rfl hd_X0_copy ⟨Nat.le_of_ble_eq_true rfl, Nat.le_of_ble_eq_true rfl⟩) hK hP hD hS hA [19, 20, 21, 22, 23, 24, 25, 26, 11, 12, 13, 14, 15, 16, 17, 18] [0, 1, 2, 3, 4, 5, 6, 7, 8, 9, 10, 27] 28 rfl rfl [b 0, b 4, b 5, b 6, b 7, b 8, b 9, b 10, a 0, a 4, a 5, a 6, a 7, a 8, a 9, a 10] rfl rfl (ws' := lwW x t p sp a b h g f o k ++ pageW c p π ++ affW c a σ ++ affW c b σ ++ courseW c o κ) rfl (wr := lwW x t p sp a b h g f o k ++ pageW c p π ++ courseW c o κ) rfl rfl rfl rfl 0 rfl rfl rfl hl.1 rfl (Nat.le_of_ble_eq_true rfl) dX7_ends_21 (Nat.zero_le _) (Nat.zero_le _) (fun H locs hP hD hS => ?_)
  refine lv_aload_n hx hb dX7_ends_24 rfl (lv_at hl 0 rfl) ?_
  refine lv_iload_n hx hb dX7_ends_25 rfl (lv_at hl 1 rfl) ?_
  refine wk_eqi (y := nI q.toNatClampNeg) (hw.1) ?_
  refine wk_callJV (As := [.int (nI q.toNatClampNeg)]) (rest := []) ⟨hx, hb, hml, hown, hts⟩ (c_X7_daysTillClosed l D c x t p sp a b h g f o k π σ κ q.toNatClampNeg (hp) (ha) (hw.2)) (cwV 1 hts gX7_ends_X7_daysTillClosed rfl rfl rfl hd_X7_daysTillClosed ⟨Nat.le_of_ble_eq_true rfl, Nat.le_of_ble_eq_true rfl⟩) hK hP hD hS hA [0, 1, 2, 3, 4, 5, 6, 7, 8, 9, 10, 19, 20, 21, 22, 23, 24, 25, 26, 27] [11, 12, 13, 14, 15, 16, 17, 18] 28 rfl rfl [x, p 0, p 2, p 3, p 4, p (5 + 0), p (5 + 1), p (5 + 2), p (5 + 3), p (5 + 4), p (5 + 5), b 0, b 4, b 5, b 6, b 7, b 8, b 9, b 10, o 0] rfl (fun _ _ => rfl) (ws' := fun ja2 jb3 => lwW x t p sp a b h g f o k ++ pageW c p π ++ affW c a σ ++ affW c b ja2 ++ courseW c o jb3) (fun _ _ => rfl) (wr := affW c a σ) rfl (fun _ _ => rfl) (fun _ _ => rfl) rfl 0 rfl rfl rfl hl.1 rfl (Nat.le_of_ble_eq_true rfl) dX7_ends_26 (Nat.zero_le _) (Nat.zero_le _) (fun ja2 jb3 H locs hP hD hS => ?_)
  have hP : va_P D vwCl (lwW x t p sp a b h g f o k ++ pageW c p π ++ affW c a σ ++ affW c b ja2 ++ courseW c o jb3) H := hP
  have hD : va_D A (lwW x t p sp a b h g f o k ++ pageW c p π ++ affW c a σ ++ affW c b ja2 ++ courseW c o jb3) := hD
  exact ret 29 ls H _ (dtcV π σ q.toNatClampNeg) ja2 jb3 (by rw [endsV, if_pos h1]) hP hS dX7_ends_29

abbrev rmX7_endsWithout : Room := { frames := 5, cells := 0, slots := 0, locals := 120 }
theorem hd_X7_endsWithout : yX7_endsWithout.cls = RX7 ∧ yX7_endsWithout.cls ≠ "java/lang/invoke/MethodHandle" ∧ yX7_endsWithout.cls ≠ "java/lang/invoke/VarHandle" ∧ (parseMethodDescriptor yX7_endsWithout.desc).map (fun d => d.parameters.length) = some 2 := by decide +kernel
set_option maxHeartbeats 4000000 in
set_option maxRecDepth 100000 in
theorem c_X7_endsWithout (l : Launch) (D : va_G) (c : Nat → ClassId) (x : Nat) (t : Nat → Nat) (p : Nat → Nat) (sp : Nat → Nat) (a : Nat → Nat) (b : Nat → Nat) (h : Nat → Nat) (g : Nat → Nat) (f : Nat → Nat) (o : Nat → Nat) (k : Int64) (π : Nat → Nat → Int32) (σ : Nat → Nat → Int32) (β : Nat → Nat → Int32) (κ : Nat → Nat → Int32) (q : Nat) (set : Int32) (hp : wfP π) (ha : wfA π σ) (hq : q < nQ σ) : wk_UpJ l yX7_endsWithout wsX7_endsWithout rmX7_endsWithout D (tysL c) [.ref x, .int (nI q), .int set] (lwW x t p sp a b h g f o k ++ pageW c p π ++ affW c a σ ++ affW c b β ++ courseW c o κ) (fun j1 j2 => lwW x t p sp a b h g f o k ++ pageW c p π ++ affW c a σ ++ affW c b j1 ++ courseW c o j2) (if ewB π σ q set then 1 else 0) := by
  refine wk_mkJ (cc := cX7_endsWithout) (maxL := 4) (rt := .boolean) (by decide) rfl (Nat.le_of_ble_eq_true rfl) wk_narZ ?_
  intro A pr ev ss mm args below meth cd ls H H0 locs Q hst hP hK hD hS hA hl ret
  obtain ⟨hx, hb, hml, hown, hts, -⟩ := hst
  have hown : ss.vm.findClass RX7 = some mm.cls := hown
  have hl : lv_has ls 4 [(0, .ref x), (1, .int (nI q)), (2, .int set)] := hl
  have k1 := hts (.fieldLink RX7 33 "LastWord" "ahead" "LLastWord$Affairs;") (List.mem_of_getElem? (i := 1) rfl)
  have k2 := hts (.fieldLink RX7 29 "LastWord" "affairs" "LLastWord$Affairs;") (List.mem_of_getElem? (i := 2) rfl)
  have k3 := hts (.fieldLink RX7 19 "LastWord" "page" "LLastWord$Page;") (List.mem_of_getElem? (i := 3) rfl)
  have k4 := hts (.fieldLink RX7 231 "LastWord$Page" "writers" "I") (List.mem_of_getElem? (i := 4) rfl)
  have iX5 : ∀ w ∈ u_ws RX5 TX5 5, w ∈ wsX7_endsWithout := fun _ h => (List.mem_cons_of_mem _ (List.mem_append_left _ (List.mem_append_left _ (List.mem_append_right _ h))))
  have iX7 : ∀ w ∈ u_ws RX7 TX7 10, w ∈ wsX7_endsWithout := fun _ h => (List.mem_cons_of_mem _ (List.mem_append_left _ (List.mem_append_left _ (List.mem_append_left _ (List.mem_append_right _ h)))))
  have hn6 := hp.2.1
  refine lv_aload_n hx hb dX7_endsWithout_0 rfl (lv_at hl 0 rfl) ?_
  refine wg_X7_4 hx hb hts iX7 hown hK hP 0 rfl k1 (v := .ref (b 0)) rfl dX7_endsWithout_1 ?_
  refine lv_aload_n hx hb dX7_endsWithout_4 rfl (lv_at hl 0 rfl) ?_
  refine wg_X7_3 hx hb hts iX7 hown hK hP 0 rfl k2 (v := .ref (a 0)) rfl dX7_endsWithout_5 ?_
  refine wk_callVV (As := [.ref (a 0)]) (rest := []) ⟨hx, hb, hml, hown, hts⟩ (c_X0_copy l D c b β a σ) (cwV 1 hts gX7_endsWithout_X0_copy rfl rfl rfl hd_X0_copy ⟨Nat.le_of_ble_eq_true rfl, Nat.le_of_ble_eq_true rfl⟩) hK hP hD hS hA [19, 20, 21, 22, 23, 24, 25, 26, 11, 12, 13, 14, 15, 16, 17, 18] [0, 1, 2, 3, 4, 5, 6, 7, 8, 9, 10, 27] 28 rfl rfl [b 0, b 4, b 5, b 6, b 7, b 8, b 9, b 10, a 0, a 4, a 5, a 6, a 7, a 8, a 9, a 10] rfl rfl (ws' := lwW x t p sp a b h g f o k ++ pageW c p π ++ affW c a σ ++ affW c b σ ++ courseW c o κ) rfl (wr := lwW x t p sp a b h g f o k ++ pageW c p π ++ courseW c o κ) rfl rfl rfl rfl 0 rfl rfl rfl hl.1 rfl (Nat.le_of_ble_eq_true rfl) dX7_endsWithout_8 (Nat.zero_le _) (Nat.zero_le _) (fun H locs hP hD hS => ?_)
  refine lv_iconst (v := 0) hx hb dX7_endsWithout_11 (by decide) ?_
  refine lv_istore_n (lv' := [(3, .int 0), (0, .ref x), (1, .int (nI q)), (2, .int set)]) hx hb dX7_endsWithout_12 rfl hl (by decide) rfl (fun ls hl => ?_)
  have lp13 : ∀ (n : Nat) (i : Nat), (i ≤ nW π) → nW π - i < n → ∀ (H : Heap) (locs : List Loc), va_P D vwCl (lwW x t p sp a b h g f o k ++ pageW c p π ++ affW c a σ ++ affW c b (layI π σ set i) ++ courseW c o κ) H → va_D A (lwW x t p sp a b h g f o k ++ pageW c p π ++ affW c a σ ++ affW c b (layI π σ set i) ++ courseW c o κ) → va_S A H0 H locs → ∀ ls : Array Slot, lv_has ls 4 [(0, .ref x), (1, .int (nI q)), (2, .int set), (3, .int (nI i))] → W pr l ev rmX7_endsWithout ss mm args below meth cd H locs 0 0 Q (F0 mm 13 ls []) := by
    intro n
    induction n with
    | zero => intro i hi hn; exact absurd hn (Nat.not_lt_zero _)
    | succ n ih13 =>
      intro i hi hn H locs hP hD hS ls hl
      refine lv_iload_n hx hb dX7_endsWithout_13 rfl (lv_at hl 3 rfl) ?_
      refine lv_aload_n hx hb dX7_endsWithout_14 rfl (lv_at hl 0 rfl) ?_
      refine wg_X7_1 hx hb hts iX7 hown hK hP 0 rfl k3 (v := .ref (p 0)) rfl dX7_endsWithout_15 ?_
      refine wg_X5_0 hx hb hts iX5 hown hK hP 1 rfl k4 (v := .int (π 0 0)) rfl dX7_endsWithout_18 ?_
      refine wk_eqi (hp.1) ?_
      refine wk_ge (tgt := 52) hx hb i (nW π) rfl rfl (by omega) (by omega) dX7_endsWithout_21 (by decide) (fun h1 => ?_) (fun h1 => ?_)
      · refine lv_aload_n hx hb dX7_endsWithout_52 rfl (lv_at hl 0 rfl) ?_
        refine lv_iload_n hx hb dX7_endsWithout_53 rfl (lv_at hl 1 rfl) ?_
        refine wk_callJV (As := [.int (nI q)]) (rest := []) ⟨hx, hb, hml, hown, hts⟩ (c_X7_daysTillClosed l D c x t p sp a b h g f o k π (layI π σ set i) κ q (hp) (layI_wf hp ha set i) (by rw [nQ_of (layI_2 π σ set i)]; exact hq)) (cwV 1 hts gX7_endsWithout_X7_daysTillClosed rfl rfl rfl hd_X7_daysTillClosed ⟨Nat.le_of_ble_eq_true rfl, Nat.le_of_ble_eq_true rfl⟩) hK hP hD hS hA [0, 1, 2, 3, 4, 5, 6, 7, 8, 9, 10, 19, 20, 21, 22, 23, 24, 25, 26, 27] [11, 12, 13, 14, 15, 16, 17, 18] 28 rfl rfl [x, p 0, p 2, p 3, p 4, p (5 + 0), p (5 + 1), p (5 + 2), p (5 + 3), p (5 + 4), p (5 + 5), b 0, b 4, b 5, b 6, b 7, b 8, b 9, b 10, o 0] rfl (fun _ _ => rfl) (ws' := fun ja2 jb3 => lwW x t p sp a b h g f o k ++ pageW c p π ++ affW c a σ ++ affW c b ja2 ++ courseW c o jb3) (fun _ _ => rfl) (wr := affW c a σ) rfl (fun _ _ => rfl) (fun _ _ => rfl) rfl 0 rfl rfl rfl hl.1 rfl (Nat.le_of_ble_eq_true rfl) dX7_endsWithout_54 (Nat.zero_le _) (Nat.zero_le _) (fun ja2 jb3 H locs hP hD hS => ?_)
        have hP : va_P D vwCl (lwW x t p sp a b h g f o k ++ pageW c p π ++ affW c a σ ++ affW c b ja2 ++ courseW c o jb3) H := hP
        have hD : va_D A (lwW x t p sp a b h g f o k ++ pageW c p π ++ affW c a σ ++ affW c b ja2 ++ courseW c o jb3) := hD
        refine lv_bipush (v := -9) hx hb dX7_endsWithout_57 (by decide) ?_
        refine lv_icmp_eq (tgt := 66) hx hb dX7_endsWithout_59 (by decide) (fun h4 => ?_) (fun h4 => ?_)
        · refine lv_iconst (v := 0) hx hb dX7_endsWithout_66 (by decide) ?_
          exact ret 67 ls H _ 0 ja2 jb3 ((if_neg (fun q => q (by rw [show nW π = i by omega]; exact h4))).symm) hP hS dX7_endsWithout_67
        refine lv_iconst (v := 1) hx hb dX7_endsWithout_62 (by decide) ?_
        refine lv_goto (tgt := 67) hx hb dX7_endsWithout_63 (by decide) ?_
        exact ret 67 ls H _ 1 ja2 jb3 ((if_pos (fun e => h4 (by rw [show i = nW π by omega]; exact e))).symm) hP hS dX7_endsWithout_67
      refine lv_iload_n hx hb dX7_endsWithout_24 rfl (lv_at hl 2 rfl) ?_
      refine lv_iload_n hx hb dX7_endsWithout_25 rfl (lv_at hl 3 rfl) ?_
      refine lv_ishr hx hb dX7_endsWithout_26 ?_
      refine lv_iconst (v := 1) hx hb dX7_endsWithout_27 (by decide) ?_
      refine lv_iand hx hb dX7_endsWithout_28 ?_
      refine lv_iconst (v := 1) hx hb dX7_endsWithout_29 (by decide) ?_
      refine lv_icmp_ne (tgt := 46) hx hb dX7_endsWithout_30 (by decide) (fun h5 => ?_) (fun h5 => ?_)
      · refine lv_iinc (v := nI (i + 1)) (lv' := [(3, .int (nI (i + 1))), (0, .ref x), (1, .int (nI q)), (2, .int set)]) hx hb dX7_endsWithout_46 hl (k := 3) rfl (nI_inc i 1) (by decide) rfl (fun ls hl => ?_)
        refine lv_goto (tgt := 13) hx hb dX7_endsWithout_49 (by decide) ?_
        have eg6 : layI π σ set i = layI π σ set (i + 1) := by first | rfl | rw [layI, if_pos h5] | rw [layI, if_neg h5]
        have hP : va_P D vwCl (lwW x t p sp a b h g f o k ++ pageW c p π ++ affW c a σ ++ affW c b (layI π σ set (i + 1)) ++ courseW c o κ) H := by rw [← eg6]; exact hP
        have hD : va_D A (lwW x t p sp a b h g f o k ++ pageW c p π ++ affW c a σ ++ affW c b (layI π σ set (i + 1)) ++ courseW c o κ) := by rw [← eg6]; exact hD
        have hl : lv_has ls 4 [(0, .ref x), (1, .int (nI q)), (2, .int set), (3, .int (nI (i + 1)))] := lv_sub hl [1, 2, 3, 0] rfl
        exact ih13 (i + 1) (by omega) (by omega) H _ hP hD hS ls hl
      refine lv_aload_n hx hb dX7_endsWithout_33 rfl (lv_at hl 0 rfl) ?_
      refine wg_X7_4 hx hb hts iX7 hown hK hP 0 rfl k1 (v := .ref (b 0)) rfl dX7_endsWithout_34 ?_
      refine lv_aload_n hx hb dX7_endsWithout_37 rfl (lv_at hl 0 rfl) ?_
      refine wg_X7_1 hx hb hts iX7 hown hK hP 0 rfl k3 (v := .ref (p 0)) rfl dX7_endsWithout_38 ?_
      refine lv_iload_n hx hb dX7_endsWithout_41 rfl (lv_at hl 3 rfl) ?_
      refine wk_callUV (As := [.ref (p 0), .int (nI i)]) (rest := []) ⟨hx, hb, hml, hown, hts⟩ (c_X0_layDown l D c b (layI π σ set i) p π i (hp) (layI_wf hp ha set i)) (cwV 2 hts gX7_endsWithout_X0_layDown rfl rfl rfl hd_X0_layDown ⟨Nat.le_of_ble_eq_true rfl, Nat.le_of_ble_eq_true rfl⟩) hK hP hD hS hA [19, 20, 21, 22, 23, 24, 25, 26, 1, 2, 3, 4, 5, 6, 7, 8, 9, 10] [0, 11, 12, 13, 14, 15, 16, 17, 18, 27] 28 rfl rfl [b 0, b 4, b 5, b 6, b 7, b 8, b 9, b 10, p 0, p 2, p 3, p 4, p (5 + 0), p (5 + 1), p (5 + 2), p (5 + 3), p (5 + 4), p (5 + 5)] rfl rfl (ws' := lwW x t p sp a b h g f o k ++ pageW c p π ++ affW c a σ ++ affW c b (layF π (layI π σ set i) i) ++ courseW c o κ) rfl (wr := lwW x t p sp a b h g f o k ++ affW c a σ ++ courseW c o κ) rfl rfl rfl rfl 0 rfl rfl rfl hl.1 rfl (Nat.le_of_ble_eq_true rfl) dX7_endsWithout_42 (Nat.zero_le _) (Nat.zero_le _) (fun H locs hP hD hS => ?_)
      refine lv_pop hx hb dX7_endsWithout_45 rfl ?_
      refine lv_iinc (v := nI (i + 1)) (lv' := [(3, .int (nI (i + 1))), (0, .ref x), (1, .int (nI q)), (2, .int set)]) hx hb dX7_endsWithout_46 hl (k := 3) rfl (nI_inc i 1) (by decide) rfl (fun ls hl => ?_)
      refine lv_goto (tgt := 13) hx hb dX7_endsWithout_49 (by decide) ?_
      have eg7 : layF π (layI π σ set i) i = layI π σ set (i + 1) := by first | rfl | rw [layI, if_pos h5] | rw [layI, if_neg h5]
      have hP : va_P D vwCl (lwW x t p sp a b h g f o k ++ pageW c p π ++ affW c a σ ++ affW c b (layI π σ set (i + 1)) ++ courseW c o κ) H := by rw [← eg7]; exact hP
      have hD : va_D A (lwW x t p sp a b h g f o k ++ pageW c p π ++ affW c a σ ++ affW c b (layI π σ set (i + 1)) ++ courseW c o κ) := by rw [← eg7]; exact hD
      have hl : lv_has ls 4 [(0, .ref x), (1, .int (nI q)), (2, .int set), (3, .int (nI (i + 1)))] := lv_sub hl [1, 2, 3, 0] rfl
      exact ih13 (i + 1) (by omega) (by omega) H _ hP hD hS ls hl
  have eg8 : σ = layI π σ set 0 := by first | rfl | rw [layI, if_pos %L] | rw [layI, if_neg %L]
  have hP : va_P D vwCl (lwW x t p sp a b h g f o k ++ pageW c p π ++ affW c a σ ++ affW c b (layI π σ set 0) ++ courseW c o κ) H := by rw [← eg8]; exact hP
  have hD : va_D A (lwW x t p sp a b h g f o k ++ pageW c p π ++ affW c a σ ++ affW c b (layI π σ set 0) ++ courseW c o κ) := by rw [← eg8]; exact hD
  have hl : lv_has ls 4 [(0, .ref x), (1, .int (nI q)), (2, .int set), (3, .int 0)] := lv_sub hl [1, 2, 3, 0] rfl
  have hl := wk_lset (y := nI 0) (lv_sub (l' := [(3, .int 0), (0, .ref x), (1, .int (nI q)), (2, .int set)]) hl [3, 0, 1, 2] rfl) (by first | rfl | rw [layI, if_pos %L] | rw [layI, if_neg %L])
  have hl : lv_has ls 4 [(0, .ref x), (1, .int (nI q)), (2, .int set), (3, .int (nI 0))] := lv_sub hl [1, 2, 3, 0] rfl
  exact lp13 _ 0 (by omega) (Nat.lt_succ_self _) H locs hP hD hS ls hl

abbrev rmX7_peace : Room := { frames := 6, cells := 0, slots := 0, locals := 143 }
theorem hd_X7_peace : yX7_peace.cls = RX7 ∧ yX7_peace.cls ≠ "java/lang/invoke/MethodHandle" ∧ yX7_peace.cls ≠ "java/lang/invoke/VarHandle" ∧ (parseMethodDescriptor yX7_peace.desc).map (fun d => d.parameters.length) = some 1 := by decide +kernel
set_option maxHeartbeats 4000000 in
set_option maxRecDepth 100000 in
theorem c_X7_peace (l : Launch) (D : va_G) (c : Nat → ClassId) (x : Nat) (t : Nat → Nat) (p : Nat → Nat) (sp : Nat → Nat) (a : Nat → Nat) (b : Nat → Nat) (h : Nat → Nat) (g : Nat → Nat) (f : Nat → Nat) (o : Nat → Nat) (k : Int64) (π : Nat → Nat → Int32) (σ : Nat → Nat → Int32) (β : Nat → Nat → Int32) (κ : Nat → Nat → Int32) (q : Int32) (hp : wfP π) (ha : wfA π σ) : wk_UpJ l yX7_peace wsX7_peace rmX7_peace D (tysL c) [.ref x, .int q] (lwW x t p sp a b h g f o k ++ pageW c p π ++ affW c a σ ++ affW c b β ++ courseW c o κ) (fun j1 j2 => lwW x t p sp a b h g f o k ++ pageW c p π ++ affW c a σ ++ affW c b j1 ++ courseW c o j2) (peaceV π σ q) := by
  refine wk_mkJ (cc := cX7_peace) (maxL := 6) (rt := .int) (by decide) rfl (Nat.le_of_ble_eq_true rfl) rfl ?_
  intro A pr ev ss mm args below meth cd ls H H0 locs Q hst hP hK hD hS hA hl ret
  obtain ⟨hx, hb, hml, hown, hts, -⟩ := hst
  have hown : ss.vm.findClass RX7 = some mm.cls := hown
  have hl : lv_has ls 6 [(0, .ref x), (1, .int q)] := hl
  have k1 := hts (.fieldLink RX7 29 "LastWord" "affairs" "LLastWord$Affairs;") (List.mem_of_getElem? (i := 1) rfl)
  have k2 := hts (.fieldLink RX7 19 "LastWord" "page" "LLastWord$Page;") (List.mem_of_getElem? (i := 2) rfl)
  have k3 := hts (.fieldLink RX7 134 "LastWord$Affairs" "laid" "I") (List.mem_of_getElem? (i := 3) rfl)
  have iX0 : ∀ w ∈ u_ws RX0 TX0 11, w ∈ wsX7_peace := fun _ h => (List.mem_cons_of_mem _ (List.mem_append_left _ (List.mem_append_left _ (List.mem_append_right _ h))))
  have iX7 : ∀ w ∈ u_ws RX7 TX7 10, w ∈ wsX7_peace := fun _ h => (List.mem_cons_of_mem _ (List.mem_append_left _ (List.mem_append_left _ (List.mem_append_left _ (List.mem_append_right _ h)))))
  refine lv_aload_n hx hb dX7_peace_0 rfl (lv_at hl 0 rfl) ?_
  refine wg_X7_3 hx hb hts iX7 hown hK hP 0 rfl k1 (v := .ref (a 0)) rfl dX7_peace_1 ?_
  refine lv_iload_n hx hb dX7_peace_4 rfl (lv_at hl 1 rfl) ?_
  refine wk_callRV (As := [.int q]) (rest := []) ⟨hx, hb, hml, hown, hts⟩ (c_X0_hasQuarrel l D c a σ q) (cwV 1 hts gX7_peace_X0_hasQuarrel rfl rfl rfl hd_X0_hasQuarrel ⟨Nat.le_of_ble_eq_true rfl, Nat.le_of_ble_eq_true rfl⟩) hK hP [11, 12, 13, 14, 15, 16, 17, 18] rfl 0 rfl rfl rfl hl.1 rfl (Nat.le_of_ble_eq_true rfl) dX7_peace_5 (Nat.zero_le _) (Nat.zero_le _) ?_
  refine wk_bnz (tgt := 13) hx hb dX7_peace_8 (by decide) (fun h1 => ?_) (fun h1 => ?_)
  rotate_left
  · refine lv_iconst (v := -1) hx hb dX7_peace_11 (by decide) ?_
    exact ret 12 ls H _ ((-1)) β κ (by rw [peaceV, if_neg h1]) hP hS dX7_peace_12
  have hw := qu_ix ha.1 h1
  have hq6 := ha.1.2
  refine lv_aload_n hx hb dX7_peace_13 rfl (lv_at hl 0 rfl) ?_
  refine wg_X7_1 hx hb hts iX7 hown hK hP 0 rfl k2 (v := .ref (p 0)) rfl dX7_peace_14 ?_
  refine wk_callRV (As := []) (rest := []) ⟨hx, hb, hml, hown, hts⟩ (c_X5_everybody l D c p π) (cwV 0 hts gX7_peace_X5_everybody rfl rfl rfl hd_X5_everybody ⟨Nat.le_of_ble_eq_true rfl, Nat.le_of_ble_eq_true rfl⟩) hK hP [1, 2, 3, 4, 5, 6, 7, 8, 9, 10] rfl 0 rfl rfl rfl hl.1 rfl (Nat.le_of_ble_eq_true rfl) dX7_peace_17 (Nat.zero_le _) (Nat.zero_le _) ?_
  refine lv_aload_n hx hb dX7_peace_20 rfl (lv_at hl 0 rfl) ?_
  refine wg_X7_3 hx hb hts iX7 hown hK hP 0 rfl k1 (v := .ref (a 0)) rfl dX7_peace_21 ?_
  refine wg_X0_3 hx hb hts iX0 hown hK hP 11 rfl k3 (v := .int (σ 3 0)) rfl dX7_peace_24 ?_
  refine lv_iconst (v := -1) hx hb dX7_peace_27 (by decide) ?_
  refine lv_ixor hx hb dX7_peace_28 ?_
  refine lv_iand hx hb dX7_peace_29 ?_
  refine wk_eqi (y := freeB π σ) rfl ?_
  refine lv_istore_n (lv' := [(2, .int (freeB π σ)), (0, .ref x), (1, .int q)]) hx hb dX7_peace_30 rfl hl (by decide) rfl (fun ls hl => ?_)
  refine lv_iconst (v := 0) hx hb dX7_peace_31 (by decide) ?_
  refine lv_istore_n (lv' := [(3, .int 0), (2, .int (freeB π σ)), (0, .ref x), (1, .int q)]) hx hb dX7_peace_32 rfl hl (by decide) rfl (fun ls hl => ?_)
  have lp33 : ∀ (n : Nat) (m : Nat) (β2 : wRec) (κ2 : wRec), (m ≤ 7) → (pcO π σ (q.toNatClampNeg) (freeB π σ) (7 - m) m = pcO π σ (q.toNatClampNeg) (freeB π σ) 7 0) → 7 - m < n → ∀ (H : Heap) (locs : List Loc), va_P D vwCl (lwW x t p sp a b h g f o k ++ pageW c p π ++ affW c a σ ++ affW c b β2 ++ courseW c o κ2) H → va_D A (lwW x t p sp a b h g f o k ++ pageW c p π ++ affW c a σ ++ affW c b β2 ++ courseW c o κ2) → va_S A H0 H locs → ∀ ls : Array Slot, lv_has ls 6 [(0, .ref x), (1, .int q), (2, .int (freeB π σ)), (3, .int (nI m))] → W pr l ev rmX7_peace ss mm args below meth cd H locs 0 0 Q (F0 mm 33 ls []) := by
    intro n
    induction n with
    | zero => intro m β2 κ2 hm hv hn; exact absurd hn (Nat.not_lt_zero _)
    | succ n ih33 =>
      intro m β2 κ2 hm hv hn H locs hP hD hS ls hl
      refine lv_iload_n hx hb dX7_peace_33 rfl (lv_at hl 3 rfl) ?_
      refine lv_bipush (v := 6) hx hb dX7_peace_34 (by decide) ?_
      refine wk_gt (tgt := 104) hx hb m 6 rfl rfl (by omega) (by omega) dX7_peace_36 (by decide) (fun h2 => ?_) (fun h2 => ?_)
      · refine lv_bipush (v := -9) hx hb dX7_peace_104 (by decide) ?_
        exact ret 106 ls H _ ((-9)) β2 κ2 (by rw [peaceV, if_pos h1, ← hv, show 7 - m = 0 by omega]; rfl) hP hS dX7_peace_106
      refine lv_iconst (v := 0) hx hb dX7_peace_39 (by decide) ?_
      refine lv_istore (lv' := [(4, .int 0), (0, .ref x), (1, .int q), (2, .int (freeB π σ)), (3, .int (nI m))]) hx hb dX7_peace_40 hl (by decide) rfl (fun ls hl => ?_)
      have lp42 : ∀ (n : Nat) (i : Nat) (β3 : wRec) (κ3 : wRec), (i ≤ 64) → (pcI π σ (q.toNatClampNeg) (freeB π σ) m (64 - i) i = pcI π σ (q.toNatClampNeg) (freeB π σ) m 64 0) → 64 - i < n → ∀ (H : Heap) (locs : List Loc), va_P D vwCl (lwW x t p sp a b h g f o k ++ pageW c p π ++ affW c a σ ++ affW c b β3 ++ courseW c o κ3) H → va_D A (lwW x t p sp a b h g f o k ++ pageW c p π ++ affW c a σ ++ affW c b β3 ++ courseW c o κ3) → va_S A H0 H locs → ∀ ls : Array Slot, lv_has ls 6 [(0, .ref x), (1, .int q), (2, .int (freeB π σ)), (3, .int (nI m)), (4, .int (nI i))] → W pr l ev rmX7_peace ss mm args below meth cd H locs 0 0 Q (F0 mm 42 ls []) := by
        intro n
        induction n with
        | zero => intro i β3 κ3 hi hw3 hn; exact absurd hn (Nat.not_lt_zero _)
        | succ n ih42 =>
          intro i β3 κ3 hi hw3 hn H locs hP hD hS ls hl
          refine lv_iload hx hb dX7_peace_42 (lv_at hl 4 rfl) ?_
          refine lv_bipush (v := 64) hx hb dX7_peace_44 (by decide) ?_
          refine wk_ge (tgt := 98) hx hb i 64 rfl rfl (by omega) (by omega) dX7_peace_46 (by decide) (fun h3 => ?_) (fun h3 => ?_)
          · have hnone : pcI π σ (q.toNatClampNeg) (freeB π σ) m 64 0 = none := by rw [← hw3, show 64 - i = 0 by omega]; rfl
            refine lv_iinc (v := nI (m + 1)) (lv' := [(3, .int (nI (m + 1))), (0, .ref x), (1, .int q), (2, .int (freeB π σ)), (4, .int (nI i))]) hx hb dX7_peace_98 hl (k := 3) rfl (nI_inc m 1) (by decide) rfl (fun ls hl => ?_)
            refine lv_goto (tgt := 33) hx hb dX7_peace_101 (by decide) ?_
            have hl : lv_has ls 6 [(0, .ref x), (1, .int q), (2, .int (freeB π σ)), (3, .int (nI (m + 1)))] := lv_sub hl [1, 2, 3, 0] rfl
            exact ih33 (m + 1) β3 κ3 (by omega) (by rw [← hv, show 7 - m = (7 - (m + 1)) + 1 by omega, pcO, hnone]) (by omega) H _ hP hD hS ls hl
          refine lv_iload hx hb dX7_peace_49 (lv_at hl 4 rfl) ?_
          refine lv_iload_n hx hb dX7_peace_51 rfl (lv_at hl 2 rfl) ?_
          refine lv_iconst (v := -1) hx hb dX7_peace_52 (by decide) ?_
          refine lv_ixor hx hb dX7_peace_53 ?_
          refine lv_iand hx hb dX7_peace_54 ?_
          refine lv_if_ne (tgt := 62) hx hb dX7_peace_55 (by decide) (fun h4 => ?_) (fun h4 => ?_)
          · refine lv_iconst (v := 0) hx hb dX7_peace_62 (by decide) ?_
            refine lv_istore (lv' := [(5, .int 0), (0, .ref x), (1, .int q), (2, .int (freeB π σ)), (3, .int (nI m)), (4, .int (nI i))]) hx hb dX7_peace_63 hl (by decide) rfl (fun ls hl => ?_)
            refine lv_iload hx hb dX7_peace_65 (lv_at hl 0 rfl) ?_
            refine lv_if_eq (tgt := 92) hx hb dX7_peace_67 (by decide) (fun _ => ?_) (fun q => absurd (by decide) q)
            refine lv_iinc (v := nI (i + 1)) (lv' := [(4, .int (nI (i + 1))), (5, .int 0), (0, .ref x), (1, .int q), (2, .int (freeB π σ)), (3, .int (nI m))]) hx hb dX7_peace_92 hl (k := 5) rfl (nI_inc i 1) (by decide) rfl (fun ls hl => ?_)
            refine lv_goto (tgt := 42) hx hb dX7_peace_95 (by decide) ?_
            have hl : lv_has ls 6 [(0, .ref x), (1, .int q), (2, .int (freeB π σ)), (3, .int (nI m)), (4, .int (nI (i + 1)))] := lv_sub hl [2, 3, 4, 5, 0] rfl
            exact ih42 (i + 1) β3 κ3 (by omega) (by rw [← hw3, show 64 - i = (64 - (i + 1)) + 1 by omega, pcI, if_neg (fun z => absurd z.1.1 h4)]) (by omega) H _ hP hD hS ls hl
          refine lv_iconst (v := 1) hx hb dX7_peace_58 (by decide) ?_
          refine lv_goto (tgt := 63) hx hb dX7_peace_59 (by decide) ?_
          refine lv_istore (lv' := [(5, .int 1), (0, .ref x), (1, .int q), (2, .int (freeB π σ)), (3, .int (nI m)), (4, .int (nI i))]) hx hb dX7_peace_63 hl (by decide) rfl (fun ls hl => ?_)
          refine lv_iload hx hb dX7_peace_65 (lv_at hl 0 rfl) ?_
          refine lv_if_eq (tgt := 92) hx hb dX7_peace_67 (by decide) (fun q => absurd q (by decide)) (fun _ => ?_)
          refine lv_iload hx hb dX7_peace_70 (lv_at hl 5 rfl) ?_
          refine wk_callRS (As := [.int (nI i)]) (rest := []) ⟨hx, hb, hml, hown, hts⟩ (c_J6_bitCount_0f7a4 l D c (nI i)) (va_cwS 1 hts gX7_peace_J6_bitCount_0f7a4 rfl rfl rfl hd_J6_bitCount_0f7a4 ⟨Nat.le_of_ble_eq_true rfl, Nat.le_of_ble_eq_true rfl⟩) hK hP [] rfl rfl hl.1 rfl (Nat.le_of_ble_eq_true rfl) dX7_peace_72 (Nat.zero_le _) (Nat.zero_le _) ?_
          refine lv_iload_n hx hb dX7_peace_75 rfl (lv_at hl 4 rfl) ?_
          refine lv_icmp_ne (tgt := 92) hx hb dX7_peace_76 (by decide) (fun h7 => ?_) (fun h7 => ?_)
          · refine lv_iinc (v := nI (i + 1)) (lv' := [(4, .int (nI (i + 1))), (5, .int 1), (0, .ref x), (1, .int q), (2, .int (freeB π σ)), (3, .int (nI m))]) hx hb dX7_peace_92 hl (k := 5) rfl (nI_inc i 1) (by decide) rfl (fun ls hl => ?_)
            refine lv_goto (tgt := 42) hx hb dX7_peace_95 (by decide) ?_
            have hl : lv_has ls 6 [(0, .ref x), (1, .int q), (2, .int (freeB π σ)), (3, .int (nI m)), (4, .int (nI (i + 1)))] := lv_sub hl [2, 3, 4, 5, 0] rfl
            exact ih42 (i + 1) β3 κ3 (by omega) (by rw [← hw3, show 64 - i = (64 - (i + 1)) + 1 by omega, pcI, if_neg (fun z => absurd z.1.2 h7)]) (by omega) H _ hP hD hS ls hl
          refine lv_aload_n hx hb dX7_peace_79 rfl (lv_at hl 1 rfl) ?_
          refine lv_iload_n hx hb dX7_peace_80 rfl (lv_at hl 2 rfl) ?_
          refine wk_eqi (y := nI q.toNatClampNeg) (hw.1) ?_
          refine lv_iload hx hb dX7_peace_81 (lv_at hl 5 rfl) ?_
          refine wk_callJV (As := [.int (nI q.toNatClampNeg), .int (nI i)]) (rest := []) ⟨hx, hb, hml, hown, hts⟩ (c_X7_endsWithout l D c x t p sp a b h g f o k π σ β3 κ3 q.toNatClampNeg (nI i) (hp) (ha) (hw.2)) (cwV 2 hts gX7_peace_X7_endsWithout rfl rfl rfl hd_X7_endsWithout ⟨Nat.le_of_ble_eq_true rfl, Nat.le_of_ble_eq_true rfl⟩) hK hP hD hS hA [0, 1, 2, 3, 4, 5, 6, 7, 8, 9, 10, 11, 12, 13, 14, 15, 16, 17, 18, 19, 20, 21, 22, 23, 24, 25, 26, 27] [] 28 rfl rfl [x, p 0, p 2, p 3, p 4, p (5 + 0), p (5 + 1), p (5 + 2), p (5 + 3), p (5 + 4), p (5 + 5), a 0, a 4, a 5, a 6, a 7, a 8, a 9, a 10, b 0, b 4, b 5, b 6, b 7, b 8, b 9, b 10, o 0] rfl (fun _ _ => rfl) (ws' := fun ja8 jb9 => lwW x t p sp a b h g f o k ++ pageW c p π ++ affW c a σ ++ affW c b ja8 ++ courseW c o jb9) (fun _ _ => rfl) (wr := []) rfl (fun _ _ => rfl) (fun _ _ => rfl) rfl 0 rfl rfl rfl hl.1 rfl (Nat.le_of_ble_eq_true rfl) dX7_peace_83 (Nat.zero_le _) (Nat.zero_le _) (fun ja8 jb9 H locs hP hD hS => ?_)
          have hP : va_P D vwCl (lwW x t p sp a b h g f o k ++ pageW c p π ++ affW c a σ ++ affW c b ja8 ++ courseW c o jb9) H := hP
          have hD : va_D A (lwW x t p sp a b h g f o k ++ pageW c p π ++ affW c a σ ++ affW c b ja8 ++ courseW c o jb9) := hD
          refine wk_bz (tgt := 92) hx hb dX7_peace_86 (by decide) (fun hE => ?_) (fun hE => ?_)
          rotate_left
          · refine lv_iload hx hb dX7_peace_89 (lv_at hl 5 rfl) ?_
            exact ret 91 ls H _ (nI i) ja8 jb9 (by rw [peaceV, if_pos h1, ← hv, show 7 - m = (7 - (m + 1)) + 1 by omega, pcO, ← hw3, show 64 - i = (64 - (i + 1)) + 1 by omega, pcI, if_pos ⟨⟨h4, h7⟩, hE⟩]) hP hS dX7_peace_91
          refine lv_iinc (v := nI (i + 1)) (lv' := [(4, .int (nI (i + 1))), (5, .int 1), (0, .ref x), (1, .int q), (2, .int (freeB π σ)), (3, .int (nI m))]) hx hb dX7_peace_92 hl (k := 5) rfl (nI_inc i 1) (by decide) rfl (fun ls hl => ?_)
          refine lv_goto (tgt := 42) hx hb dX7_peace_95 (by decide) ?_
          have hl : lv_has ls 6 [(0, .ref x), (1, .int q), (2, .int (freeB π σ)), (3, .int (nI m)), (4, .int (nI (i + 1)))] := lv_sub hl [2, 3, 4, 5, 0] rfl
          exact ih42 (i + 1) ja8 jb9 (by omega) (by rw [← hw3, show 64 - i = (64 - (i + 1)) + 1 by omega, pcI, if_neg (fun z => absurd z.2 hE)]) (by omega) H _ hP hD hS ls hl
      have hl : lv_has ls 6 [(0, .ref x), (1, .int q), (2, .int (freeB π σ)), (3, .int (nI m)), (4, .int 0)] := lv_sub hl [1, 2, 3, 4, 0] rfl
      have hl := wk_lset (y := nI 0) (lv_sub (l' := [(4, .int 0), (0, .ref x), (1, .int q), (2, .int (freeB π σ)), (3, .int (nI m))]) hl [4, 0, 1, 2, 3] rfl) (by rfl)
      have hl : lv_has ls 6 [(0, .ref x), (1, .int q), (2, .int (freeB π σ)), (3, .int (nI m)), (4, .int (nI 0))] := lv_sub hl [1, 2, 3, 4, 0] rfl
      exact lp42 _ 0 β2 κ2 (by omega) (rfl) (Nat.lt_succ_self _) H _ hP hD hS ls hl
  have hl : lv_has ls 6 [(0, .ref x), (1, .int q), (2, .int (freeB π σ)), (3, .int 0)] := lv_sub hl [2, 3, 1, 0] rfl
  have hl := wk_lset (y := nI 0) (lv_sub (l' := [(3, .int 0), (0, .ref x), (1, .int q), (2, .int (freeB π σ))]) hl [3, 0, 1, 2] rfl) (by rfl)
  have hl : lv_has ls 6 [(0, .ref x), (1, .int q), (2, .int (freeB π σ)), (3, .int (nI 0))] := lv_sub hl [1, 2, 3, 0] rfl
  exact lp33 _ 0 β κ (by omega) (rfl) (Nat.lt_succ_self _) H _ hP hD hS ls hl

abbrev rmX7_round : Room := { frames := 2, cells := 0, slots := 0, locals := 55 }
theorem hd_X7_round : yX7_round.cls = RX7 ∧ yX7_round.cls ≠ "java/lang/invoke/MethodHandle" ∧ yX7_round.cls ≠ "java/lang/invoke/VarHandle" ∧ (parseMethodDescriptor yX7_round.desc).map (fun d => d.parameters.length) = some 3 := by decide +kernel
set_option maxHeartbeats 4000000 in
set_option maxRecDepth 100000 in
theorem c_X7_round (l : Launch) (D : va_G) (c : Nat → ClassId) (x : Nat) (t : Nat → Nat) (p : Nat → Nat) (sp : Nat → Nat) (a : Nat → Nat) (b : Nat → Nat) (h : Nat → Nat) (g : Nat → Nat) (f : Nat → Nat) (o : Nat → Nat) (k : Int64) (π : Nat → Nat → Int32) (σ : Nat → Nat → Int32) (κ : Nat → Nat → Int32) (w : Int32) (s : Int32) (x2 : Int32) (hp : wfP π) : wk_UpJ l yX7_round wsX7_round rmX7_round D (tysL c) [.ref x, .int w, .int s, .int x2] (lwW x t p sp a b h g f o k ++ pageW c p π ++ affW c a σ ++ courseW c o κ) (fun j1 j2 => lwW x t p sp a b h g f o k ++ pageW c p π ++ affW c a σ ++ courseW c o j2) (roundV π σ w s x2) := by
  refine wk_mkJ (cc := cX7_round) (maxL := 4) (rt := .int) (by decide) rfl (Nat.le_of_ble_eq_true rfl) rfl ?_
  intro A pr ev ss mm args below meth cd ls H H0 locs Q hst hP hK hD hS hA hl ret
  obtain ⟨hx, hb, hml, hown, hts, -⟩ := hst
  have hown : ss.vm.findClass RX7 = some mm.cls := hown
  have hl : lv_has ls 4 [(0, .ref x), (1, .int w), (2, .int s), (3, .int x2)] := hl
  have k1 := hts (.fieldLink RX7 29 "LastWord" "affairs" "LLastWord$Affairs;") (List.mem_of_getElem? (i := 1) rfl)
  have k2 := hts (.fieldLink RX7 60 "LastWord" "course" "LLastWord$Course;") (List.mem_of_getElem? (i := 2) rfl)
  have k3 := hts (.fieldLink RX7 19 "LastWord" "page" "LLastWord$Page;") (List.mem_of_getElem? (i := 3) rfl)
  have k4 := hts (.fieldLink RX7 134 "LastWord$Affairs" "laid" "I") (List.mem_of_getElem? (i := 4) rfl)
  have k6 := hts (.fieldLink RX7 188 "LastWord$Course" "lastAuthor" "I") (List.mem_of_getElem? (i := 6) rfl)
  have k5 := hts (.fieldLink RX7 185 "LastWord$Course" "length" "I") (List.mem_of_getElem? (i := 5) rfl)
  have iX0 : ∀ w ∈ u_ws RX0 TX0 11, w ∈ wsX7_round := fun _ h => (List.mem_cons_of_mem _ (List.mem_append_left _ (List.mem_append_left _ (List.mem_append_right _ h))))
  have iX2 : ∀ w ∈ u_ws RX2 TX2 2, w ∈ wsX7_round := fun _ h => (List.mem_cons_of_mem _ (List.mem_append_left _ (List.mem_append_right _ h)))
  have iX7 : ∀ w ∈ u_ws RX7 TX7 10, w ∈ wsX7_round := fun _ h => (List.mem_cons_of_mem _ (List.mem_append_left _ (List.mem_append_left _ (List.mem_append_left _ (List.mem_append_right _ h)))))
  refine lv_aload_n hx hb dX7_round_0 rfl (lv_at hl 0 rfl) ?_
  refine lv_iload_n hx hb dX7_round_1 rfl (lv_at hl 1 rfl) ?_
  refine lv_iload_n hx hb dX7_round_2 rfl (lv_at hl 2 rfl) ?_
  refine wk_callRV (As := [.int w, .int s]) (rest := []) ⟨hx, hb, hml, hown, hts⟩ (c_X7_mayStand l D c x t p sp a b h g f o k π w s) (cwV 2 hts gX7_round_X7_mayStand rfl rfl rfl hd_X7_mayStand ⟨Nat.le_of_ble_eq_true rfl, Nat.le_of_ble_eq_true rfl⟩) hK hP [0, 1, 2, 3, 4, 5, 6, 7, 8, 9, 10] rfl 0 rfl rfl rfl hl.1 rfl (Nat.le_of_ble_eq_true rfl) dX7_round_3 (Nat.zero_le _) (Nat.zero_le _) ?_
  refine wk_bz (tgt := 18) hx hb dX7_round_6 (by decide) (fun h1 => ?_) (fun h1 => ?_)
  · refine lv_iconst (v := -1) hx hb dX7_round_18 (by decide) ?_
    exact ret 19 ls H _ ((-1)) π κ (by rw [roundV, if_neg (fun q => absurd q.1 h1)]) hP hS dX7_round_19
  refine lv_iload_n hx hb dX7_round_9 rfl (lv_at hl 3 rfl) ?_
  refine lv_if_lt (tgt := 18) hx hb dX7_round_10 (by decide) (fun h2 => ?_) (fun h2 => ?_)
  · refine lv_iconst (v := -1) hx hb dX7_round_18 (by decide) ?_
    exact ret 19 ls H _ ((-1)) π κ (by rw [roundV, if_neg (fun q => absurd h2 (Int32.not_lt.mpr q.2.1))]) hP hS dX7_round_19
  refine lv_iload_n hx hb dX7_round_13 rfl (lv_at hl 3 rfl) ?_
  refine lv_iconst (v := 1) hx hb dX7_round_14 (by decide) ?_
  refine lv_icmp_le (tgt := 20) hx hb dX7_round_15 (by decide) (fun h3 => ?_) (fun h3 => ?_)
  rotate_left
  · refine lv_iconst (v := -1) hx hb dX7_round_18 (by decide) ?_
    exact ret 19 ls H _ ((-1)) π κ (by rw [roundV, if_neg (fun q => absurd q.2.2 h3)]) hP hS dX7_round_19
  refine lv_aload_n hx hb dX7_round_20 rfl (lv_at hl 0 rfl) ?_
  refine wg_X7_3 hx hb hts iX7 hown hK hP 0 rfl k1 (v := .ref (a 0)) rfl dX7_round_21 ?_
  refine lv_iload_n hx hb dX7_round_24 rfl (lv_at hl 1 rfl) ?_
  refine wk_callRV (As := [.int w]) (rest := []) ⟨hx, hb, hml, hown, hts⟩ (c_X0_hasLaid l D c a σ w) (cwV 1 hts gX7_round_X0_hasLaid rfl rfl rfl hd_X0_hasLaid ⟨Nat.le_of_ble_eq_true rfl, Nat.le_of_ble_eq_true rfl⟩) hK hP [11, 12, 13, 14, 15, 16, 17, 18] rfl 0 rfl rfl rfl hl.1 rfl (Nat.le_of_ble_eq_true rfl) dX7_round_25 (Nat.zero_le _) (Nat.zero_le _) ?_
  refine wk_bz (tgt := 34) hx hb dX7_round_28 (by decide) (fun hL => ?_) (fun hL => ?_)
  rotate_left
  · refine lv_bipush (v := -2) hx hb dX7_round_31 (by decide) ?_
    exact ret 33 ls H _ ((-2)) π κ (by rw [roundV, if_pos ⟨h1, Int32.not_lt.mp h2, h3⟩, if_pos hL]) hP hS dX7_round_33
  refine lv_aload_n hx hb dX7_round_34 rfl (lv_at hl 0 rfl) ?_
  refine wg_X7_8 hx hb hts iX7 hown hK hP 0 rfl k2 (v := .ref (o 0)) rfl dX7_round_35 ?_
  refine lv_aload_n hx hb dX7_round_38 rfl (lv_at hl 0 rfl) ?_
  refine wg_X7_1 hx hb hts iX7 hown hK hP 0 rfl k3 (v := .ref (p 0)) rfl dX7_round_39 ?_
  refine lv_iload_n hx hb dX7_round_42 rfl (lv_at hl 1 rfl) ?_
  refine lv_iload_n hx hb dX7_round_43 rfl (lv_at hl 2 rfl) ?_
  refine wk_eqi (y := nI s.toNatClampNeg) ((sb_ix h1.2).1) ?_
  refine lv_aload_n hx hb dX7_round_44 rfl (lv_at hl 0 rfl) ?_
  refine wg_X7_3 hx hb hts iX7 hown hK hP 0 rfl k1 (v := .ref (a 0)) rfl dX7_round_45 ?_
  refine wg_X0_3 hx hb hts iX0 hown hK hP 11 rfl k4 (v := .int (σ 3 0)) rfl dX7_round_48 ?_
  refine wk_callVV (As := [.ref (p 0), .int w, .int (nI s.toNatClampNeg), .int (σ 3 0)]) (rest := []) ⟨hx, hb, hml, hown, hts⟩ (c_X2_follow l D c o κ p π w s.toNatClampNeg (σ 3 0) (hp) ((sb_ix h1.2).2)) (cwV 4 hts gX7_round_X2_follow rfl rfl rfl hd_X2_follow ⟨Nat.le_of_ble_eq_true rfl, Nat.le_of_ble_eq_true rfl⟩) hK hP hD hS hA [19, 1, 2, 3, 4, 5, 6, 7, 8, 9, 10] [0, 11, 12, 13, 14, 15, 16, 17, 18] 20 rfl rfl [o 0, p 0, p 2, p 3, p 4, p (5 + 0), p (5 + 1), p (5 + 2), p (5 + 3), p (5 + 4), p (5 + 5)] rfl rfl (ws' := lwW x t p sp a b h g f o k ++ pageW c p π ++ affW c a σ ++ courseW c o (followF π κ (σ 3 0) w s.toNatClampNeg)) rfl (wr := lwW x t p sp a b h g f o k ++ affW c a σ) rfl rfl rfl rfl 0 rfl rfl rfl hl.1 rfl (Nat.le_of_ble_eq_true rfl) dX7_round_51 (Nat.zero_le _) (Nat.zero_le _) (fun H locs hP hD hS => ?_)
  refine lv_iload_n hx hb dX7_round_54 rfl (lv_at hl 3 rfl) ?_
  refine lv_if_ne (tgt := 68) hx hb dX7_round_55 (by decide) (fun h5 => ?_) (fun h5 => ?_)
  · refine lv_aload_n hx hb dX7_round_68 rfl (lv_at hl 0 rfl) ?_
    refine wg_X7_8 hx hb hts iX7 hown hK hP 0 rfl k2 (v := .ref (o 0)) rfl dX7_round_69 ?_
    refine wg_X2_1 hx hb hts iX2 hown hK hP 19 rfl k6 (v := .int ((followF π κ (σ 3 0) w s.toNatClampNeg) 1 0)) rfl dX7_round_72 ?_
    exact ret 75 ls H _ ((followF π κ (σ 3 0) w s.toNatClampNeg) 1 0) π (followF π κ (σ 3 0) w s.toNatClampNeg) (by rw [roundV, if_pos ⟨h1, Int32.not_lt.mp h2, h3⟩, if_neg hL, if_neg h5]; rfl) hP hS dX7_round_75
  refine lv_aload_n hx hb dX7_round_58 rfl (lv_at hl 0 rfl) ?_
  refine wg_X7_8 hx hb hts iX7 hown hK hP 0 rfl k2 (v := .ref (o 0)) rfl dX7_round_59 ?_
  refine wg_X2_0 hx hb hts iX2 hown hK hP 19 rfl k5 (v := .int ((followF π κ (σ 3 0) w s.toNatClampNeg) 0 0)) rfl dX7_round_62 ?_
  refine lv_goto (tgt := 75) hx hb dX7_round_65 (by decide) ?_
  exact ret 75 ls H _ ((followF π κ (σ 3 0) w s.toNatClampNeg) 0 0) π (followF π κ (σ 3 0) w s.toNatClampNeg) (by rw [roundV, if_pos ⟨h1, Int32.not_lt.mp h2, h3⟩, if_neg hL, if_pos h5]; rfl) hP hS dX7_round_75

abbrev rmX7_hasLastWord : Room := { frames := 2, cells := 0, slots := 0, locals := 55 }
theorem hd_X7_hasLastWord : yX7_hasLastWord.cls = RX7 ∧ yX7_hasLastWord.cls ≠ "java/lang/invoke/MethodHandle" ∧ yX7_hasLastWord.cls ≠ "java/lang/invoke/VarHandle" ∧ (parseMethodDescriptor yX7_hasLastWord.desc).map (fun d => d.parameters.length) = some 3 := by decide +kernel
set_option maxHeartbeats 4000000 in
set_option maxRecDepth 100000 in
theorem c_X7_hasLastWord (l : Launch) (D : va_G) (c : Nat → ClassId) (x : Nat) (t : Nat → Nat) (p : Nat → Nat) (sp : Nat → Nat) (a : Nat → Nat) (b : Nat → Nat) (h : Nat → Nat) (g : Nat → Nat) (f : Nat → Nat) (o : Nat → Nat) (k : Int64) (π : Nat → Nat → Int32) (κ : Nat → Nat → Int32) (w : Int32) (s : Nat) (laid : Int32) (hp : wfP π) (hs : s < 5) : wk_UpJ l yX7_hasLastWord wsX7_hasLastWord rmX7_hasLastWord D (tysL c) [.ref x, .int w, .int (nI s), .int laid] (lwW x t p sp a b h g f o k ++ pageW c p π ++ courseW c o κ) (fun j1 j2 => lwW x t p sp a b h g f o k ++ pageW c p π ++ courseW c o j2) (if hlwB π laid w s then 1 else 0) := by
  refine wk_mkJ (cc := cX7_hasLastWord) (maxL := 4) (rt := .boolean) (by decide) rfl (Nat.le_of_ble_eq_true rfl) wk_narZ ?_
  intro A pr ev ss mm args below meth cd ls H H0 locs Q hst hP hK hD hS hA hl ret
  obtain ⟨hx, hb, hml, hown, hts, -⟩ := hst
  have hown : ss.vm.findClass RX7 = some mm.cls := hown
  have hl : lv_has ls 4 [(0, .ref x), (1, .int w), (2, .int (nI s)), (3, .int laid)] := hl
  have k1 := hts (.fieldLink RX7 60 "LastWord" "course" "LLastWord$Course;") (List.mem_of_getElem? (i := 1) rfl)
  have k2 := hts (.fieldLink RX7 19 "LastWord" "page" "LLastWord$Page;") (List.mem_of_getElem? (i := 2) rfl)
  have k3 := hts (.fieldLink RX7 188 "LastWord$Course" "lastAuthor" "I") (List.mem_of_getElem? (i := 3) rfl)
  have iX2 : ∀ w ∈ u_ws RX2 TX2 2, w ∈ wsX7_hasLastWord := fun _ h => (List.mem_cons_of_mem _ (List.mem_append_left _ (List.mem_append_right _ h)))
  have iX7 : ∀ w ∈ u_ws RX7 TX7 10, w ∈ wsX7_hasLastWord := fun _ h => (List.mem_cons_of_mem _ (List.mem_append_left _ (List.mem_append_left _ (List.mem_append_right _ h))))
  refine lv_aload_n hx hb dX7_hasLastWord_0 rfl (lv_at hl 0 rfl) ?_
  refine wg_X7_8 hx hb hts iX7 hown hK hP 0 rfl k1 (v := .ref (o 0)) rfl dX7_hasLastWord_1 ?_
  refine lv_aload_n hx hb dX7_hasLastWord_4 rfl (lv_at hl 0 rfl) ?_
  refine wg_X7_1 hx hb hts iX7 hown hK hP 0 rfl k2 (v := .ref (p 0)) rfl dX7_hasLastWord_5 ?_
  refine lv_iload_n hx hb dX7_hasLastWord_8 rfl (lv_at hl 1 rfl) ?_
  refine lv_iload_n hx hb dX7_hasLastWord_9 rfl (lv_at hl 2 rfl) ?_
  refine lv_iload_n hx hb dX7_hasLastWord_10 rfl (lv_at hl 3 rfl) ?_
  refine wk_callVV (As := [.ref (p 0), .int w, .int (nI s), .int laid]) (rest := []) ⟨hx, hb, hml, hown, hts⟩ (c_X2_follow l D c o κ p π w s laid (hp) (hs)) (cwV 4 hts gX7_hasLastWord_X2_follow rfl rfl rfl hd_X2_follow ⟨Nat.le_of_ble_eq_true rfl, Nat.le_of_ble_eq_true rfl⟩) hK hP hD hS hA [11, 1, 2, 3, 4, 5, 6, 7, 8, 9, 10] [0] 12 rfl rfl [o 0, p 0, p 2, p 3, p 4, p (5 + 0), p (5 + 1), p (5 + 2), p (5 + 3), p (5 + 4), p (5 + 5)] rfl rfl (ws' := lwW x t p sp a b h g f o k ++ pageW c p π ++ courseW c o (followF π κ laid w s)) rfl (wr := lwW x t p sp a b h g f o k) rfl rfl rfl rfl 0 rfl rfl rfl hl.1 rfl (Nat.le_of_ble_eq_true rfl) dX7_hasLastWord_11 (Nat.zero_le _) (Nat.zero_le _) (fun H locs hP hD hS => ?_)
  refine lv_aload_n hx hb dX7_hasLastWord_14 rfl (lv_at hl 0 rfl) ?_
  refine wg_X7_8 hx hb hts iX7 hown hK hP 0 rfl k1 (v := .ref (o 0)) rfl dX7_hasLastWord_15 ?_
  refine wg_X2_1 hx hb hts iX2 hown hK hP 11 rfl k3 (v := .int ((followF π κ laid w s) 1 0)) rfl dX7_hasLastWord_18 ?_
  refine wk_eqi (y := (crF π laid w s 30 0).2) rfl ?_
  refine lv_iload_n hx hb dX7_hasLastWord_21 rfl (lv_at hl 1 rfl) ?_
  refine lv_icmp_ne (tgt := 29) hx hb dX7_hasLastWord_22 (by decide) (fun h1 => ?_) (fun h1 => ?_)
  · refine lv_iconst (v := 0) hx hb dX7_hasLastWord_29 (by decide) ?_
    exact ret 30 ls H _ 0 π (followF π κ laid w s) ((if_neg h1).symm) hP hS dX7_hasLastWord_30
  refine lv_iconst (v := 1) hx hb dX7_hasLastWord_25 (by decide) ?_
  refine lv_goto (tgt := 30) hx hb dX7_hasLastWord_26 (by decide) ?_
  exact ret 30 ls H _ 1 π (followF π κ laid w s) ((if_pos h1).symm) hP hS dX7_hasLastWord_30

abbrev rmX7_last : Room := { frames := 3, cells := 0, slots := 0, locals := 78 }
theorem hd_X7_last : yX7_last.cls = RX7 ∧ yX7_last.cls ≠ "java/lang/invoke/MethodHandle" ∧ yX7_last.cls ≠ "java/lang/invoke/VarHandle" ∧ (parseMethodDescriptor yX7_last.desc).map (fun d => d.parameters.length) = some 1 := by decide +kernel
set_option maxHeartbeats 4000000 in
set_option maxRecDepth 100000 in
theorem c_X7_last (l : Launch) (D : va_G) (c : Nat → ClassId) (x : Nat) (t : Nat → Nat) (p : Nat → Nat) (sp : Nat → Nat) (a : Nat → Nat) (b : Nat → Nat) (h : Nat → Nat) (g : Nat → Nat) (f : Nat → Nat) (o : Nat → Nat) (k : Int64) (π : Nat → Nat → Int32) (σ : Nat → Nat → Int32) (κ : Nat → Nat → Int32) (w : Int32) (hp : wfP π) : wk_UpJ l yX7_last wsX7_last rmX7_last D (tysL c) [.ref x, .int w] (lwW x t p sp a b h g f o k ++ pageW c p π ++ affW c a σ ++ courseW c o κ) (fun j1 j2 => lwW x t p sp a b h g f o k ++ pageW c p π ++ affW c a σ ++ courseW c o j2) (lastV π σ w) := by
  refine wk_mkJ (cc := cX7_last) (maxL := 3) (rt := .int) (by decide) rfl (Nat.le_of_ble_eq_true rfl) rfl ?_
  intro A pr ev ss mm args below meth cd ls H H0 locs Q hst hP hK hD hS hA hl ret
  obtain ⟨hx, hb, hml, hown, hts, -⟩ := hst
  have hown : ss.vm.findClass RX7 = some mm.cls := hown
  have hl : lv_has ls 3 [(0, .ref x), (1, .int w)] := hl
  have k1 := hts (.fieldLink RX7 19 "LastWord" "page" "LLastWord$Page;") (List.mem_of_getElem? (i := 1) rfl)
  have k2 := hts (.fieldLink RX7 29 "LastWord" "affairs" "LLastWord$Affairs;") (List.mem_of_getElem? (i := 2) rfl)
  have k3 := hts (.fieldLink RX7 134 "LastWord$Affairs" "laid" "I") (List.mem_of_getElem? (i := 3) rfl)
  have iX0 : ∀ w ∈ u_ws RX0 TX0 11, w ∈ wsX7_last := fun _ h => (List.mem_cons_of_mem _ (List.mem_append_left _ (List.mem_append_left _ (List.mem_append_right _ h))))
  have iX7 : ∀ w ∈ u_ws RX7 TX7 10, w ∈ wsX7_last := fun _ h => (List.mem_cons_of_mem _ (List.mem_append_left _ (List.mem_append_left _ (List.mem_append_left _ (List.mem_append_right _ h)))))
  refine lv_aload_n hx hb dX7_last_0 rfl (lv_at hl 0 rfl) ?_
  refine wg_X7_1 hx hb hts iX7 hown hK hP 0 rfl k1 (v := .ref (p 0)) rfl dX7_last_1 ?_
  refine lv_iload_n hx hb dX7_last_4 rfl (lv_at hl 1 rfl) ?_
  refine wk_callRV (As := [.int w]) (rest := []) ⟨hx, hb, hml, hown, hts⟩ (c_X5_hasWriter l D c p π w) (cwV 1 hts gX7_last_X5_hasWriter rfl rfl rfl hd_X5_hasWriter ⟨Nat.le_of_ble_eq_true rfl, Nat.le_of_ble_eq_true rfl⟩) hK hP [1, 2, 3, 4, 5, 6, 7, 8, 9, 10] rfl 0 rfl rfl rfl hl.1 rfl (Nat.le_of_ble_eq_true rfl) dX7_last_5 (Nat.zero_le _) (Nat.zero_le _) ?_
  refine wk_bnz (tgt := 13) hx hb dX7_last_8 (by decide) (fun h1 => ?_) (fun h1 => ?_)
  rotate_left
  · refine lv_iconst (v := -1) hx hb dX7_last_11 (by decide) ?_
    exact ret 12 ls H _ ((-1)) π κ (by rw [lastV, if_neg h1]) hP hS dX7_last_12
  refine lv_aload_n hx hb dX7_last_13 rfl (lv_at hl 0 rfl) ?_
  refine wg_X7_3 hx hb hts iX7 hown hK hP 0 rfl k2 (v := .ref (a 0)) rfl dX7_last_14 ?_
  refine lv_iload_n hx hb dX7_last_17 rfl (lv_at hl 1 rfl) ?_
  refine wk_callRV (As := [.int w]) (rest := []) ⟨hx, hb, hml, hown, hts⟩ (c_X0_hasLaid l D c a σ w) (cwV 1 hts gX7_last_X0_hasLaid rfl rfl rfl hd_X0_hasLaid ⟨Nat.le_of_ble_eq_true rfl, Nat.le_of_ble_eq_true rfl⟩) hK hP [11, 12, 13, 14, 15, 16, 17, 18] rfl 0 rfl rfl rfl hl.1 rfl (Nat.le_of_ble_eq_true rfl) dX7_last_18 (Nat.zero_le _) (Nat.zero_le _) ?_
  refine wk_bz (tgt := 27) hx hb dX7_last_21 (by decide) (fun h2 => ?_) (fun h2 => ?_)
  rotate_left
  · refine lv_bipush (v := -2) hx hb dX7_last_24 (by decide) ?_
    exact ret 26 ls H _ ((-2)) π κ (by rw [lastV, if_pos h1, if_pos h2]) hP hS dX7_last_26
  refine lv_iconst (v := 0) hx hb dX7_last_27 (by decide) ?_
  refine lv_istore_n (lv' := [(2, .int 0), (0, .ref x), (1, .int w)]) hx hb dX7_last_28 rfl hl (by decide) rfl (fun ls hl => ?_)
  have lp29 : ∀ (n : Nat) (i : Nat) (κ2 : wRec), (i ≤ 5) → (laL π (σ 3 0) w (5 - i) i = laL π (σ 3 0) w 5 0) → 5 - i < n → ∀ (H : Heap) (locs : List Loc), va_P D vwCl (lwW x t p sp a b h g f o k ++ pageW c p π ++ affW c a σ ++ courseW c o κ2) H → va_D A (lwW x t p sp a b h g f o k ++ pageW c p π ++ affW c a σ ++ courseW c o κ2) → va_S A H0 H locs → ∀ ls : Array Slot, lv_has ls 3 [(0, .ref x), (1, .int w), (2, .int (nI i))] → W pr l ev rmX7_last ss mm args below meth cd H locs 0 0 Q (F0 mm 29 ls []) := by
    intro n
    induction n with
    | zero => intro i κ2 hi hv hn; exact absurd hn (Nat.not_lt_zero _)
    | succ n ih29 =>
      intro i κ2 hi hv hn H locs hP hD hS ls hl
      refine lv_iload_n hx hb dX7_last_29 rfl (lv_at hl 2 rfl) ?_
      refine lv_iconst (v := 5) hx hb dX7_last_30 (by decide) ?_
      refine wk_ge (tgt := 58) hx hb i 5 rfl rfl (by omega) (by omega) dX7_last_31 (by decide) (fun h3 => ?_) (fun h3 => ?_)
      · refine lv_bipush (v := -9) hx hb dX7_last_58 (by decide) ?_
        exact ret 60 ls H _ ((-9)) π κ2 (by rw [lastV, if_pos h1, if_neg h2, ← hv, show 5 - i = 0 by omega]; rfl) hP hS dX7_last_60
      refine lv_aload_n hx hb dX7_last_34 rfl (lv_at hl 0 rfl) ?_
      refine lv_iload_n hx hb dX7_last_35 rfl (lv_at hl 1 rfl) ?_
      refine lv_iload_n hx hb dX7_last_36 rfl (lv_at hl 2 rfl) ?_
      refine lv_aload_n hx hb dX7_last_37 rfl (lv_at hl 0 rfl) ?_
      refine wg_X7_3 hx hb hts iX7 hown hK hP 0 rfl k2 (v := .ref (a 0)) rfl dX7_last_38 ?_
      refine wg_X0_3 hx hb hts iX0 hown hK hP 11 rfl k3 (v := .int (σ 3 0)) rfl dX7_last_41 ?_
      refine wk_callJV (As := [.int w, .int (nI i), .int (σ 3 0)]) (rest := []) ⟨hx, hb, hml, hown, hts⟩ (c_X7_hasLastWord l D c x t p sp a b h g f o k π κ2 w i (σ 3 0) (hp) (by omega)) (cwV 3 hts gX7_last_X7_hasLastWord rfl rfl rfl hd_X7_hasLastWord ⟨Nat.le_of_ble_eq_true rfl, Nat.le_of_ble_eq_true rfl⟩) hK hP hD hS hA [0, 1, 2, 3, 4, 5, 6, 7, 8, 9, 10, 19] [11, 12, 13, 14, 15, 16, 17, 18] 20 rfl rfl [x, p 0, p 2, p 3, p 4, p (5 + 0), p (5 + 1), p (5 + 2), p (5 + 3), p (5 + 4), p (5 + 5), o 0] rfl (fun _ _ => rfl) (ws' := fun ja4 jb5 => lwW x t p sp a b h g f o k ++ pageW c p π ++ affW c a σ ++ courseW c o jb5) (fun _ _ => rfl) (wr := affW c a σ) rfl (fun _ _ => rfl) (fun _ _ => rfl) rfl 0 rfl rfl rfl hl.1 rfl (Nat.le_of_ble_eq_true rfl) dX7_last_44 (Nat.zero_le _) (Nat.zero_le _) (fun ja4 jb5 H locs hP hD hS => ?_)
      have hP : va_P D vwCl (lwW x t p sp a b h g f o k ++ pageW c p π ++ affW c a σ ++ courseW c o jb5) H := hP
      have hD : va_D A (lwW x t p sp a b h g f o k ++ pageW c p π ++ affW c a σ ++ courseW c o jb5) := hD
      refine wk_bz (tgt := 52) hx hb dX7_last_47 (by decide) (fun h6 => ?_) (fun h6 => ?_)
      rotate_left
      · refine lv_iload_n hx hb dX7_last_50 rfl (lv_at hl 2 rfl) ?_
        exact ret 51 ls H _ (nI i) π jb5 (by rw [lastV, if_pos h1, if_neg h2, ← hv, show 5 - i = (5 - (i + 1)) + 1 by omega, laL, if_pos h6]) hP hS dX7_last_51
      refine lv_iinc (v := nI (i + 1)) (lv' := [(2, .int (nI (i + 1))), (0, .ref x), (1, .int w)]) hx hb dX7_last_52 hl (k := 2) rfl (nI_inc i 1) (by decide) rfl (fun ls hl => ?_)
      refine lv_goto (tgt := 29) hx hb dX7_last_55 (by decide) ?_
      have hl : lv_has ls 3 [(0, .ref x), (1, .int w), (2, .int (nI (i + 1)))] := lv_sub hl [1, 2, 0] rfl
      exact ih29 (i + 1) jb5 (by omega) (by rw [← hv, show 5 - i = (5 - (i + 1)) + 1 by omega, laL, if_neg h6]) (by omega) H _ hP hD hS ls hl
  have hl : lv_has ls 3 [(0, .ref x), (1, .int w), (2, .int 0)] := lv_sub hl [1, 2, 0] rfl
  have hl := wk_lset (y := nI 0) (lv_sub (l' := [(2, .int 0), (0, .ref x), (1, .int w)]) hl [2, 0, 1] rfl) (by rfl)
  have hl : lv_has ls 3 [(0, .ref x), (1, .int w), (2, .int (nI 0))] := lv_sub hl [1, 2, 0] rfl
  exact lp29 _ 0 κ (by omega) (rfl) (Nat.lt_succ_self _) H _ hP hD hS ls hl

abbrev rmX7_bindsNobody : Room := { frames := 1, cells := 0, slots := 0, locals := 27 }
theorem hd_X7_bindsNobody : yX7_bindsNobody.cls = RX7 ∧ yX7_bindsNobody.cls ≠ "java/lang/invoke/MethodHandle" ∧ yX7_bindsNobody.cls ≠ "java/lang/invoke/VarHandle" ∧ (parseMethodDescriptor yX7_bindsNobody.desc).map (fun d => d.parameters.length) = some 1 := by decide +kernel
set_option maxHeartbeats 4000000 in
set_option maxRecDepth 100000 in
theorem c_X7_bindsNobody (l : Launch) (D : va_G) (c : Nat → ClassId) (x : Nat) (t : Nat → Nat) (p : Nat → Nat) (sp : Nat → Nat) (a : Nat → Nat) (b : Nat → Nat) (h : Nat → Nat) (g : Nat → Nat) (f : Nat → Nat) (o : Nat → Nat) (k : Int64) (π : Nat → Nat → Int32) (σ : Nat → Nat → Int32) (w : Int32) (hp : wfP π) : wk_RdI l yX7_bindsNobody wsX7_bindsNobody rmX7_bindsNobody D (tysL c) [.ref x, .int w] (lwW x t p sp a b h g f o k ++ pageW c p π ++ affW c a σ) (bindsV π σ w) := by
  refine wk_mkR (cc := cX7_bindsNobody) (maxL := 4) (rt := .int) (by decide) rfl (Nat.le_of_ble_eq_true rfl) rfl ?_
  intro pr ev ss mm args below meth cd ls H Q hst hP hK hl ret
  obtain ⟨hx, hb, hml, hown, hts, -⟩ := hst
  have hown : ss.vm.findClass RX7 = some mm.cls := hown
  have hl : lv_has ls 4 [(0, .ref x), (1, .int w)] := hl
  have k1 := hts (.fieldLink RX7 19 "LastWord" "page" "LLastWord$Page;") (List.mem_of_getElem? (i := 1) rfl)
  have k2 := hts (.fieldLink RX7 29 "LastWord" "affairs" "LLastWord$Affairs;") (List.mem_of_getElem? (i := 2) rfl)
  have k3 := hts (.fieldLink RX7 134 "LastWord$Affairs" "laid" "I") (List.mem_of_getElem? (i := 3) rfl)
  have iX0 : ∀ w ∈ u_ws RX0 TX0 11, w ∈ wsX7_bindsNobody := fun _ h => (List.mem_cons_of_mem _ (List.mem_append_left _ (List.mem_append_right _ h)))
  have iX7 : ∀ w ∈ u_ws RX7 TX7 10, w ∈ wsX7_bindsNobody := fun _ h => (List.mem_cons_of_mem _ (List.mem_append_left _ (List.mem_append_left _ (List.mem_append_right _ h))))
  refine lv_aload_n hx hb dX7_bindsNobody_0 rfl (lv_at hl 0 rfl) ?_
  refine wg_X7_1 hx hb hts iX7 hown hK hP 0 rfl k1 (v := .ref (p 0)) rfl dX7_bindsNobody_1 ?_
  refine lv_iload_n hx hb dX7_bindsNobody_4 rfl (lv_at hl 1 rfl) ?_
  refine wk_callRV (As := [.int w]) (rest := []) ⟨hx, hb, hml, hown, hts⟩ (c_X5_hasWriter l D c p π w) (cwV 1 hts gX7_bindsNobody_X5_hasWriter rfl rfl rfl hd_X5_hasWriter ⟨Nat.le_of_ble_eq_true rfl, Nat.le_of_ble_eq_true rfl⟩) hK hP [1, 2, 3, 4, 5, 6, 7, 8, 9, 10] rfl 0 rfl rfl rfl hl.1 rfl (Nat.le_of_ble_eq_true rfl) dX7_bindsNobody_5 (Nat.zero_le _) (Nat.zero_le _) ?_
  refine wk_bnz (tgt := 13) hx hb dX7_bindsNobody_8 (by decide) (fun h1 => ?_) (fun h1 => ?_)
  rotate_left
  · refine lv_iconst (v := -1) hx hb dX7_bindsNobody_11 (by decide) ?_
    exact ret 12 ls ((-1)) (by rw [bindsV, if_neg h1]) dX7_bindsNobody_12
  refine lv_iconst (v := 0) hx hb dX7_bindsNobody_13 (by decide) ?_
  refine lv_istore_n (lv' := [(2, .int 0), (0, .ref x), (1, .int w)]) hx hb dX7_bindsNobody_14 rfl hl (by decide) rfl (fun ls hl => ?_)
  refine lv_iconst (v := 0) hx hb dX7_bindsNobody_15 (by decide) ?_
  refine lv_istore_n (lv' := [(3, .int 0), (2, .int 0), (0, .ref x), (1, .int w)]) hx hb dX7_bindsNobody_16 rfl hl (by decide) rfl (fun ls hl => ?_)
  have lp17 : ∀ (n : Nat) (i : Nat), (i ≤ 5) → 5 - i < n → ∀ ls : Array Slot, lv_has ls 4 [(0, .ref x), (1, .int w), (2, .int (bnL π (σ 3 0) w i)), (3, .int (nI i))] → W pr l ev rmX7_bindsNobody ss mm args below meth cd H [] 0 0 Q (F0 mm 17 ls []) := by
    intro n
    induction n with
    | zero => intro i hi hn; exact absurd hn (Nat.not_lt_zero _)
    | succ n ih17 =>
      intro i hi hn ls hl
      refine lv_iload_n hx hb dX7_bindsNobody_17 rfl (lv_at hl 3 rfl) ?_
      refine lv_iconst (v := 5) hx hb dX7_bindsNobody_18 (by decide) ?_
      refine wk_ge (tgt := 55) hx hb i 5 rfl rfl (by omega) (by omega) dX7_bindsNobody_19 (by decide) (fun h2 => ?_) (fun h2 => ?_)
      · refine lv_iload_n hx hb dX7_bindsNobody_55 rfl (lv_at hl 2 rfl) ?_
        exact ret 56 ls (bnL π (σ 3 0) w i) (by rw [bindsV, if_pos h1, show i = 5 by omega]) dX7_bindsNobody_56
      refine lv_aload_n hx hb dX7_bindsNobody_22 rfl (lv_at hl 0 rfl) ?_
      refine wg_X7_1 hx hb hts iX7 hown hK hP 0 rfl k1 (v := .ref (p 0)) rfl dX7_bindsNobody_23 ?_
      refine lv_iload_n hx hb dX7_bindsNobody_26 rfl (lv_at hl 1 rfl) ?_
      refine lv_iload_n hx hb dX7_bindsNobody_27 rfl (lv_at hl 3 rfl) ?_
      refine lv_aload_n hx hb dX7_bindsNobody_28 rfl (lv_at hl 0 rfl) ?_
      refine wg_X7_3 hx hb hts iX7 hown hK hP 0 rfl k2 (v := .ref (a 0)) rfl dX7_bindsNobody_29 ?_
      refine wg_X0_3 hx hb hts iX0 hown hK hP 11 rfl k3 (v := .int (σ 3 0)) rfl dX7_bindsNobody_32 ?_
      refine wk_callRV (As := [.int w, .int (nI i), .int (σ 3 0)]) (rest := []) ⟨hx, hb, hml, hown, hts⟩ (c_X5_answerer l D c p π w i (σ 3 0) (hp) (by omega)) (cwV 3 hts gX7_bindsNobody_X5_answerer rfl rfl rfl hd_X5_answerer ⟨Nat.le_of_ble_eq_true rfl, Nat.le_of_ble_eq_true rfl⟩) hK hP [1, 2, 3, 4, 5, 6, 7, 8, 9, 10] rfl 0 rfl rfl rfl hl.1 rfl (Nat.le_of_ble_eq_true rfl) dX7_bindsNobody_35 (Nat.zero_le _) (Nat.zero_le _) ?_
      refine lv_bipush (v := -9) hx hb dX7_bindsNobody_38 (by decide) ?_
      refine lv_icmp_ne (tgt := 49) hx hb dX7_bindsNobody_40 (by decide) (fun h3 => ?_) (fun h3 => ?_)
      · refine lv_iinc (v := nI (i + 1)) (lv' := [(3, .int (nI (i + 1))), (0, .ref x), (1, .int w), (2, .int (bnL π (σ 3 0) w i))]) hx hb dX7_bindsNobody_49 hl (k := 3) rfl (nI_inc i 1) (by decide) rfl (fun ls hl => ?_)
        refine lv_goto (tgt := 17) hx hb dX7_bindsNobody_52 (by decide) ?_
        have hl : lv_has ls 4 [(0, .ref x), (1, .int w), (2, .int (bnL π (σ 3 0) w i)), (3, .int (nI (i + 1)))] := lv_sub hl [1, 2, 3, 0] rfl
        have hl := wk_lset (y := bnL π (σ 3 0) w (i + 1)) (lv_sub (l' := [(2, .int (bnL π (σ 3 0) w i)), (0, .ref x), (1, .int w), (3, .int (nI (i + 1)))]) hl [2, 0, 1, 3] rfl) (by first | rfl | rw [bnL, if_pos h3] | rw [bnL, if_neg h3])
        have hl : lv_has ls 4 [(0, .ref x), (1, .int w), (2, .int (bnL π (σ 3 0) w (i + 1))), (3, .int (nI (i + 1)))] := lv_sub hl [1, 2, 0, 3] rfl
        exact ih17 (i + 1) (by omega) (by omega) ls hl
      refine lv_iload_n hx hb dX7_bindsNobody_43 rfl (lv_at hl 2 rfl) ?_
      refine lv_iconst (v := 1) hx hb dX7_bindsNobody_44 (by decide) ?_
      refine lv_iload_n hx hb dX7_bindsNobody_45 rfl (lv_at hl 3 rfl) ?_
      refine lv_ishl hx hb dX7_bindsNobody_46 ?_
      refine lv_ior hx hb dX7_bindsNobody_47 ?_
      refine lv_istore_n (lv' := [(2, .int ((bnL π (σ 3 0) w i) ||| (1 <<< ((nI i) &&& 31)))), (0, .ref x), (1, .int w), (3, .int (nI i))]) hx hb dX7_bindsNobody_48 rfl hl (by decide) rfl (fun ls hl => ?_)
      refine lv_iinc (v := nI (i + 1)) (lv' := [(3, .int (nI (i + 1))), (2, .int ((bnL π (σ 3 0) w i) ||| (1 <<< ((nI i) &&& 31)))), (0, .ref x), (1, .int w)]) hx hb dX7_bindsNobody_49 hl (k := 3) rfl (nI_inc i 1) (by decide) rfl (fun ls hl => ?_)
      refine lv_goto (tgt := 17) hx hb dX7_bindsNobody_52 (by decide) ?_
      have hl : lv_has ls 4 [(0, .ref x), (1, .int w), (2, .int ((bnL π (σ 3 0) w i) ||| (1 <<< ((nI i) &&& 31)))), (3, .int (nI (i + 1)))] := lv_sub hl [2, 3, 1, 0] rfl
      have hl := wk_lset (y := bnL π (σ 3 0) w (i + 1)) (lv_sub (l' := [(2, .int ((bnL π (σ 3 0) w i) ||| (1 <<< ((nI i) &&& 31)))), (0, .ref x), (1, .int w), (3, .int (nI (i + 1)))]) hl [2, 0, 1, 3] rfl) (by first | rfl | rw [bnL, if_pos h3] | rw [bnL, if_neg h3])
      have hl : lv_has ls 4 [(0, .ref x), (1, .int w), (2, .int (bnL π (σ 3 0) w (i + 1))), (3, .int (nI (i + 1)))] := lv_sub hl [1, 2, 0, 3] rfl
      exact ih17 (i + 1) (by omega) (by omega) ls hl
  have hl : lv_has ls 4 [(0, .ref x), (1, .int w), (2, .int 0), (3, .int 0)] := lv_sub hl [2, 3, 1, 0] rfl
  have hl := wk_lset (y := bnL π (σ 3 0) w 0) (lv_sub (l' := [(2, .int 0), (0, .ref x), (1, .int w), (3, .int 0)]) hl [2, 0, 1, 3] rfl) (by first | rfl | rw [bnL, if_pos h1] | rw [bnL, if_neg h1])
  have hl : lv_has ls 4 [(0, .ref x), (1, .int w), (2, .int (bnL π (σ 3 0) w 0)), (3, .int 0)] := lv_sub hl [1, 2, 0, 3] rfl
  have hl := wk_lset (y := nI 0) (lv_sub (l' := [(3, .int 0), (0, .ref x), (1, .int w), (2, .int (bnL π (σ 3 0) w 0))]) hl [3, 0, 1, 2] rfl) (by first | rfl | rw [bnL, if_pos h1] | rw [bnL, if_neg h1])
  have hl : lv_has ls 4 [(0, .ref x), (1, .int w), (2, .int (bnL π (σ 3 0) w 0)), (3, .int (nI 0))] := lv_sub hl [1, 2, 3, 0] rfl
  exact lp17 _ 0 (by omega) (Nat.lt_succ_self _) ls hl

abbrev rmX7_keeps : Room := { frames := 2, cells := 0, slots := 0, locals := 47 }
theorem hd_X7_keeps : yX7_keeps.cls = RX7 ∧ yX7_keeps.cls ≠ "java/lang/invoke/MethodHandle" ∧ yX7_keeps.cls ≠ "java/lang/invoke/VarHandle" ∧ (parseMethodDescriptor yX7_keeps.desc).map (fun d => d.parameters.length) = some 1 := by decide +kernel
set_option maxHeartbeats 4000000 in
set_option maxRecDepth 100000 in
theorem c_X7_keeps (l : Launch) (D : va_G) (c : Nat → ClassId) (x : Nat) (t : Nat → Nat) (p : Nat → Nat) (sp : Nat → Nat) (a : Nat → Nat) (b : Nat → Nat) (h : Nat → Nat) (g : Nat → Nat) (f : Nat → Nat) (o : Nat → Nat) (k : Int64) (π : Nat → Nat → Int32) (σ : Nat → Nat → Int32) (w : Int32) (hq : wfQ σ) : wk_RdI l yX7_keeps wsX7_keeps rmX7_keeps D (tysL c) [.ref x, .int w] (lwW x t p sp a b h g f o k ++ pageW c p π ++ affW c a σ) (keepsV π σ w) := by
  refine wk_mkR (cc := cX7_keeps) (maxL := 6) (rt := .int) (by decide) rfl (Nat.le_of_ble_eq_true rfl) rfl ?_
  intro pr ev ss mm args below meth cd ls H Q hst hP hK hl ret
  obtain ⟨hx, hb, hml, hown, hts, -⟩ := hst
  have hown : ss.vm.findClass RX7 = some mm.cls := hown
  have hl : lv_has ls 6 [(0, .ref x), (1, .int w)] := hl
  have k1 := hts (.fieldLink RX7 19 "LastWord" "page" "LLastWord$Page;") (List.mem_of_getElem? (i := 1) rfl)
  have k2 := hts (.fieldLink RX7 29 "LastWord" "affairs" "LLastWord$Affairs;") (List.mem_of_getElem? (i := 2) rfl)
  have k3 := hts (.fieldLink RX7 203 "LastWord$Page" "term" "I") (List.mem_of_getElem? (i := 3) rfl)
  have iX5 : ∀ w ∈ u_ws RX5 TX5 5, w ∈ wsX7_keeps := fun _ h => (List.mem_cons_of_mem _ (List.mem_append_left _ (List.mem_append_right _ h)))
  have iX7 : ∀ w ∈ u_ws RX7 TX7 10, w ∈ wsX7_keeps := fun _ h => (List.mem_cons_of_mem _ (List.mem_append_left _ (List.mem_append_left _ (List.mem_append_right _ h))))
  refine lv_aload_n hx hb dX7_keeps_0 rfl (lv_at hl 0 rfl) ?_
  refine wg_X7_1 hx hb hts iX7 hown hK hP 0 rfl k1 (v := .ref (p 0)) rfl dX7_keeps_1 ?_
  refine lv_iload_n hx hb dX7_keeps_4 rfl (lv_at hl 1 rfl) ?_
  refine wk_callRV (As := [.int w]) (rest := []) ⟨hx, hb, hml, hown, hts⟩ (c_X5_hasWriter l D c p π w) (cwV 1 hts gX7_keeps_X5_hasWriter rfl rfl rfl hd_X5_hasWriter ⟨Nat.le_of_ble_eq_true rfl, Nat.le_of_ble_eq_true rfl⟩) hK hP [1, 2, 3, 4, 5, 6, 7, 8, 9, 10] rfl 0 rfl rfl rfl hl.1 rfl (Nat.le_of_ble_eq_true rfl) dX7_keeps_5 (Nat.zero_le _) (Nat.zero_le _) ?_
  refine wk_bnz (tgt := 13) hx hb dX7_keeps_8 (by decide) (fun h1 => ?_) (fun h1 => ?_)
  rotate_left
  · refine lv_iconst (v := -1) hx hb dX7_keeps_11 (by decide) ?_
    exact ret 12 ls ((-1)) (by rw [keepsV, if_neg h1]) dX7_keeps_12
  refine lv_aload_n hx hb dX7_keeps_13 rfl (lv_at hl 0 rfl) ?_
  refine wg_X7_3 hx hb hts iX7 hown hK hP 0 rfl k2 (v := .ref (a 0)) rfl dX7_keeps_14 ?_
  refine lv_iload_n hx hb dX7_keeps_17 rfl (lv_at hl 1 rfl) ?_
  refine wk_callRV (As := [.int w]) (rest := []) ⟨hx, hb, hml, hown, hts⟩ (c_X0_owedBits l D c a σ w (hq)) (cwV 1 hts gX7_keeps_X0_owedBits rfl rfl rfl hd_X0_owedBits ⟨Nat.le_of_ble_eq_true rfl, Nat.le_of_ble_eq_true rfl⟩) hK hP [11, 12, 13, 14, 15, 16, 17, 18] rfl 0 rfl rfl rfl hl.1 rfl (Nat.le_of_ble_eq_true rfl) dX7_keeps_18 (Nat.zero_le _) (Nat.zero_le _) ?_
  refine lv_istore_n (lv' := [(2, .int (obL (σ 8) w (nQ σ))), (0, .ref x), (1, .int w)]) hx hb dX7_keeps_21 rfl hl (by decide) rfl (fun ls hl => ?_)
  refine lv_iconst (v := 0) hx hb dX7_keeps_22 (by decide) ?_
  refine lv_istore_n (lv' := [(3, .int 0), (2, .int (obL (σ 8) w (nQ σ))), (0, .ref x), (1, .int w)]) hx hb dX7_keeps_23 rfl hl (by decide) rfl (fun ls hl => ?_)
  refine lv_iconst (v := 0) hx hb dX7_keeps_24 (by decide) ?_
  refine lv_istore (lv' := [(4, .int 0), (3, .int 0), (2, .int (obL (σ 8) w (nQ σ))), (0, .ref x), (1, .int w)]) hx hb dX7_keeps_25 hl (by decide) rfl (fun ls hl => ?_)
  have lp27 : ∀ (n : Nat) (i : Nat), (i ≤ 64) → 64 - i < n → ∀ ls : Array Slot, lv_has ls 6 [(0, .ref x), (1, .int w), (2, .int (obL (σ 8) w (nQ σ))), (3, .int (kpL σ (π 1 0) (obL (σ 8) w (nQ σ)) i)), (4, .int (nI i))] → W pr l ev rmX7_keeps ss mm args below meth cd H [] 0 0 Q (F0 mm 27 ls []) := by
    intro n
    induction n with
    | zero => intro i hi hn; exact absurd hn (Nat.not_lt_zero _)
    | succ n ih27 =>
      intro i hi hn ls hl
      refine lv_iload hx hb dX7_keeps_27 (lv_at hl 4 rfl) ?_
      refine lv_bipush (v := 64) hx hb dX7_keeps_29 (by decide) ?_
      refine wk_ge (tgt := 95) hx hb i 64 rfl rfl (by omega) (by omega) dX7_keeps_31 (by decide) (fun h2 => ?_) (fun h2 => ?_)
      · refine lv_iload_n hx hb dX7_keeps_95 rfl (lv_at hl 3 rfl) ?_
        exact ret 96 ls (kpL σ (π 1 0) (obL (σ 8) w (nQ σ)) i) (by rw [keepsV, if_pos h1, show i = 64 by omega]) dX7_keeps_96
      refine lv_iload hx hb dX7_keeps_34 (lv_at hl 4 rfl) ?_
      refine lv_iload_n hx hb dX7_keeps_36 rfl (lv_at hl 2 rfl) ?_
      refine lv_iconst (v := -1) hx hb dX7_keeps_37 (by decide) ?_
      refine lv_ixor hx hb dX7_keeps_38 ?_
      refine lv_iand hx hb dX7_keeps_39 ?_
      refine lv_if_ne (tgt := 47) hx hb dX7_keeps_40 (by decide) (fun h3 => ?_) (fun h3 => ?_)
      · refine lv_iconst (v := 0) hx hb dX7_keeps_47 (by decide) ?_
        refine lv_istore (lv' := [(5, .int 0), (0, .ref x), (1, .int w), (2, .int (obL (σ 8) w (nQ σ))), (3, .int (kpL σ (π 1 0) (obL (σ 8) w (nQ σ)) i)), (4, .int (nI i))]) hx hb dX7_keeps_48 hl (by decide) rfl (fun ls hl => ?_)
        refine lv_iload hx hb dX7_keeps_50 (lv_at hl 0 rfl) ?_
        refine lv_if_eq (tgt := 89) hx hb dX7_keeps_52 (by decide) (fun _ => ?_) (fun q => absurd (by decide) q)
        refine lv_iinc (v := nI (i + 1)) (lv' := [(4, .int (nI (i + 1))), (5, .int 0), (0, .ref x), (1, .int w), (2, .int (obL (σ 8) w (nQ σ))), (3, .int (kpL σ (π 1 0) (obL (σ 8) w (nQ σ)) i))]) hx hb dX7_keeps_89 hl (k := 5) rfl (nI_inc i 1) (by decide) rfl (fun ls hl => ?_)
        refine lv_goto (tgt := 27) hx hb dX7_keeps_92 (by decide) ?_
        have hl : lv_has ls 6 [(0, .ref x), (1, .int w), (2, .int (obL (σ 8) w (nQ σ))), (3, .int (kpL σ (π 1 0) (obL (σ 8) w (nQ σ)) i)), (4, .int (nI (i + 1)))] := lv_sub hl [2, 3, 4, 5, 0] rfl
        have hl := wk_lset (y := kpL σ (π 1 0) (obL (σ 8) w (nQ σ)) (i + 1)) (lv_sub (l' := [(3, .int (kpL σ (π 1 0) (obL (σ 8) w (nQ σ)) i)), (0, .ref x), (1, .int w), (2, .int (obL (σ 8) w (nQ σ))), (4, .int (nI (i + 1)))]) hl [3, 0, 1, 2, 4] rfl) (by first | rfl | (rw [kpL, if_pos ⟨⟨hA1, hA2⟩, hA3⟩]; done) | (rw [kpL, if_neg (fun z => absurd z.1.1 h3)]; done) | (rw [kpL, if_neg (fun z => absurd h3 z.1.2)]; done) | (rw [kpL, if_neg (fun z => absurd z.2 h3)]; done))
        have hl : lv_has ls 6 [(0, .ref x), (1, .int w), (2, .int (obL (σ 8) w (nQ σ))), (3, .int (kpL σ (π 1 0) (obL (σ 8) w (nQ σ)) (i + 1))), (4, .int (nI (i + 1)))] := lv_sub hl [1, 2, 3, 0, 4] rfl
        exact ih27 (i + 1) (by omega) (by omega) ls hl
      have hA1 := h3
      refine lv_iconst (v := 1) hx hb dX7_keeps_43 (by decide) ?_
      refine lv_goto (tgt := 48) hx hb dX7_keeps_44 (by decide) ?_
      refine lv_istore (lv' := [(5, .int 1), (0, .ref x), (1, .int w), (2, .int (obL (σ 8) w (nQ σ))), (3, .int (kpL σ (π 1 0) (obL (σ 8) w (nQ σ)) i)), (4, .int (nI i))]) hx hb dX7_keeps_48 hl (by decide) rfl (fun ls hl => ?_)
      refine lv_iload hx hb dX7_keeps_50 (lv_at hl 0 rfl) ?_
      refine lv_if_eq (tgt := 89) hx hb dX7_keeps_52 (by decide) (fun q => absurd q (by decide)) (fun _ => ?_)
      refine lv_iload hx hb dX7_keeps_55 (lv_at hl 5 rfl) ?_
      refine wk_callRS (As := [.int (nI i)]) (rest := []) ⟨hx, hb, hml, hown, hts⟩ (c_J6_bitCount_0f7a4 l D c (nI i)) (va_cwS 1 hts gX7_keeps_J6_bitCount_0f7a4 rfl rfl rfl hd_J6_bitCount_0f7a4 ⟨Nat.le_of_ble_eq_true rfl, Nat.le_of_ble_eq_true rfl⟩) hK hP [] rfl rfl hl.1 rfl (Nat.le_of_ble_eq_true rfl) dX7_keeps_57 (Nat.zero_le _) (Nat.zero_le _) ?_
      refine lv_iload_n hx hb dX7_keeps_60 rfl (lv_at hl 4 rfl) ?_
      refine lv_icmp_le (tgt := 89) hx hb dX7_keeps_61 (by decide) (fun h6 => ?_) (fun h6 => ?_)
      · refine lv_iinc (v := nI (i + 1)) (lv' := [(4, .int (nI (i + 1))), (5, .int 1), (0, .ref x), (1, .int w), (2, .int (obL (σ 8) w (nQ σ))), (3, .int (kpL σ (π 1 0) (obL (σ 8) w (nQ σ)) i))]) hx hb dX7_keeps_89 hl (k := 5) rfl (nI_inc i 1) (by decide) rfl (fun ls hl => ?_)
        refine lv_goto (tgt := 27) hx hb dX7_keeps_92 (by decide) ?_
        have hl : lv_has ls 6 [(0, .ref x), (1, .int w), (2, .int (obL (σ 8) w (nQ σ))), (3, .int (kpL σ (π 1 0) (obL (σ 8) w (nQ σ)) i)), (4, .int (nI (i + 1)))] := lv_sub hl [2, 3, 4, 5, 0] rfl
        have hl := wk_lset (y := kpL σ (π 1 0) (obL (σ 8) w (nQ σ)) (i + 1)) (lv_sub (l' := [(3, .int (kpL σ (π 1 0) (obL (σ 8) w (nQ σ)) i)), (0, .ref x), (1, .int w), (2, .int (obL (σ 8) w (nQ σ))), (4, .int (nI (i + 1)))]) hl [3, 0, 1, 2, 4] rfl) (by first | rfl | (rw [kpL, if_pos ⟨⟨hA1, hA2⟩, hA3⟩]; done) | (rw [kpL, if_neg (fun z => absurd z.1.1 h6)]; done) | (rw [kpL, if_neg (fun z => absurd h6 z.1.2)]; done) | (rw [kpL, if_neg (fun z => absurd z.2 h6)]; done))
        have hl : lv_has ls 6 [(0, .ref x), (1, .int w), (2, .int (obL (σ 8) w (nQ σ))), (3, .int (kpL σ (π 1 0) (obL (σ 8) w (nQ σ)) (i + 1))), (4, .int (nI (i + 1)))] := lv_sub hl [1, 2, 3, 0, 4] rfl
        exact ih27 (i + 1) (by omega) (by omega) ls hl
      have hA2 := h6
      refine lv_aload_n hx hb dX7_keeps_64 rfl (lv_at hl 1 rfl) ?_
      refine wg_X7_3 hx hb hts iX7 hown hK hP 0 rfl k2 (v := .ref (a 0)) rfl dX7_keeps_65 ?_
      refine lv_iload hx hb dX7_keeps_68 (lv_at hl 5 rfl) ?_
      refine lv_aload_n hx hb dX7_keeps_70 rfl (lv_at hl 1 rfl) ?_
      refine wg_X7_1 hx hb hts iX7 hown hK hP 0 rfl k1 (v := .ref (p 0)) rfl dX7_keeps_71 ?_
      refine wg_X5_1 hx hb hts iX5 hown hK hP 1 rfl k3 (v := .int (π 1 0)) rfl dX7_keeps_74 ?_
      refine wk_callRV (As := [.int (nI i), .int (π 1 0)]) (rest := []) ⟨hx, hb, hml, hown, hts⟩ (c_X0_canKeep l D c a σ (nI i) (π 1 0) (hq)) (cwV 2 hts gX7_keeps_X0_canKeep rfl rfl rfl hd_X0_canKeep ⟨Nat.le_of_ble_eq_true rfl, Nat.le_of_ble_eq_true rfl⟩) hK hP [11, 12, 13, 14, 15, 16, 17, 18] rfl 0 rfl rfl rfl hl.1 rfl (Nat.le_of_ble_eq_true rfl) dX7_keeps_77 (Nat.zero_le _) (Nat.zero_le _) ?_
      refine wk_bz (tgt := 89) hx hb dX7_keeps_80 (by decide) (fun hA3 => ?_) (fun hA3 => ?_)
      · refine lv_iinc (v := nI (i + 1)) (lv' := [(4, .int (nI (i + 1))), (5, .int 1), (0, .ref x), (1, .int w), (2, .int (obL (σ 8) w (nQ σ))), (3, .int (kpL σ (π 1 0) (obL (σ 8) w (nQ σ)) i))]) hx hb dX7_keeps_89 hl (k := 5) rfl (nI_inc i 1) (by decide) rfl (fun ls hl => ?_)
        refine lv_goto (tgt := 27) hx hb dX7_keeps_92 (by decide) ?_
        have hl : lv_has ls 6 [(0, .ref x), (1, .int w), (2, .int (obL (σ 8) w (nQ σ))), (3, .int (kpL σ (π 1 0) (obL (σ 8) w (nQ σ)) i)), (4, .int (nI (i + 1)))] := lv_sub hl [2, 3, 4, 5, 0] rfl
        have hl := wk_lset (y := kpL σ (π 1 0) (obL (σ 8) w (nQ σ)) (i + 1)) (lv_sub (l' := [(3, .int (kpL σ (π 1 0) (obL (σ 8) w (nQ σ)) i)), (0, .ref x), (1, .int w), (2, .int (obL (σ 8) w (nQ σ))), (4, .int (nI (i + 1)))]) hl [3, 0, 1, 2, 4] rfl) (by first | rfl | (rw [kpL, if_pos ⟨⟨hA1, hA2⟩, hA3⟩]; done) | (rw [kpL, if_neg (fun z => absurd z.1.1 hA3)]; done) | (rw [kpL, if_neg (fun z => absurd hA3 z.1.2)]; done) | (rw [kpL, if_neg (fun z => absurd z.2 hA3)]; done))
        have hl : lv_has ls 6 [(0, .ref x), (1, .int w), (2, .int (obL (σ 8) w (nQ σ))), (3, .int (kpL σ (π 1 0) (obL (σ 8) w (nQ σ)) (i + 1))), (4, .int (nI (i + 1)))] := lv_sub hl [1, 2, 3, 0, 4] rfl
        exact ih27 (i + 1) (by omega) (by omega) ls hl
      refine lv_iload hx hb dX7_keeps_83 (lv_at hl 5 rfl) ?_
      refine wk_callRS (As := [.int (nI i)]) (rest := []) ⟨hx, hb, hml, hown, hts⟩ (c_J6_bitCount_0f7a4 l D c (nI i)) (va_cwS 1 hts gX7_keeps_J6_bitCount_0f7a4 rfl rfl rfl hd_J6_bitCount_0f7a4 ⟨Nat.le_of_ble_eq_true rfl, Nat.le_of_ble_eq_true rfl⟩) hK hP [] rfl rfl hl.1 rfl (Nat.le_of_ble_eq_true rfl) dX7_keeps_85 (Nat.zero_le _) (Nat.zero_le _) ?_
      refine lv_istore_n (lv' := [(3, .int (bcF (nI i))), (5, .int 1), (0, .ref x), (1, .int w), (2, .int (obL (σ 8) w (nQ σ))), (4, .int (nI i))]) hx hb dX7_keeps_88 rfl hl (by decide) rfl (fun ls hl => ?_)
      refine lv_iinc (v := nI (i + 1)) (lv' := [(4, .int (nI (i + 1))), (3, .int (bcF (nI i))), (5, .int 1), (0, .ref x), (1, .int w), (2, .int (obL (σ 8) w (nQ σ)))]) hx hb dX7_keeps_89 hl (k := 5) rfl (nI_inc i 1) (by decide) rfl (fun ls hl => ?_)
      refine lv_goto (tgt := 27) hx hb dX7_keeps_92 (by decide) ?_
      have hl : lv_has ls 6 [(0, .ref x), (1, .int w), (2, .int (obL (σ 8) w (nQ σ))), (3, .int (bcF (nI i))), (4, .int (nI (i + 1)))] := lv_sub hl [3, 4, 5, 1, 0] rfl
      have hl := wk_lset (y := kpL σ (π 1 0) (obL (σ 8) w (nQ σ)) (i + 1)) (lv_sub (l' := [(3, .int (bcF (nI i))), (0, .ref x), (1, .int w), (2, .int (obL (σ 8) w (nQ σ))), (4, .int (nI (i + 1)))]) hl [3, 0, 1, 2, 4] rfl) (by first | rfl | (rw [kpL, if_pos ⟨⟨hA1, hA2⟩, hA3⟩]; done) | (rw [kpL, if_neg (fun z => absurd z.1.1 hA3)]; done) | (rw [kpL, if_neg (fun z => absurd hA3 z.1.2)]; done) | (rw [kpL, if_neg (fun z => absurd z.2 hA3)]; done))
      have hl : lv_has ls 6 [(0, .ref x), (1, .int w), (2, .int (obL (σ 8) w (nQ σ))), (3, .int (kpL σ (π 1 0) (obL (σ 8) w (nQ σ)) (i + 1))), (4, .int (nI (i + 1)))] := lv_sub hl [1, 2, 3, 0, 4] rfl
      exact ih27 (i + 1) (by omega) (by omega) ls hl
  have hl : lv_has ls 6 [(0, .ref x), (1, .int w), (2, .int (obL (σ 8) w (nQ σ))), (3, .int 0), (4, .int 0)] := lv_sub hl [3, 4, 2, 1, 0] rfl
  have hl := wk_lset (y := kpL σ (π 1 0) (obL (σ 8) w (nQ σ)) 0) (lv_sub (l' := [(3, .int 0), (0, .ref x), (1, .int w), (2, .int (obL (σ 8) w (nQ σ))), (4, .int 0)]) hl [3, 0, 1, 2, 4] rfl) (by first | rfl | (rw [kpL, if_pos ⟨⟨hA1, hA2⟩, hA3⟩]; done) | (rw [kpL, if_neg (fun z => absurd z.1.1 h1)]; done) | (rw [kpL, if_neg (fun z => absurd h1 z.1.2)]; done) | (rw [kpL, if_neg (fun z => absurd z.2 h1)]; done))
  have hl : lv_has ls 6 [(0, .ref x), (1, .int w), (2, .int (obL (σ 8) w (nQ σ))), (3, .int (kpL σ (π 1 0) (obL (σ 8) w (nQ σ)) 0)), (4, .int 0)] := lv_sub hl [1, 2, 3, 0, 4] rfl
  have hl := wk_lset (y := nI 0) (lv_sub (l' := [(4, .int 0), (0, .ref x), (1, .int w), (2, .int (obL (σ 8) w (nQ σ))), (3, .int (kpL σ (π 1 0) (obL (σ 8) w (nQ σ)) 0))]) hl [4, 0, 1, 2, 3] rfl) (by first | rfl | (rw [kpL, if_pos ⟨⟨hA1, hA2⟩, hA3⟩]; done) | (rw [kpL, if_neg (fun z => absurd z.1.1 h1)]; done) | (rw [kpL, if_neg (fun z => absurd h1 z.1.2)]; done) | (rw [kpL, if_neg (fun z => absurd z.2 h1)]; done))
  have hl : lv_has ls 6 [(0, .ref x), (1, .int w), (2, .int (obL (σ 8) w (nQ σ))), (3, .int (kpL σ (π 1 0) (obL (σ 8) w (nQ σ)) 0)), (4, .int (nI 0))] := lv_sub hl [1, 2, 3, 4, 0] rfl
  exact lp27 _ 0 (by omega) (Nat.lt_succ_self _) ls hl

abbrev rmX7_lateFirst : Room := { frames := 4, cells := 0, slots := 0, locals := 98 }
theorem hd_X7_lateFirst : yX7_lateFirst.cls = RX7 ∧ yX7_lateFirst.cls ≠ "java/lang/invoke/MethodHandle" ∧ yX7_lateFirst.cls ≠ "java/lang/invoke/VarHandle" ∧ (parseMethodDescriptor yX7_lateFirst.desc).map (fun d => d.parameters.length) = some 1 := by decide +kernel
set_option maxHeartbeats 4000000 in
set_option maxRecDepth 100000 in
theorem c_X7_lateFirst (l : Launch) (D : va_G) (c : Nat → ClassId) (x : Nat) (t : Nat → Nat) (p : Nat → Nat) (sp : Nat → Nat) (a : Nat → Nat) (b : Nat → Nat) (h : Nat → Nat) (g : Nat → Nat) (f : Nat → Nat) (o : Nat → Nat) (k : Int64) (π : Nat → Nat → Int32) (σ : Nat → Nat → Int32) (β : Nat → Nat → Int32) (x2 : Int32) (hp : wfP π) (ha : wfA π σ) : wk_UpJ l yX7_lateFirst wsX7_lateFirst rmX7_lateFirst D (tysL c) [.ref x, .int x2] (lwW x t p sp a b h g f o k ++ pageW c p π ++ affW c a σ ++ affW c b β) (fun j1 j2 => lwW x t p sp a b h g f o k ++ pageW c p π ++ affW c a σ ++ affW c b j1) (lateFirstV π σ x2) := by
  refine wk_mkJ (cc := cX7_lateFirst) (maxL := 4) (rt := .int) (by decide) rfl (Nat.le_of_ble_eq_true rfl) rfl ?_
  intro A pr ev ss mm args below meth cd ls H H0 locs Q hst hP hK hD hS hA hl ret
  obtain ⟨hx, hb, hml, hown, hts, -⟩ := hst
  have hown : ss.vm.findClass RX7 = some mm.cls := hown
  have hl : lv_has ls 4 [(0, .ref x), (1, .int x2)] := hl
  have k1 := hts (.fieldLink RX7 33 "LastWord" "ahead" "LLastWord$Affairs;") (List.mem_of_getElem? (i := 1) rfl)
  have k2 := hts (.fieldLink RX7 29 "LastWord" "affairs" "LLastWord$Affairs;") (List.mem_of_getElem? (i := 2) rfl)
  have k3 := hts (.fieldLink RX7 19 "LastWord" "page" "LLastWord$Page;") (List.mem_of_getElem? (i := 3) rfl)
  have k4 := hts (.fieldLink RX7 203 "LastWord$Page" "term" "I") (List.mem_of_getElem? (i := 4) rfl)
  have k5 := hts (.fieldLink RX7 121 "LastWord$Affairs" "owes" "[I") (List.mem_of_getElem? (i := 5) rfl)
  have iX0 : ∀ w ∈ u_ws RX0 TX0 11, w ∈ wsX7_lateFirst := fun _ h => (List.mem_cons_of_mem _ (List.mem_append_right _ h))
  have iX5 : ∀ w ∈ u_ws RX5 TX5 5, w ∈ wsX7_lateFirst := fun _ h => (List.mem_cons_of_mem _ (List.mem_append_left _ (List.mem_append_right _ h)))
  have iX7 : ∀ w ∈ u_ws RX7 TX7 10, w ∈ wsX7_lateFirst := fun _ h => (List.mem_cons_of_mem _ (List.mem_append_left _ (List.mem_append_left _ (List.mem_append_right _ h))))
  have hq6 := ha.1.2
  refine lv_iload_n hx hb dX7_lateFirst_0 rfl (lv_at hl 1 rfl) ?_
  refine lv_if_lt (tgt := 9) hx hb dX7_lateFirst_1 (by decide) (fun h1 => ?_) (fun h1 => ?_)
  · refine lv_iconst (v := -1) hx hb dX7_lateFirst_9 (by decide) ?_
    exact ret 10 ls H _ ((-1)) β π (by rw [lateFirstV, if_neg (fun q => absurd h1 (Int32.not_lt.mpr q.1))]) hP hS dX7_lateFirst_10
  refine lv_iload_n hx hb dX7_lateFirst_4 rfl (lv_at hl 1 rfl) ?_
  refine lv_iconst (v := 1) hx hb dX7_lateFirst_5 (by decide) ?_
  refine lv_icmp_le (tgt := 11) hx hb dX7_lateFirst_6 (by decide) (fun h2 => ?_) (fun h2 => ?_)
  rotate_left
  · refine lv_iconst (v := -1) hx hb dX7_lateFirst_9 (by decide) ?_
    exact ret 10 ls H _ ((-1)) β π (by rw [lateFirstV, if_neg (fun q => absurd q.2 h2)]) hP hS dX7_lateFirst_10
  refine lv_aload_n hx hb dX7_lateFirst_11 rfl (lv_at hl 0 rfl) ?_
  refine wg_X7_4 hx hb hts iX7 hown hK hP 0 rfl k1 (v := .ref (b 0)) rfl dX7_lateFirst_12 ?_
  refine lv_aload_n hx hb dX7_lateFirst_15 rfl (lv_at hl 0 rfl) ?_
  refine wg_X7_3 hx hb hts iX7 hown hK hP 0 rfl k2 (v := .ref (a 0)) rfl dX7_lateFirst_16 ?_
  refine wk_callVV (As := [.ref (a 0)]) (rest := []) ⟨hx, hb, hml, hown, hts⟩ (c_X0_copy l D c b β a σ) (cwV 1 hts gX7_lateFirst_X0_copy rfl rfl rfl hd_X0_copy ⟨Nat.le_of_ble_eq_true rfl, Nat.le_of_ble_eq_true rfl⟩) hK hP hD hS hA [19, 20, 21, 22, 23, 24, 25, 26, 11, 12, 13, 14, 15, 16, 17, 18] [0, 1, 2, 3, 4, 5, 6, 7, 8, 9, 10] 27 rfl rfl [b 0, b 4, b 5, b 6, b 7, b 8, b 9, b 10, a 0, a 4, a 5, a 6, a 7, a 8, a 9, a 10] rfl rfl (ws' := lwW x t p sp a b h g f o k ++ pageW c p π ++ affW c a σ ++ affW c b σ) rfl (wr := lwW x t p sp a b h g f o k ++ pageW c p π) rfl rfl rfl rfl 0 rfl rfl rfl hl.1 rfl (Nat.le_of_ble_eq_true rfl) dX7_lateFirst_19 (Nat.zero_le _) (Nat.zero_le _) (fun H locs hP hD hS => ?_)
  refine lv_iconst (v := 1) hx hb dX7_lateFirst_22 (by decide) ?_
  refine lv_istore_n (lv' := [(2, .int 1), (0, .ref x), (1, .int x2)]) hx hb dX7_lateFirst_23 rfl hl (by decide) rfl (fun ls hl => ?_)
  have lp24 : ∀ (n : Nat) (i : Nat), (i ≤ 200) → (lfL π x2 (200 - i) (passI π σ i) (i + 1) = lfL π x2 200 σ 1) → 200 - i < n → ∀ (H : Heap) (locs : List Loc), va_P D vwCl (lwW x t p sp a b h g f o k ++ pageW c p π ++ affW c a σ ++ affW c b (passI π σ i)) H → va_D A (lwW x t p sp a b h g f o k ++ pageW c p π ++ affW c a σ ++ affW c b (passI π σ i)) → va_S A H0 H locs → ∀ ls : Array Slot, lv_has ls 4 [(0, .ref x), (1, .int x2), (2, .int (nI (i + 1)))] → W pr l ev rmX7_lateFirst ss mm args below meth cd H locs 0 0 Q (F0 mm 24 ls []) := by
    intro n
    induction n with
    | zero => intro i hi hv hn; exact absurd hn (Nat.not_lt_zero _)
    | succ n ih24 =>
      intro i hi hv hn H locs hP hD hS ls hl
      refine lv_iload_n hx hb dX7_lateFirst_24 rfl (lv_at hl 2 rfl) ?_
      refine lv_sipush (v := 200) hx hb dX7_lateFirst_25 (by decide) ?_
      refine wk_gt (tgt := 88) hx hb (i + 1) 200 rfl rfl (by omega) (by omega) dX7_lateFirst_28 (by decide) (fun h3 => ?_) (fun h3 => ?_)
      · refine lv_bipush (v := -9) hx hb dX7_lateFirst_88 (by decide) ?_
        exact ret 90 ls H _ ((-9)) (passI π σ i) π (by rw [lateFirstV, if_pos ⟨Int32.not_lt.mp h1, h2⟩, ← hv, show 200 - i = 0 by omega]; rfl) hP hS dX7_lateFirst_90
      refine lv_aload_n hx hb dX7_lateFirst_31 rfl (lv_at hl 0 rfl) ?_
      refine wg_X7_4 hx hb hts iX7 hown hK hP 0 rfl k1 (v := .ref (b 0)) rfl dX7_lateFirst_32 ?_
      refine lv_aload_n hx hb dX7_lateFirst_35 rfl (lv_at hl 0 rfl) ?_
      refine wg_X7_1 hx hb hts iX7 hown hK hP 0 rfl k3 (v := .ref (p 0)) rfl dX7_lateFirst_36 ?_
      refine wk_callUV (As := [.ref (p 0)]) (rest := []) ⟨hx, hb, hml, hown, hts⟩ (c_X0_passDay l D c b (passI π σ i) p π (hp) (passI_wf hp ha i)) (cwV 1 hts gX7_lateFirst_X0_passDay rfl rfl rfl hd_X0_passDay ⟨Nat.le_of_ble_eq_true rfl, Nat.le_of_ble_eq_true rfl⟩) hK hP hD hS hA [19, 20, 21, 22, 23, 24, 25, 26, 1, 2, 3, 4, 5, 6, 7, 8, 9, 10] [0, 11, 12, 13, 14, 15, 16, 17, 18] 27 rfl rfl [b 0, b 4, b 5, b 6, b 7, b 8, b 9, b 10, p 0, p 2, p 3, p 4, p (5 + 0), p (5 + 1), p (5 + 2), p (5 + 3), p (5 + 4), p (5 + 5)] rfl rfl (ws' := lwW x t p sp a b h g f o k ++ pageW c p π ++ affW c a σ ++ affW c b (passF π (passI π σ i))) rfl (wr := lwW x t p sp a b h g f o k ++ affW c a σ) rfl rfl rfl rfl 0 rfl rfl rfl hl.1 rfl (Nat.le_of_ble_eq_true rfl) dX7_lateFirst_39 (Nat.zero_le _) (Nat.zero_le _) (fun H locs hP hD hS => ?_)
      refine lv_pop hx hb dX7_lateFirst_42 rfl ?_
      refine lv_aload_n hx hb dX7_lateFirst_43 rfl (lv_at hl 0 rfl) ?_
      refine wg_X7_4 hx hb hts iX7 hown hK hP 0 rfl k1 (v := .ref (b 0)) rfl dX7_lateFirst_44 ?_
      refine lv_aload_n hx hb dX7_lateFirst_47 rfl (lv_at hl 0 rfl) ?_
      refine wg_X7_1 hx hb hts iX7 hown hK hP 0 rfl k3 (v := .ref (p 0)) rfl dX7_lateFirst_48 ?_
      refine wg_X5_1 hx hb hts iX5 hown hK hP 1 rfl k4 (v := .int (π 1 0)) rfl dX7_lateFirst_51 ?_
      refine wk_callRV (As := [.int (π 1 0)]) (rest := []) ⟨hx, hb, hml, hown, hts⟩ (c_X0_firstNewlyLate l D c b (passF π (passI π σ i)) (π 1 0) ((passI_wf hp ha (i + 1)).1)) (cwV 1 hts gX7_lateFirst_X0_firstNewlyLate rfl rfl rfl hd_X0_firstNewlyLate ⟨Nat.le_of_ble_eq_true rfl, Nat.le_of_ble_eq_true rfl⟩) hK hP [19, 20, 21, 22, 23, 24, 25, 26] rfl 0 rfl rfl rfl hl.1 rfl (Nat.le_of_ble_eq_true rfl) dX7_lateFirst_54 (Nat.zero_le _) (Nat.zero_le _) ?_
      refine wk_eqi (y := lfQ π (passF π (passI π σ i))) rfl ?_
      refine lv_istore_n (lv' := [(3, .int (lfQ π (passF π (passI π σ i)))), (0, .ref x), (1, .int x2), (2, .int (nI (i + 1)))]) hx hb dX7_lateFirst_57 rfl hl (by decide) rfl (fun ls hl => ?_)
      refine lv_iload_n hx hb dX7_lateFirst_58 rfl (lv_at hl 0 rfl) ?_
      refine lv_bipush (v := -9) hx hb dX7_lateFirst_59 (by decide) ?_
      refine lv_icmp_eq (tgt := 82) hx hb dX7_lateFirst_61 (by decide) (fun h4 => ?_) (fun h4 => ?_)
      · refine lv_iinc (v := nI ((i + 1) + 1)) (lv' := [(2, .int (nI ((i + 1) + 1))), (3, .int (lfQ π (passF π (passI π σ i)))), (0, .ref x), (1, .int x2)]) hx hb dX7_lateFirst_82 hl (k := 3) rfl (nI_inc (i + 1) 1) (by decide) rfl (fun ls hl => ?_)
        refine lv_goto (tgt := 24) hx hb dX7_lateFirst_85 (by decide) ?_
        have eg5 : passF π (passI π σ i) = passI π σ (i + 1) := by rfl
        have hP : va_P D vwCl (lwW x t p sp a b h g f o k ++ pageW c p π ++ affW c a σ ++ affW c b (passI π σ (i + 1))) H := by rw [← eg5]; exact hP
        have hD : va_D A (lwW x t p sp a b h g f o k ++ pageW c p π ++ affW c a σ ++ affW c b (passI π σ (i + 1))) := by rw [← eg5]; exact hD
        have hl : lv_has ls 4 [(0, .ref x), (1, .int x2), (2, .int (nI ((i + 1) + 1)))] := lv_sub hl [2, 3, 0] rfl
        exact ih24 (i + 1) (by omega) (by rw [← hv, show 200 - i = (200 - (i + 1)) + 1 by omega, lfL, if_pos (show lfQ π (passF π (passI π σ i)) = -9 from h4)]; rfl) (by omega) H _ hP hD hS ls hl
      have hf := (fn_ok (passF π (passI π σ i)) (π 1 0) (nQ (passF π (passI π σ i))) 0 (by have := (passI_wf hp ha (i + 1)).1.2; rw [Nat.zero_add]; exact this)).elim (fun e => absurd e h4) id
      refine lv_iload_n hx hb dX7_lateFirst_64 rfl (lv_at hl 2 rfl) ?_
      refine lv_if_ne (tgt := 72) hx hb dX7_lateFirst_65 (by decide) (fun h6 => ?_) (fun h6 => ?_)
      rotate_left
      · refine lv_iload_n hx hb dX7_lateFirst_68 rfl (lv_at hl 3 rfl) ?_
        refine lv_goto (tgt := 81) hx hb dX7_lateFirst_69 (by decide) ?_
        exact ret 81 ls H _ (nI (i + 1)) (passF π (passI π σ i)) π (by rw [lateFirstV, if_pos ⟨Int32.not_lt.mp h1, h2⟩, ← hv, show 200 - i = (200 - (i + 1)) + 1 by omega, lfL, if_neg (show ¬ lfQ π (passF π (passI π σ i)) = -9 from h4), if_pos h6]) hP hS dX7_lateFirst_81
      refine lv_aload_n hx hb dX7_lateFirst_72 rfl (lv_at hl 1 rfl) ?_
      refine wg_X7_4 hx hb hts iX7 hown hK hP 0 rfl k1 (v := .ref (b 0)) rfl dX7_lateFirst_73 ?_
      refine wg_X0_8 hx hb hts iX0 hown hK hP 19 rfl k5 (v := .ref (b 8)) rfl dX7_lateFirst_76 ?_
      refine lv_iload_n hx hb dX7_lateFirst_79 rfl (lv_at hl 0 rfl) ?_
      refine wk_ald (f := (passF π (passI π σ i)) 8) hx hb hK hP 24 0 rfl rfl ((lfQ π (passF π (passI π σ i))).toNatClampNeg) (hf.1) (hf.2) (by decide) dX7_lateFirst_80 ?_
      exact ret 81 ls H _ ((passF π (passI π σ i)) 8 ((lfQ π (passF π (passI π σ i))).toNatClampNeg)) (passF π (passI π σ i)) π (by rw [lateFirstV, if_pos ⟨Int32.not_lt.mp h1, h2⟩, ← hv, show 200 - i = (200 - (i + 1)) + 1 by omega, lfL, if_neg (show ¬ lfQ π (passF π (passI π σ i)) = -9 from h4), if_neg h6]) hP hS dX7_lateFirst_81
  have eg7 : σ = passI π σ 0 := by rfl
  have hP : va_P D vwCl (lwW x t p sp a b h g f o k ++ pageW c p π ++ affW c a σ ++ affW c b (passI π σ 0)) H := by rw [← eg7]; exact hP
  have hD : va_D A (lwW x t p sp a b h g f o k ++ pageW c p π ++ affW c a σ ++ affW c b (passI π σ 0)) := by rw [← eg7]; exact hD
  have hl : lv_has ls 4 [(0, .ref x), (1, .int x2), (2, .int 1)] := lv_sub hl [1, 2, 0] rfl
  have hl := wk_lset (y := nI (0 + 1)) (lv_sub (l' := [(2, .int 1), (0, .ref x), (1, .int x2)]) hl [2, 0, 1] rfl) (by rfl)
  have hl : lv_has ls 4 [(0, .ref x), (1, .int x2), (2, .int (nI (0 + 1)))] := lv_sub hl [1, 2, 0] rfl
  exact lp24 _ 0 (by omega) (rfl) (Nat.lt_succ_self _) H locs hP hD hS ls hl

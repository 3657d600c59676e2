abbrev rmX0_passDay : Room := { frames := 3, cells := 0, slots := 0, locals := 74 }
theorem hd_X0_passDay : yX0_passDay.cls = RX0 ∧ yX0_passDay.cls ≠ "java/lang/invoke/MethodHandle" ∧ yX0_passDay.cls ≠ "java/lang/invoke/VarHandle" ∧ (parseMethodDescriptor yX0_passDay.desc).map (fun d => d.parameters.length) = some 1 := by decide +kernel
set_option maxHeartbeats 4000000 in
set_option maxRecDepth 100000 in
theorem c_X0_passDay (l : Launch) (D : va_G) (c : Nat → ClassId) (a : Nat → Nat) (σ : Nat → Nat → Int32) (p : Nat → Nat) (π : Nat → Nat → Int32) (hp : wfP π) (ha : wfA π σ) : wk_UpI l yX0_passDay wsX0_passDay rmX0_passDay D (tysL c) [.ref (a 0), .ref (p 0)] (affW c a σ ++ pageW c p π) (affW c a (passF π σ) ++ pageW c p π) (passN π σ) := by
  refine wk_mkU (cc := cX0_passDay) (maxL := 5) (rt := .int) (by decide) rfl (Nat.le_of_ble_eq_true rfl) rfl ?_
  intro A pr ev ss mm args below meth cd ls H H0 Q hst hP hK hD hS hA hl ret
  obtain ⟨hx, hb, hml, hown, hts, -⟩ := hst
  have hown : ss.vm.findClass RX0 = some mm.cls := hown
  have hl : lv_has ls 5 [(0, .ref (a 0)), (1, .ref (p 0))] := hl
  have k1 := hts (.fieldLink RX0 69 "LastWord$Page" "writers" "I") (List.mem_of_getElem? (i := 1) rfl)
  have k3 := hts (.fieldLink RX0 33 "LastWord$Affairs" "today" "I") (List.mem_of_getElem? (i := 3) rfl)
  have k4 := hts (.fieldLink RX0 40 "LastWord$Affairs" "quarrels" "I") (List.mem_of_getElem? (i := 4) rfl)
  have k5 := hts (.fieldLink RX0 24 "LastWord$Affairs" "owes" "[I") (List.mem_of_getElem? (i := 5) rfl)
  have k2 := hts (.fieldLink RX0 27 "LastWord$Affairs" "work" "[I") (List.mem_of_getElem? (i := 2) rfl)
  have k7 := hts (.fieldLink RX0 81 "LastWord$Page" "term" "I") (List.mem_of_getElem? (i := 7) rfl)
  have k8 := hts (.fieldLink RX0 30 "LastWord$Affairs" "late" "[I") (List.mem_of_getElem? (i := 8) rfl)
  have k9 := hts (.fieldLink RX0 9 "LastWord$Affairs" "lateTimes" "[I") (List.mem_of_getElem? (i := 9) rfl)
  have k6 := hts (.fieldLink RX0 18 "LastWord$Affairs" "subject" "[I") (List.mem_of_getElem? (i := 6) rfl)
  have iX0 : ∀ w ∈ u_ws RX0 TX0 11, w ∈ wsX0_passDay := fun _ h => (List.mem_cons_of_mem _ (List.mem_append_right _ h))
  have iX5 : ∀ w ∈ u_ws RX5 TX5 5, w ∈ wsX0_passDay := fun _ h => (List.mem_cons_of_mem _ (List.mem_append_left _ (List.mem_append_right _ h)))
  have hq6 := ha.1.2
  have hn6 := hp.2.1
  have hnT : nQ (tickF (workA σ (nW π))) = nQ σ := nQ_of (workA_row σ _ 2 (by decide))
  have hq2 : (tickF (workA σ (nW π))) 2 0 = nI (nQ σ) := by rw [← hnT]; exact (tick_wf (workA_wf ha (nW π))).1.1
  refine lv_iconst (v := 0) hx hb dX0_passDay_0 (by decide) ?_
  refine lv_istore_n (lv' := [(2, .int 0), (0, .ref (a 0)), (1, .ref (p 0))]) hx hb dX0_passDay_1 rfl hl (by decide) rfl (fun ls hl => ?_)
  have lp2 : ∀ (n : Nat) (i : Nat), (i ≤ nW π) → nW π - i < n → ∀ (H : Heap) (locs : List Loc), va_P D vwCl (affW c a (workA σ i) ++ pageW c p π) H → va_D A (affW c a (workA σ i) ++ pageW c p π) → va_S A H0 H locs → ∀ ls : Array Slot, lv_has ls 5 [(0, .ref (a 0)), (1, .ref (p 0)), (2, .int (nI i))] → W pr l ev rmX0_passDay ss mm args below meth cd H locs 0 0 Q (F0 mm 2 ls []) := by
    intro n
    induction n with
    | zero => intro i hi hn; exact absurd hn (Nat.not_lt_zero _)
    | succ n ih =>
      intro i hi hn H locs hP hD hS ls hl
      have hwf := workA_wf ha i
      have hni : nQ (workA σ i) = nQ σ := nQ_of (workA_row σ i 2 (by decide))
      refine lv_iload_n hx hb dX0_passDay_2 rfl (lv_at hl 2 rfl) ?_
      refine lv_aload_n hx hb dX0_passDay_3 rfl (lv_at hl 1 rfl) ?_
      refine wg_X5_0 hx hb hts iX5 hown hK hP 8 rfl k1 rfl dX0_passDay_4 ?_
      refine wk_eqi (hp.1) ?_
      refine wk_ge (tgt := 38) hx hb i (nW π) rfl rfl (by omega) (by omega) dX0_passDay_7 (by decide) (fun h1 => ?_) (fun h1 => ?_)
      · have hiw : i = nW π := by omega
        subst hiw
        refine lv_aload_n hx hb dX0_passDay_38 rfl (lv_at hl 0 rfl) ?_
        refine lv_dup hx hb dX0_passDay_39 rfl ?_
        refine wg_X0_0 hx hb hts iX0 hown hK hP 0 rfl k3 rfl dX0_passDay_40 ?_
        refine lv_iconst (v := 1) hx hb dX0_passDay_43 (by decide) ?_
        refine lv_iadd hx hb dX0_passDay_44 ?_
        refine wp_X0_0 hx hb hts iX0 hown hK hP hD hS 0 rfl k3 (Nat.le_of_ble_eq_true rfl) dX0_passDay_45 (ws' := affW c a (va_up (workA σ (nW π)) 0 (fun _ => ((workA σ (nW π)) 0 0) + 1)) ++ pageW c p π) rfl (fun H locs hP hD hS => ?_)
        refine lv_iconst (v := 0) hx hb dX0_passDay_48 (by decide) ?_
        refine lv_istore_n (lv' := [(2, .int 0), (0, .ref (a 0)), (1, .ref (p 0))]) hx hb dX0_passDay_49 rfl hl (by decide) rfl (fun ls hl => ?_)
        refine lv_iconst (v := 0) hx hb dX0_passDay_50 (by decide) ?_
        refine lv_istore_n (lv' := [(3, .int 0), (2, .int 0), (0, .ref (a 0)), (1, .ref (p 0))]) hx hb dX0_passDay_51 rfl hl (by decide) rfl (fun ls hl => ?_)
        have lp52 : ∀ (n : Nat) (j : Nat), (j ≤ nQ σ) → nQ σ - j < n → ∀ (H : Heap) (locs : List Loc), va_P D vwCl (affW c a (dayA π (tickF (workA σ (nW π))) j) ++ pageW c p π) H → va_D A (affW c a (dayA π (tickF (workA σ (nW π))) j) ++ pageW c p π) → va_S A H0 H locs → ∀ ls : Array Slot, lv_has ls 5 [(0, .ref (a 0)), (1, .ref (p 0)), (2, .int (dayN π (tickF (workA σ (nW π))) j)), (3, .int (nI j))] → W pr l ev rmX0_passDay ss mm args below meth cd H locs 0 0 Q (F0 mm 52 ls []) := by
          intro n
          induction n with
          | zero => intro j hj hn; exact absurd hn (Nat.not_lt_zero _)
          | succ n ih =>
            intro j hj hn H locs hP hD hS ls hl
            have hwf := dayA_wf hp (tick_wf (workA_wf ha (nW π))) j (by rw [hnT]; omega)
            have hqi : dayA π (tickF (workA σ (nW π))) j 2 0 = nI (nQ σ) := by rw [dayA_2]; exact hq2
            have hni : nQ (dayA π (tickF (workA σ (nW π))) j) = nQ σ := (nQ_of (dayA_2 π _ j)).trans hnT
            refine lv_iload_n hx hb dX0_passDay_52 rfl (lv_at hl 3 rfl) ?_
            refine lv_aload_n hx hb dX0_passDay_53 rfl (lv_at hl 0 rfl) ?_
            refine wg_X0_2 hx hb hts iX0 hown hK hP 0 rfl k4 rfl dX0_passDay_54 ?_
            refine wk_eqi (hqi) ?_
            refine wk_ge (tgt := 149) hx hb j (nQ σ) rfl rfl (by omega) (by omega) dX0_passDay_57 (by decide) (fun h2 => ?_) (fun h2 => ?_)
            · refine lv_iload_n hx hb dX0_passDay_149 rfl (lv_at hl 2 rfl) ?_
              have eg3 : dayA π (tickF (workA σ (nW π))) j = passF π σ := by rw [passF, show j = nQ σ by omega]
              have hP : va_P D vwCl (affW c a (passF π σ) ++ pageW c p π) H := by rw [← eg3]; exact hP
              have hD : va_D A (affW c a (passF π σ) ++ pageW c p π) := by rw [← eg3]; exact hD
              exact ret 150 ls H _ (dayN π (tickF (workA σ (nW π))) j) (by rw [passN, show j = nQ σ by omega]) hP hS dX0_passDay_150
            refine lv_aload_n hx hb dX0_passDay_60 rfl (lv_at hl 0 rfl) ?_
            refine wg_X0_8 hx hb hts iX0 hown hK hP 0 rfl k5 rfl dX0_passDay_61 ?_
            refine lv_iload_n hx hb dX0_passDay_64 rfl (lv_at hl 3 rfl) ?_
            refine wk_ald hx hb hK hP 5 0 rfl rfl j rfl (by omega) (by decide) dX0_passDay_65 ?_
            refine lv_istore (lv' := [(4, .int ((dayA π (tickF (workA σ (nW π))) j) 8 j)), (0, .ref (a 0)), (1, .ref (p 0)), (2, .int (dayN π (tickF (workA σ (nW π))) j)), (3, .int (nI j))]) hx hb dX0_passDay_66 hl (by decide) rfl (fun ls hl => ?_)
            refine lv_iload hx hb dX0_passDay_68 (lv_at hl 0 rfl) ?_
            refine lv_bipush (v := -9) hx hb dX0_passDay_70 (by decide) ?_
            refine lv_icmp_ne (tgt := 78) hx hb dX0_passDay_72 (by decide) (fun h4 => ?_) (fun h4 => ?_)
            rotate_left
            · refine lv_goto (tgt := 143) hx hb dX0_passDay_75 (by decide) ?_
              refine lv_iinc (v := nI (j + 1)) (lv' := [(3, .int (nI (j + 1))), (4, .int ((dayA π (tickF (workA σ (nW π))) j) 8 j)), (0, .ref (a 0)), (1, .ref (p 0)), (2, .int (dayN π (tickF (workA σ (nW π))) j))]) hx hb dX0_passDay_143 hl (k := 4) rfl (nI_inc j 1) (by decide) rfl (fun ls hl => ?_)
              refine lv_goto (tgt := 52) hx hb dX0_passDay_146 (by decide) ?_
              have eg10 : dayA π (tickF (workA σ (nW π))) j = dayA π (tickF (workA σ (nW π))) (j + 1) := by first | rfl | (simp [dayA, dayT, dayN, onS, lateF, h1, h2, h4]; done)
              have hP : va_P D vwCl (affW c a (dayA π (tickF (workA σ (nW π))) (j + 1)) ++ pageW c p π) H := by rw [← eg10]; exact hP
              have hD : va_D A (affW c a (dayA π (tickF (workA σ (nW π))) (j + 1)) ++ pageW c p π) := by rw [← eg10]; exact hD
              have hl : lv_has ls 5 [(0, .ref (a 0)), (1, .ref (p 0)), (2, .int (dayN π (tickF (workA σ (nW π))) j)), (3, .int (nI (j + 1)))] := lv_sub hl [2, 3, 4, 0] rfl
              have hl := wk_lset (y := dayN π (tickF (workA σ (nW π))) (j + 1)) (lv_sub (l' := [(2, .int (dayN π (tickF (workA σ (nW π))) j)), (0, .ref (a 0)), (1, .ref (p 0)), (3, .int (nI (j + 1)))]) hl [2, 0, 1, 3] rfl) (by first | rfl | (simp [dayA, dayT, dayN, onS, lateF, h1, h2, h4]; done))
              have hl : lv_has ls 5 [(0, .ref (a 0)), (1, .ref (p 0)), (2, .int (dayN π (tickF (workA σ (nW π))) (j + 1))), (3, .int (nI (j + 1)))] := lv_sub hl [1, 2, 0, 3] rfl
              exact ih (j + 1) (by omega) (by omega) H _ hP hD hS ls hl
            have ho : ixOK ((dayA π (tickF (workA σ (nW π))) j) 8 j) (nW π) := ((hwf.2 j (by omega)).2).elim (fun e => absurd e h4) id
            refine lv_aload_n hx hb dX0_passDay_78 rfl (lv_at hl 1 rfl) ?_
            refine wg_X0_9 hx hb hts iX0 hown hK hP 0 rfl k2 rfl dX0_passDay_79 ?_
            refine lv_iload_n hx hb dX0_passDay_82 rfl (lv_at hl 4 rfl) ?_
            refine wk_ald hx hb hK hP 6 0 rfl rfl j rfl (by omega) (by decide) dX0_passDay_83 ?_
            refine lv_if_ne (tgt := 113) hx hb dX0_passDay_84 (by decide) (fun h5 => ?_) (fun h5 => ?_)
            rotate_left
            · refine lv_aload_n hx hb dX0_passDay_87 rfl (lv_at hl 1 rfl) ?_
              refine lv_aload_n hx hb dX0_passDay_88 rfl (lv_at hl 2 rfl) ?_
              refine lv_iload_n hx hb dX0_passDay_89 rfl (lv_at hl 4 rfl) ?_
              refine lv_iload hx hb dX0_passDay_90 (lv_at hl 0 rfl) ?_
              refine lv_aload_n hx hb dX0_passDay_92 rfl (lv_at hl 2 rfl) ?_
              refine lv_iload hx hb dX0_passDay_93 (lv_at hl 0 rfl) ?_
              refine wk_eqi (ho.1) ?_
              refine lv_aload_n hx hb dX0_passDay_95 rfl (lv_at hl 1 rfl) ?_
              refine wg_X0_6 hx hb hts iX0 hown hK hP 0 rfl k6 rfl dX0_passDay_96 ?_
              refine lv_iload_n hx hb dX0_passDay_99 rfl (lv_at hl 4 rfl) ?_
              refine wk_ald hx hb hK hP 3 0 rfl rfl j rfl (by omega) (by decide) dX0_passDay_100 ?_
              refine wk_eqi ((hwf.2 j (by omega)).1.1) ?_
              refine wk_callRV (As := [.int (nI (((dayA π (tickF (workA σ (nW π))) j) 8 j).toNatClampNeg)), .int (nI (((dayA π (tickF (workA σ (nW π))) j) 6 j).toNatClampNeg))]) (rest := [.int ((dayA π (tickF (workA σ (nW π))) j) 8 j), .int (nI j), .ref (p 0), .ref (a 0)]) ⟨hx, hb, hml, hown, hts⟩ (c_X5_answerOn l D c p π (((dayA π (tickF (workA σ (nW π))) j) 8 j).toNatClampNeg) (((dayA π (tickF (workA σ (nW π))) j) 6 j).toNatClampNeg) (Nat.lt_of_lt_of_le ho.2 hn6)) (cwV 2 hts gX0_passDay_X5_answerOn rfl rfl rfl hd_X5_answerOn ⟨Nat.le_of_ble_eq_true rfl, Nat.le_of_ble_eq_true rfl⟩) hK hP [8, 9, 10, 11, 12, 13, 14, 15, 16, 17] rfl 0 rfl rfl rfl hl.1 rfl (Nat.le_of_ble_eq_true rfl) dX0_passDay_101 (Nat.zero_le _) (Nat.zero_le _) ?_
              refine wk_eqi (y := onS π (dayA π (tickF (workA σ (nW π))) j) j) rfl ?_
              have hs5 := onS_ok hp hwf (show j < nQ (dayA π (tickF (workA σ (nW π))) j) by omega) h4
              refine wk_eqi (hs5.1) ?_
              refine wk_callVV (As := [.ref (p 0), .int (nI j), .int ((dayA π (tickF (workA σ (nW π))) j) 8 j), .int (nI ((onS π (dayA π (tickF (workA σ (nW π))) j) j).toNatClampNeg))]) (rest := []) ⟨hx, hb, hml, hown, hts⟩ (c_X0_print l D c a (dayA π (tickF (workA σ (nW π))) j) p π j ((dayA π (tickF (workA σ (nW π))) j) 8 j) ((onS π (dayA π (tickF (workA σ (nW π))) j) j).toNatClampNeg) (hp) (by omega) (hs5.2)) (cwV 4 hts gX0_passDay_X0_print rfl rfl rfl hd_X0_print ⟨Nat.le_of_ble_eq_true rfl, Nat.le_of_ble_eq_true rfl⟩) hK hP hD hS hA [0, 1, 2, 3, 4, 5, 6, 7, 8, 9, 10, 11, 12, 13, 14, 15, 16, 17] [] 18 rfl rfl rfl (ws' := affW c a (printF π (dayA π (tickF (workA σ (nW π))) j) j ((dayA π (tickF (workA σ (nW π))) j) 8 j) ((onS π (dayA π (tickF (workA σ (nW π))) j) j).toNatClampNeg)) ++ pageW c p π) rfl rfl rfl rfl 0 rfl rfl rfl hl.1 rfl (Nat.le_of_ble_eq_true rfl) dX0_passDay_104 (Nat.zero_le _) (Nat.zero_le _) (fun H locs hP hD hS => ?_)
              refine lv_iinc (v := dayN π (tickF (workA σ (nW π))) j + 1) (lv' := [(2, .int (dayN π (tickF (workA σ (nW π))) j + 1)), (4, .int ((dayA π (tickF (workA σ (nW π))) j) 8 j)), (0, .ref (a 0)), (1, .ref (p 0)), (3, .int (nI j))]) hx hb dX0_passDay_107 hl (k := 3) rfl (rfl) (by decide) rfl (fun ls hl => ?_)
              refine lv_goto (tgt := 143) hx hb dX0_passDay_110 (by decide) ?_
              refine lv_iinc (v := nI (j + 1)) (lv' := [(3, .int (nI (j + 1))), (2, .int (dayN π (tickF (workA σ (nW π))) j + 1)), (4, .int ((dayA π (tickF (workA σ (nW π))) j) 8 j)), (0, .ref (a 0)), (1, .ref (p 0))]) hx hb dX0_passDay_143 hl (k := 4) rfl (nI_inc j 1) (by decide) rfl (fun ls hl => ?_)
              refine lv_goto (tgt := 52) hx hb dX0_passDay_146 (by decide) ?_
              have eg9 : printF π (dayA π (tickF (workA σ (nW π))) j) j ((dayA π (tickF (workA σ (nW π))) j) 8 j) ((onS π (dayA π (tickF (workA σ (nW π))) j) j).toNatClampNeg) = dayA π (tickF (workA σ (nW π))) (j + 1) := by first | rfl | (simp [dayA, dayT, dayN, onS, lateF, h1, h2, h4, h5]; done)
              have hP : va_P D vwCl (affW c a (dayA π (tickF (workA σ (nW π))) (j + 1)) ++ pageW c p π) H := by rw [← eg9]; exact hP
              have hD : va_D A (affW c a (dayA π (tickF (workA σ (nW π))) (j + 1)) ++ pageW c p π) := by rw [← eg9]; exact hD
              have hl : lv_has ls 5 [(0, .ref (a 0)), (1, .ref (p 0)), (2, .int (dayN π (tickF (workA σ (nW π))) j + 1)), (3, .int (nI (j + 1)))] := lv_sub hl [3, 4, 1, 0] rfl
              have hl := wk_lset (y := dayN π (tickF (workA σ (nW π))) (j + 1)) (lv_sub (l' := [(2, .int (dayN π (tickF (workA σ (nW π))) j + 1)), (0, .ref (a 0)), (1, .ref (p 0)), (3, .int (nI (j + 1)))]) hl [2, 0, 1, 3] rfl) (by first | rfl | (simp [dayA, dayT, dayN, onS, lateF, h1, h2, h4, h5]; done))
              have hl : lv_has ls 5 [(0, .ref (a 0)), (1, .ref (p 0)), (2, .int (dayN π (tickF (workA σ (nW π))) (j + 1))), (3, .int (nI (j + 1)))] := lv_sub hl [1, 2, 0, 3] rfl
              exact ih (j + 1) (by omega) (by omega) H _ hP hD hS ls hl
            refine lv_aload_n hx hb dX0_passDay_113 rfl (lv_at hl 1 rfl) ?_
            refine lv_iload_n hx hb dX0_passDay_114 rfl (lv_at hl 4 rfl) ?_
            refine lv_aload_n hx hb dX0_passDay_115 rfl (lv_at hl 2 rfl) ?_
            refine wg_X5_1 hx hb hts iX5 hown hK hP 8 rfl k7 rfl dX0_passDay_116 ?_
            refine wk_callRV (As := [.int (nI j), .int (π 1 0)]) (rest := []) ⟨hx, hb, hml, hown, hts⟩ (c_X0_turnsLate l D c a (dayA π (tickF (workA σ (nW π))) j) j (π 1 0) (by omega)) (cwV 2 hts gX0_passDay_X0_turnsLate rfl rfl rfl hd_X0_turnsLate ⟨Nat.le_of_ble_eq_true rfl, Nat.le_of_ble_eq_true rfl⟩) hK hP [0, 1, 2, 3, 4, 5, 6, 7] rfl 0 rfl rfl rfl hl.1 rfl (Nat.le_of_ble_eq_true rfl) dX0_passDay_119 (Nat.zero_le _) (Nat.zero_le _) ?_
            refine wk_bz (tgt := 143) hx hb dX0_passDay_122 (by decide) (fun h6 => ?_) (fun h6 => ?_)
            · refine lv_iinc (v := nI (j + 1)) (lv' := [(3, .int (nI (j + 1))), (4, .int ((dayA π (tickF (workA σ (nW π))) j) 8 j)), (0, .ref (a 0)), (1, .ref (p 0)), (2, .int (dayN π (tickF (workA σ (nW π))) j))]) hx hb dX0_passDay_143 hl (k := 4) rfl (nI_inc j 1) (by decide) rfl (fun ls hl => ?_)
              refine lv_goto (tgt := 52) hx hb dX0_passDay_146 (by decide) ?_
              have eg7 : dayA π (tickF (workA σ (nW π))) j = dayA π (tickF (workA σ (nW π))) (j + 1) := by first | rfl | (simp [dayA, dayT, dayN, onS, lateF, h1, h2, h4, h5, h6]; done)
              have hP : va_P D vwCl (affW c a (dayA π (tickF (workA σ (nW π))) (j + 1)) ++ pageW c p π) H := by rw [← eg7]; exact hP
              have hD : va_D A (affW c a (dayA π (tickF (workA σ (nW π))) (j + 1)) ++ pageW c p π) := by rw [← eg7]; exact hD
              have hl : lv_has ls 5 [(0, .ref (a 0)), (1, .ref (p 0)), (2, .int (dayN π (tickF (workA σ (nW π))) j)), (3, .int (nI (j + 1)))] := lv_sub hl [2, 3, 4, 0] rfl
              have hl := wk_lset (y := dayN π (tickF (workA σ (nW π))) (j + 1)) (lv_sub (l' := [(2, .int (dayN π (tickF (workA σ (nW π))) j)), (0, .ref (a 0)), (1, .ref (p 0)), (3, .int (nI (j + 1)))]) hl [2, 0, 1, 3] rfl) (by first | rfl | (simp [dayA, dayT, dayN, onS, lateF, h1, h2, h4, h5, h6]; done))
              have hl : lv_has ls 5 [(0, .ref (a 0)), (1, .ref (p 0)), (2, .int (dayN π (tickF (workA σ (nW π))) (j + 1))), (3, .int (nI (j + 1)))] := lv_sub hl [1, 2, 0, 3] rfl
              exact ih (j + 1) (by omega) (by omega) H _ hP hD hS ls hl
            refine lv_aload_n hx hb dX0_passDay_125 rfl (lv_at hl 1 rfl) ?_
            refine wg_X0_10 hx hb hts iX0 hown hK hP 0 rfl k8 rfl dX0_passDay_126 ?_
            refine lv_iload_n hx hb dX0_passDay_129 rfl (lv_at hl 4 rfl) ?_
            refine lv_iconst (v := 1) hx hb dX0_passDay_130 (by decide) ?_
            refine wk_ast hx hb hK hP hD hS 7 0 rfl rfl j rfl (by omega) (by decide) dX0_passDay_131 (ws' := affW c a (va_up (dayA π (tickF (workA σ (nW π))) j) 10 (upd ((dayA π (tickF (workA σ (nW π))) j) 10) j 1)) ++ pageW c p π) rfl (fun H locs hP hD hS => ?_)
            refine lv_aload_n hx hb dX0_passDay_132 rfl (lv_at hl 1 rfl) ?_
            refine wg_X0_4 hx hb hts iX0 hown hK hP 0 rfl k9 rfl dX0_passDay_133 ?_
            refine lv_iload hx hb dX0_passDay_136 (lv_at hl 0 rfl) ?_
            refine wk_eqi (ho.1) ?_
            refine lv_dup2_11 hx hb dX0_passDay_138 rfl rfl ?_
            refine wk_ald hx hb hK hP 1 0 rfl rfl (((dayA π (tickF (workA σ (nW π))) j) 8 j).toNatClampNeg) rfl (Nat.lt_of_lt_of_le ho.2 hn6) (by decide) dX0_passDay_139 ?_
            refine lv_iconst (v := 1) hx hb dX0_passDay_140 (by decide) ?_
            refine lv_iadd hx hb dX0_passDay_141 ?_
            refine wk_ast hx hb hK hP hD hS 1 0 rfl rfl (((dayA π (tickF (workA σ (nW π))) j) 8 j).toNatClampNeg) rfl (Nat.lt_of_lt_of_le ho.2 hn6) (by decide) dX0_passDay_142 (ws' := affW c a (va_up (va_up (dayA π (tickF (workA σ (nW π))) j) 10 (upd ((dayA π (tickF (workA σ (nW π))) j) 10) j 1)) 4 (upd ((dayA π (tickF (workA σ (nW π))) j) 4) (((dayA π (tickF (workA σ (nW π))) j) 8 j).toNatClampNeg) (((dayA π (tickF (workA σ (nW π))) j) 4 (((dayA π (tickF (workA σ (nW π))) j) 8 j).toNatClampNeg)) + 1))) ++ pageW c p π) rfl (fun H locs hP hD hS => ?_)
            refine lv_iinc (v := nI (j + 1)) (lv' := [(3, .int (nI (j + 1))), (4, .int ((dayA π (tickF (workA σ (nW π))) j) 8 j)), (0, .ref (a 0)), (1, .ref (p 0)), (2, .int (dayN π (tickF (workA σ (nW π))) j))]) hx hb dX0_passDay_143 hl (k := 4) rfl (nI_inc j 1) (by decide) rfl (fun ls hl => ?_)
            refine lv_goto (tgt := 52) hx hb dX0_passDay_146 (by decide) ?_
            have eg8 : va_up (va_up (dayA π (tickF (workA σ (nW π))) j) 10 (upd ((dayA π (tickF (workA σ (nW π))) j) 10) j 1)) 4 (upd ((dayA π (tickF (workA σ (nW π))) j) 4) (((dayA π (tickF (workA σ (nW π))) j) 8 j).toNatClampNeg) (((dayA π (tickF (workA σ (nW π))) j) 4 (((dayA π (tickF (workA σ (nW π))) j) 8 j).toNatClampNeg)) + 1)) = dayA π (tickF (workA σ (nW π))) (j + 1) := by first | rfl | (simp [dayA, dayT, dayN, onS, lateF, h1, h2, h4, h5, h6]; done)
            have hP : va_P D vwCl (affW c a (dayA π (tickF (workA σ (nW π))) (j + 1)) ++ pageW c p π) H := by rw [← eg8]; exact hP
            have hD : va_D A (affW c a (dayA π (tickF (workA σ (nW π))) (j + 1)) ++ pageW c p π) := by rw [← eg8]; exact hD
            have hl : lv_has ls 5 [(0, .ref (a 0)), (1, .ref (p 0)), (2, .int (dayN π (tickF (workA σ (nW π))) j)), (3, .int (nI (j + 1)))] := lv_sub hl [2, 3, 4, 0] rfl
            have hl := wk_lset (y := dayN π (tickF (workA σ (nW π))) (j + 1)) (lv_sub (l' := [(2, .int (dayN π (tickF (workA σ (nW π))) j)), (0, .ref (a 0)), (1, .ref (p 0)), (3, .int (nI (j + 1)))]) hl [2, 0, 1, 3] rfl) (by first | rfl | (simp [dayA, dayT, dayN, onS, lateF, h1, h2, h4, h5, h6]; done))
            have hl : lv_has ls 5 [(0, .ref (a 0)), (1, .ref (p 0)), (2, .int (dayN π (tickF (workA σ (nW π))) (j + 1))), (3, .int (nI (j + 1)))] := lv_sub hl [1, 2, 0, 3] rfl
            exact ih (j + 1) (by omega) (by omega) H _ hP hD hS ls hl
        have eg11 : va_up (workA σ (nW π)) 0 (fun _ => ((workA σ (nW π)) 0 0) + 1) = dayA π (tickF (workA σ (nW π))) 0 := by first | rfl | (simp [dayA, dayT, dayN, onS, lateF, h1]; done)
        have hP : va_P D vwCl (affW c a (dayA π (tickF (workA σ (nW π))) 0) ++ pageW c p π) H := by rw [← eg11]; exact hP
        have hD : va_D A (affW c a (dayA π (tickF (workA σ (nW π))) 0) ++ pageW c p π) := by rw [← eg11]; exact hD
        have hl : lv_has ls 5 [(0, .ref (a 0)), (1, .ref (p 0)), (2, .int 0), (3, .int 0)] := lv_sub hl [2, 3, 1, 0] rfl
        have hl := wk_lset (y := dayN π (tickF (workA σ (nW π))) 0) (lv_sub (l' := [(2, .int 0), (0, .ref (a 0)), (1, .ref (p 0)), (3, .int 0)]) hl [2, 0, 1, 3] rfl) (by first | rfl | (simp [dayA, dayT, dayN, onS, lateF, h1]; done))
        have hl : lv_has ls 5 [(0, .ref (a 0)), (1, .ref (p 0)), (2, .int (dayN π (tickF (workA σ (nW π))) 0)), (3, .int 0)] := lv_sub hl [1, 2, 0, 3] rfl
        have hl := wk_lset (y := nI 0) (lv_sub (l' := [(3, .int 0), (0, .ref (a 0)), (1, .ref (p 0)), (2, .int (dayN π (tickF (workA σ (nW π))) 0))]) hl [3, 0, 1, 2] rfl) (by first | rfl | (simp [dayA, dayT, dayN, onS, lateF, h1]; done))
        have hl : lv_has ls 5 [(0, .ref (a 0)), (1, .ref (p 0)), (2, .int (dayN π (tickF (workA σ (nW π))) 0)), (3, .int (nI 0))] := lv_sub hl [1, 2, 3, 0] rfl
        exact lp52 _ 0 (by omega) (Nat.lt_succ_self _) H locs hP hD hS ls hl
      refine lv_aload_n hx hb dX0_passDay_10 rfl (lv_at hl 0 rfl) ?_
      refine lv_iload_n hx hb dX0_passDay_11 rfl (lv_at hl 2 rfl) ?_
      refine wk_callRV (As := [.int (nI i)]) (rest := []) ⟨hx, hb, hml, hown, hts⟩ (c_X0_onDeskOf l D c a (workA σ i) (nI i) (hwf.1)) (cwV 1 hts gX0_passDay_X0_onDeskOf rfl rfl rfl hd_X0_onDeskOf ⟨Nat.le_of_ble_eq_true rfl, Nat.le_of_ble_eq_true rfl⟩) hK hP [0, 1, 2, 3, 4, 5, 6, 7] rfl 0 rfl rfl rfl hl.1 rfl (Nat.le_of_ble_eq_true rfl) dX0_passDay_12 (Nat.zero_le _) (Nat.zero_le _) ?_
      refine wk_eqi (y := workQ (workA σ i) i) rfl ?_
      refine lv_istore_n (lv' := [(3, .int (workQ (workA σ i) i)), (0, .ref (a 0)), (1, .ref (p 0)), (2, .int (nI i))]) hx hb dX0_passDay_15 rfl hl (by decide) rfl (fun ls hl => ?_)
      refine lv_iload_n hx hb dX0_passDay_16 rfl (lv_at hl 0 rfl) ?_
      refine lv_bipush (v := -9) hx hb dX0_passDay_17 (by decide) ?_
      refine lv_icmp_eq (tgt := 32) hx hb dX0_passDay_19 (by decide) (fun h12 => ?_) (fun h12 => ?_)
      · refine lv_iinc (v := nI (i + 1)) (lv' := [(2, .int (nI (i + 1))), (3, .int (workQ (workA σ i) i)), (0, .ref (a 0)), (1, .ref (p 0))]) hx hb dX0_passDay_32 hl (k := 3) rfl (nI_inc i 1) (by decide) rfl (fun ls hl => ?_)
        refine lv_goto (tgt := 2) hx hb dX0_passDay_35 (by decide) ?_
        have eg13 : workA σ i = workA σ (i + 1) := by first | rfl | (rw [workA, workS]; first | rw [if_pos h12] | rw [if_neg h12])
        have hP : va_P D vwCl (affW c a (workA σ (i + 1)) ++ pageW c p π) H := by rw [← eg13]; exact hP
        have hD : va_D A (affW c a (workA σ (i + 1)) ++ pageW c p π) := by rw [← eg13]; exact hD
        have hl : lv_has ls 5 [(0, .ref (a 0)), (1, .ref (p 0)), (2, .int (nI (i + 1)))] := lv_sub hl [2, 3, 0] rfl
        exact ih (i + 1) (by omega) (by omega) H _ hP hD hS ls hl
      have ho : ixOK (workQ (workA σ i) i) 6 := (od_ok (workA σ i 8) (workA σ i 7) (nI i) (nQ (workA σ i)) (by omega)).elim (fun e => absurd e h12) (fun e => ix_mono e (by omega))
      refine lv_aload_n hx hb dX0_passDay_22 rfl (lv_at hl 1 rfl) ?_
      refine wg_X0_9 hx hb hts iX0 hown hK hP 0 rfl k2 rfl dX0_passDay_23 ?_
      refine lv_iload_n hx hb dX0_passDay_26 rfl (lv_at hl 0 rfl) ?_
      refine wk_eqi (ho.1) ?_
      refine lv_dup2_11 hx hb dX0_passDay_27 rfl rfl ?_
      refine wk_ald hx hb hK hP 6 0 rfl rfl ((workQ (workA σ i) i).toNatClampNeg) rfl (ho.2) (by decide) dX0_passDay_28 ?_
      refine lv_iconst (v := 1) hx hb dX0_passDay_29 (by decide) ?_
      refine lv_isub hx hb dX0_passDay_30 ?_
      refine wk_ast hx hb hK hP hD hS 6 0 rfl rfl ((workQ (workA σ i) i).toNatClampNeg) rfl (ho.2) (by decide) dX0_passDay_31 (ws' := affW c a (va_up (workA σ i) 9 (upd ((workA σ i) 9) ((workQ (workA σ i) i).toNatClampNeg) (((workA σ i) 9 ((workQ (workA σ i) i).toNatClampNeg)) - 1))) ++ pageW c p π) rfl (fun H locs hP hD hS => ?_)
      refine lv_iinc (v := nI (i + 1)) (lv' := [(2, .int (nI (i + 1))), (3, .int (workQ (workA σ i) i)), (0, .ref (a 0)), (1, .ref (p 0))]) hx hb dX0_passDay_32 hl (k := 3) rfl (nI_inc i 1) (by decide) rfl (fun ls hl => ?_)
      refine lv_goto (tgt := 2) hx hb dX0_passDay_35 (by decide) ?_
      have eg14 : va_up (workA σ i) 9 (upd ((workA σ i) 9) ((workQ (workA σ i) i).toNatClampNeg) (((workA σ i) 9 ((workQ (workA σ i) i).toNatClampNeg)) - 1)) = workA σ (i + 1) := by first | rfl | (rw [workA, workS]; first | rw [if_pos h12] | rw [if_neg h12])
      have hP : va_P D vwCl (affW c a (workA σ (i + 1)) ++ pageW c p π) H := by rw [← eg14]; exact hP
      have hD : va_D A (affW c a (workA σ (i + 1)) ++ pageW c p π) := by rw [← eg14]; exact hD
      have hl : lv_has ls 5 [(0, .ref (a 0)), (1, .ref (p 0)), (2, .int (nI (i + 1)))] := lv_sub hl [2, 3, 0] rfl
      exact ih (i + 1) (by omega) (by omega) H _ hP hD hS ls hl
  have eg15 : σ = workA σ 0 := by first | rfl | (rw [workA, workS]; first | rw [if_pos %L] | rw [if_neg %L])
  have hP : va_P D vwCl (affW c a (workA σ 0) ++ pageW c p π) H := by rw [← eg15]; exact hP
  have hD : va_D A (affW c a (workA σ 0) ++ pageW c p π) := by rw [← eg15]; exact hD
  have hl : lv_has ls 5 [(0, .ref (a 0)), (1, .ref (p 0)), (2, .int 0)] := lv_sub hl [1, 2, 0] rfl
  have hl := wk_lset (y := nI 0) (lv_sub (l' := [(2, .int 0), (0, .ref (a 0)), (1, .ref (p 0))]) hl [2, 0, 1] rfl) (by first | rfl | (rw [workA, workS]; first | rw [if_pos %L] | rw [if_neg %L]))
  have hl : lv_has ls 5 [(0, .ref (a 0)), (1, .ref (p 0)), (2, .int (nI 0))] := lv_sub hl [1, 2, 0] rfl
  exact lp2 _ 0 (by omega) (Nat.lt_succ_self _) H _ hP hD hS ls hl

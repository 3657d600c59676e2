/-! ===== LastWordModel, walked: isInTime, keeps ===== -/
abbrev rmX8_isInTime : Room := { frames := 1, cells := 0, slots := 0, locals := 22 }
theorem hd_X8_isInTime : yX8_isInTime.cls = RX8 ∧ yX8_isInTime.cls ≠ "java/lang/invoke/MethodHandle" ∧ yX8_isInTime.cls ≠ "java/lang/invoke/VarHandle" ∧ (parseMethodDescriptor yX8_isInTime.desc).map (fun d => d.parameters.length) = some 1 := by decide +kernel
set_option maxHeartbeats 4000000 in
set_option maxRecDepth 100000 in
theorem c_X8_isInTime (l : Launch) (D : va_G) (c : Nat → ClassId) (ad : Nat → Nat) (μ : Nat → Nat → Int32) (r : Int64) (k : Nat) (hQ : wfQM μ) (hk : k < 2 ^ qM μ) : wk_RdI l yX8_isInTime wsX8_isInTime rmX8_isInTime D (tysL c) [.ref (ad 0), .int (nI k)] (modelW c ad μ r) (if itB μ k then 1 else 0) := by
  refine wk_mkR (cc := cX8_isInTime) (maxL := 7) (rt := .boolean) (by decide) rfl (Nat.le_of_ble_eq_true rfl) wk_narZ ?_
  intro pr ev ss mm args below meth cd ls H Q hst hP hK hl ret
  obtain ⟨hx, hb, hml, hown, hts, -⟩ := hst
  have hown : ss.vm.findClass RX8 = some mm.cls := hown
  have hl : lv_has ls 7 [(0, .ref (ad 0)), (1, .int (nI k))] := hl
  have k1 := hts (.fieldLink RX8 19 "LastWordModel" "now" "[I") (List.mem_of_getElem? (i := 1) rfl)
  have k2 := hts (.fieldLink RX8 16 "LastWordModel" "paper" "[I") (List.mem_of_getElem? (i := 2) rfl)
  have iX8 : ∀ w ∈ u_ws RX8 TX8 18, w ∈ wsX8_isInTime := fun _ h => (List.mem_cons_of_mem _ (List.mem_append_right _ h))
  have hQ6 := hQ.2
  refine lv_iload_n hx hb dX8_isInTime_0 rfl (lv_at hl 1 rfl) ?_
  refine lv_istore_n (lv' := [(2, .int (nI k)), (0, .ref (ad 0)), (1, .int (nI k))]) hx hb dX8_isInTime_1 rfl hl (by decide) rfl (fun ls hl => ?_)
  refine lv_aload_n hx hb dX8_isInTime_2 rfl (lv_at hl 1 rfl) ?_
  refine wg_X8_8 hx hb hts iX8 hown hK hP 0 rfl k1 (v := .ref (ad 8)) rfl dX8_isInTime_3 ?_
  refine lv_iconst (v := 0) hx hb dX8_isInTime_6 (by decide) ?_
  refine wk_ald (f := μ 8) hx hb hK hP 4 0 rfl rfl 0 rfl (by omega) (by decide) dX8_isInTime_7 ?_
  refine lv_istore_n (lv' := [(3, .int (μ 8 0)), (2, .int (nI k)), (0, .ref (ad 0)), (1, .int (nI k))]) hx hb dX8_isInTime_8 rfl hl (by decide) rfl (fun ls hl => ?_)
  refine lv_iconst (v := 1) hx hb dX8_isInTime_9 (by decide) ?_
  refine lv_istore (lv' := [(4, .int 1), (3, .int (μ 8 0)), (2, .int (nI k)), (0, .ref (ad 0)), (1, .int (nI k))]) hx hb dX8_isInTime_10 hl (by decide) rfl (fun ls hl => ?_)
  have lp12 : ∀ (n : Nat) (j : Nat) (v : Int32) (b : Int32) (f : Nat), (j < 2 ^ qM μ) → (j < f) → (f ≤ 64) → (b = 0 → itL μ 64 k (μ 8 0) = false) → (b ≠ 0 → b = 1 ∧ itL μ f j v = itL μ 64 k (μ 8 0)) → j < n → ∀ ls : Array Slot, lv_has ls 7 [(0, .ref (ad 0)), (2, .int (nI j)), (3, .int v), (4, .int b)] → W pr l ev rmX8_isInTime ss mm args below meth cd H [] 0 0 Q (F0 mm 12 ls []) := by
    intro n
    induction n with
    | zero => intro j v b f hj hf hf64 hb0 hb1 hn; exact absurd hn (Nat.not_lt_zero _)
    | succ n ih12 =>
      intro j v b f hj hf hf64 hb0 hb1 hn ls hl
      refine lv_iload_n hx hb dX8_isInTime_12 rfl (lv_at hl 1 rfl) ?_
      refine lv_if_eq (tgt := 135) hx hb dX8_isInTime_13 (by decide) (fun h1 => ?_) (fun h1 => ?_)
      · refine lv_iload hx hb dX8_isInTime_135 (lv_at hl 3 rfl) ?_
        exact ret 137 ls b (it_end0 hb0 hb1 ((nI_eq (a := j) (b := 0) (by have := itQ_64 hQ hj; omega) (by omega)).mp h1) hf) dX8_isInTime_137
      refine lv_iload hx hb dX8_isInTime_16 (lv_at hl 3 rfl) ?_
      refine lv_if_eq (tgt := 135) hx hb dX8_isInTime_18 (by decide) (fun h2 => ?_) (fun h2 => ?_)
      · refine lv_iload hx hb dX8_isInTime_135 (lv_at hl 3 rfl) ?_
        exact ret 137 ls b (it_end1 hb0 h2) dX8_isInTime_137
      have hz : j ≠ 0 := fun e => h1 (by rw [e]; rfl)
      have hbn := h2
      have hj64 := itQ_64 hQ hj
      have hqx := itQ_ok hQ hj hz
      have hq2 := hqx.1.2
      have hlt := itQ_lt hQ hj hz
      refine lv_bipush (v := -9) hx hb dX8_isInTime_21 (by decide) ?_
      refine lv_istore (lv' := [(5, .int ((-9))), (0, .ref (ad 0)), (2, .int (nI j)), (3, .int v), (4, .int b)]) hx hb dX8_isInTime_23 hl (by decide) rfl (fun ls hl => ?_)
      refine lv_iconst (v := 0) hx hb dX8_isInTime_25 (by decide) ?_
      refine lv_istore (lv' := [(6, .int 0), (5, .int ((-9))), (0, .ref (ad 0)), (2, .int (nI j)), (3, .int v), (4, .int b)]) hx hb dX8_isInTime_26 hl (by decide) rfl (fun ls hl => ?_)
      have lp28 : ∀ (n : Nat) (i : Nat), (i ≤ qM μ) → qM μ - i < n → ∀ ls : Array Slot, lv_has ls 7 [(0, .ref (ad 0)), (2, .int (nI j)), (3, .int v), (5, .int (itF μ (nI j) i)), (6, .int (nI i))] → W pr l ev rmX8_isInTime ss mm args below meth cd H [] 0 0 Q (F0 mm 28 ls []) := by
        intro n
        induction n with
        | zero => intro i hi hn; exact absurd hn (Nat.not_lt_zero _)
        | succ n ih28 =>
          intro i hi hn ls hl
          refine lv_iload hx hb dX8_isInTime_28 (lv_at hl 4 rfl) ?_
          refine lv_aload_n hx hb dX8_isInTime_30 rfl (lv_at hl 0 rfl) ?_
          refine wg_X8_8 hx hb hts iX8 hown hK hP 0 rfl k1 (v := .ref (ad 8)) rfl dX8_isInTime_31 ?_
          refine lv_iconst (v := 1) hx hb dX8_isInTime_34 (by decide) ?_
          refine wk_ald (f := μ 8) hx hb hK hP 4 0 rfl rfl 1 rfl (by omega) (by decide) dX8_isInTime_35 ?_
          refine wk_eqi (y := nI (qM μ)) (hQ.1) ?_
          refine wk_ge (tgt := 88) hx hb i (qM μ) rfl rfl (by omega) (by omega) dX8_isInTime_36 (by decide) (fun h3 => ?_) (fun h3 => ?_)
          rotate_left
          · refine lv_iload_n hx hb dX8_isInTime_39 rfl (lv_at hl 1 rfl) ?_
            refine lv_iload hx hb dX8_isInTime_40 (lv_at hl 4 rfl) ?_
            refine lv_ishr hx hb dX8_isInTime_42 ?_
            refine lv_iconst (v := 1) hx hb dX8_isInTime_43 (by decide) ?_
            refine lv_iand hx hb dX8_isInTime_44 ?_
            refine lv_iconst (v := 1) hx hb dX8_isInTime_45 (by decide) ?_
            refine lv_icmp_ne (tgt := 78) hx hb dX8_isInTime_46 (by decide) (fun h5 => ?_) (fun h5 => ?_)
            · refine lv_iload hx hb dX8_isInTime_78 (lv_at hl 3 rfl) ?_
              refine lv_istore (lv' := [(5, .int (itF μ (nI j) i)), (0, .ref (ad 0)), (2, .int (nI j)), (3, .int v), (6, .int (nI i))]) hx hb dX8_isInTime_80 hl (by decide) rfl (fun ls hl => ?_)
              refine lv_iinc (v := nI (i + 1)) (lv' := [(6, .int (nI (i + 1))), (5, .int (itF μ (nI j) i)), (0, .ref (ad 0)), (2, .int (nI j)), (3, .int v)]) hx hb dX8_isInTime_82 hl (k := 4) rfl (nI_inc i 1) (by decide) rfl (fun ls hl => ?_)
              refine lv_goto (tgt := 28) hx hb dX8_isInTime_85 (by decide) ?_
              have hl : lv_has ls 7 [(0, .ref (ad 0)), (2, .int (nI j)), (3, .int v), (5, .int (itF μ (nI j) i)), (6, .int (nI (i + 1)))] := lv_sub hl [2, 3, 4, 1, 0] rfl
              have hl := wk_lset (y := itF μ (nI j) (i + 1)) (lv_sub (l' := [(5, .int (itF μ (nI j) i)), (0, .ref (ad 0)), (2, .int (nI j)), (3, .int v), (6, .int (nI (i + 1)))]) hl [3, 0, 1, 2, 4] rfl) (by first | rfl | (simp [itF, bitB, ← Int32.not_le, h1, h2, h3, h5]; done))
              have hl : lv_has ls 7 [(0, .ref (ad 0)), (2, .int (nI j)), (3, .int v), (5, .int (itF μ (nI j) (i + 1))), (6, .int (nI (i + 1)))] := lv_sub hl [1, 2, 3, 0, 4] rfl
              exact ih28 (i + 1) (by omega) (by omega) ls hl
            refine lv_iload hx hb dX8_isInTime_49 (lv_at hl 3 rfl) ?_
            refine lv_bipush (v := -9) hx hb dX8_isInTime_51 (by decide) ?_
            refine lv_icmp_eq (tgt := 73) hx hb dX8_isInTime_53 (by decide) (fun h6 => ?_) (fun h6 => ?_)
            · refine lv_iload hx hb dX8_isInTime_73 (lv_at hl 4 rfl) ?_
              refine lv_goto (tgt := 80) hx hb dX8_isInTime_75 (by decide) ?_
              refine lv_istore (lv' := [(5, .int (nI i)), (0, .ref (ad 0)), (2, .int (nI j)), (3, .int v), (6, .int (nI i))]) hx hb dX8_isInTime_80 hl (by decide) rfl (fun ls hl => ?_)
              refine lv_iinc (v := nI (i + 1)) (lv' := [(6, .int (nI (i + 1))), (5, .int (nI i)), (0, .ref (ad 0)), (2, .int (nI j)), (3, .int v)]) hx hb dX8_isInTime_82 hl (k := 4) rfl (nI_inc i 1) (by decide) rfl (fun ls hl => ?_)
              refine lv_goto (tgt := 28) hx hb dX8_isInTime_85 (by decide) ?_
              have hl : lv_has ls 7 [(0, .ref (ad 0)), (2, .int (nI j)), (3, .int v), (5, .int (nI i)), (6, .int (nI (i + 1)))] := lv_sub hl [2, 3, 4, 1, 0] rfl
              have hl := wk_lset (y := itF μ (nI j) (i + 1)) (lv_sub (l' := [(5, .int (nI i)), (0, .ref (ad 0)), (2, .int (nI j)), (3, .int v), (6, .int (nI (i + 1)))]) hl [3, 0, 1, 2, 4] rfl) (by first | rfl | (simp [itF, bitB, ← Int32.not_le, h1, h2, h3, h5, h6]; done))
              have hl : lv_has ls 7 [(0, .ref (ad 0)), (2, .int (nI j)), (3, .int v), (5, .int (itF μ (nI j) (i + 1))), (6, .int (nI (i + 1)))] := lv_sub hl [1, 2, 3, 0, 4] rfl
              exact ih28 (i + 1) (by omega) (by omega) ls hl
            refine lv_aload_n hx hb dX8_isInTime_56 rfl (lv_at hl 0 rfl) ?_
            refine lv_iload hx hb dX8_isInTime_57 (lv_at hl 4 rfl) ?_
            refine lv_iconst (v := 2) hx hb dX8_isInTime_59 (by decide) ?_
            refine wk_callRV (As := [.int (nI i), .int 2]) (rest := []) ⟨hx, hb, hml, hown, hts⟩ (c_X8_at l D c ad μ r i 2 (by omega) (by omega)) (cwV 2 hts gX8_isInTime_X8_at rfl rfl rfl hd_X8_at ⟨Nat.le_of_ble_eq_true rfl, Nat.le_of_ble_eq_true rfl⟩) hK hP [0, 1, 2, 3, 4, 5, 6, 7, 8] rfl 0 rfl rfl rfl hl.1 rfl (Nat.le_of_ble_eq_true rfl) dX8_isInTime_60 (Nat.zero_le _) (Nat.zero_le _) ?_
            refine lv_aload_n hx hb dX8_isInTime_63 rfl (lv_at hl 0 rfl) ?_
            refine lv_iload hx hb dX8_isInTime_64 (lv_at hl 3 rfl) ?_
            have hix := (itF_ix μ (nI j) i (by omega)).resolve_left (fun q => h6 q.1)
            have hi2 := hix.1.2
            refine wk_eqi (y := nI ((itF μ (nI j) i).toNatClampNeg)) (hix.1.1) ?_
            refine lv_iconst (v := 2) hx hb dX8_isInTime_66 (by decide) ?_
            refine wk_callRV (As := [.int (nI ((itF μ (nI j) i).toNatClampNeg)), .int 2]) (rest := [.int (atV μ i 2)]) ⟨hx, hb, hml, hown, hts⟩ (c_X8_at l D c ad μ r ((itF μ (nI j) i).toNatClampNeg) 2 (by omega) (by omega)) (cwV 2 hts gX8_isInTime_X8_at rfl rfl rfl hd_X8_at ⟨Nat.le_of_ble_eq_true rfl, Nat.le_of_ble_eq_true rfl⟩) hK hP [0, 1, 2, 3, 4, 5, 6, 7, 8] rfl 0 rfl rfl rfl hl.1 rfl (Nat.le_of_ble_eq_true rfl) dX8_isInTime_67 (Nat.zero_le _) (Nat.zero_le _) ?_
            refine lv_icmp_ge (tgt := 78) hx hb dX8_isInTime_70 (by decide) (fun h7 => ?_) (fun h7 => ?_)
            · refine lv_iload hx hb dX8_isInTime_78 (lv_at hl 3 rfl) ?_
              refine lv_istore (lv' := [(5, .int (itF μ (nI j) i)), (0, .ref (ad 0)), (2, .int (nI j)), (3, .int v), (6, .int (nI i))]) hx hb dX8_isInTime_80 hl (by decide) rfl (fun ls hl => ?_)
              refine lv_iinc (v := nI (i + 1)) (lv' := [(6, .int (nI (i + 1))), (5, .int (itF μ (nI j) i)), (0, .ref (ad 0)), (2, .int (nI j)), (3, .int v)]) hx hb dX8_isInTime_82 hl (k := 4) rfl (nI_inc i 1) (by decide) rfl (fun ls hl => ?_)
              refine lv_goto (tgt := 28) hx hb dX8_isInTime_85 (by decide) ?_
              have hl : lv_has ls 7 [(0, .ref (ad 0)), (2, .int (nI j)), (3, .int v), (5, .int (itF μ (nI j) i)), (6, .int (nI (i + 1)))] := lv_sub hl [2, 3, 4, 1, 0] rfl
              have hl := wk_lset (y := itF μ (nI j) (i + 1)) (lv_sub (l' := [(5, .int (itF μ (nI j) i)), (0, .ref (ad 0)), (2, .int (nI j)), (3, .int v), (6, .int (nI (i + 1)))]) hl [3, 0, 1, 2, 4] rfl) (by first | rfl | (simp [itF, bitB, ← Int32.not_le, h1, h2, h3, h5, h6, h7]; done))
              have hl : lv_has ls 7 [(0, .ref (ad 0)), (2, .int (nI j)), (3, .int v), (5, .int (itF μ (nI j) (i + 1))), (6, .int (nI (i + 1)))] := lv_sub hl [1, 2, 3, 0, 4] rfl
              exact ih28 (i + 1) (by omega) (by omega) ls hl
            refine lv_iload hx hb dX8_isInTime_73 (lv_at hl 4 rfl) ?_
            refine lv_goto (tgt := 80) hx hb dX8_isInTime_75 (by decide) ?_
            refine lv_istore (lv' := [(5, .int (nI i)), (0, .ref (ad 0)), (2, .int (nI j)), (3, .int v), (6, .int (nI i))]) hx hb dX8_isInTime_80 hl (by decide) rfl (fun ls hl => ?_)
            refine lv_iinc (v := nI (i + 1)) (lv' := [(6, .int (nI (i + 1))), (5, .int (nI i)), (0, .ref (ad 0)), (2, .int (nI j)), (3, .int v)]) hx hb dX8_isInTime_82 hl (k := 4) rfl (nI_inc i 1) (by decide) rfl (fun ls hl => ?_)
            refine lv_goto (tgt := 28) hx hb dX8_isInTime_85 (by decide) ?_
            have hl : lv_has ls 7 [(0, .ref (ad 0)), (2, .int (nI j)), (3, .int v), (5, .int (nI i)), (6, .int (nI (i + 1)))] := lv_sub hl [2, 3, 4, 1, 0] rfl
            have hl := wk_lset (y := itF μ (nI j) (i + 1)) (lv_sub (l' := [(5, .int (nI i)), (0, .ref (ad 0)), (2, .int (nI j)), (3, .int v), (6, .int (nI (i + 1)))]) hl [3, 0, 1, 2, 4] rfl) (by first | rfl | (simp [itF, bitB, ← Int32.not_le, h1, h2, h3, h5, h6, h7]; done))
            have hl : lv_has ls 7 [(0, .ref (ad 0)), (2, .int (nI j)), (3, .int v), (5, .int (itF μ (nI j) (i + 1))), (6, .int (nI (i + 1)))] := lv_sub hl [1, 2, 3, 0, 4] rfl
            exact ih28 (i + 1) (by omega) (by omega) ls hl
          have hiq : i = qM μ := by omega
          subst hiq
          have hl : lv_has ls 7 [(0, .ref (ad 0)), (2, .int (nI j)), (3, .int v), (5, .int (itQ μ j)), (6, .int (nI (qM μ)))] := hl
          refine lv_iload_n hx hb dX8_isInTime_88 rfl (lv_at hl 2 rfl) ?_
          refine lv_aload_n hx hb dX8_isInTime_89 rfl (lv_at hl 0 rfl) ?_
          refine lv_iload hx hb dX8_isInTime_90 (lv_at hl 3 rfl) ?_
          refine wk_eqi (y := nI ((itQ μ j).toNatClampNeg)) (hqx.1.1) ?_
          refine lv_iconst (v := 4) hx hb dX8_isInTime_92 (by decide) ?_
          refine wk_callRV (As := [.int (nI ((itQ μ j).toNatClampNeg)), .int 4]) (rest := [.int v]) ⟨hx, hb, hml, hown, hts⟩ (c_X8_at l D c ad μ r ((itQ μ j).toNatClampNeg) 4 (by omega) (by omega)) (cwV 2 hts gX8_isInTime_X8_at rfl rfl rfl hd_X8_at ⟨Nat.le_of_ble_eq_true rfl, Nat.le_of_ble_eq_true rfl⟩) hK hP [0, 1, 2, 3, 4, 5, 6, 7, 8] rfl 0 rfl rfl rfl hl.1 rfl (Nat.le_of_ble_eq_true rfl) dX8_isInTime_93 (Nat.zero_le _) (Nat.zero_le _) ?_
          refine lv_iadd hx hb dX8_isInTime_96 ?_
          refine lv_istore_n (lv' := [(3, .int (v + (atV μ ((itQ μ j).toNatClampNeg) 4))), (0, .ref (ad 0)), (2, .int (nI j)), (5, .int (itQ μ j)), (6, .int (nI (qM μ)))]) hx hb dX8_isInTime_97 rfl hl (by decide) rfl (fun ls hl => ?_)
          refine lv_iload_n hx hb dX8_isInTime_98 rfl (lv_at hl 0 rfl) ?_
          refine lv_aload_n hx hb dX8_isInTime_99 rfl (lv_at hl 1 rfl) ?_
          refine lv_iload hx hb dX8_isInTime_100 (lv_at hl 3 rfl) ?_
          refine wk_eqi (y := nI ((itQ μ j).toNatClampNeg)) (hqx.1.1) ?_
          refine lv_iconst (v := 2) hx hb dX8_isInTime_102 (by decide) ?_
          refine wk_callRV (As := [.int (nI ((itQ μ j).toNatClampNeg)), .int 2]) (rest := [.int (v + (atV μ ((itQ μ j).toNatClampNeg) 4))]) ⟨hx, hb, hml, hown, hts⟩ (c_X8_at l D c ad μ r ((itQ μ j).toNatClampNeg) 2 (by omega) (by omega)) (cwV 2 hts gX8_isInTime_X8_at rfl rfl rfl hd_X8_at ⟨Nat.le_of_ble_eq_true rfl, Nat.le_of_ble_eq_true rfl⟩) hK hP [0, 1, 2, 3, 4, 5, 6, 7, 8] rfl 0 rfl rfl rfl hl.1 rfl (Nat.le_of_ble_eq_true rfl) dX8_isInTime_103 (Nat.zero_le _) (Nat.zero_le _) ?_
          refine lv_aload_n hx hb dX8_isInTime_106 rfl (lv_at hl 1 rfl) ?_
          refine wg_X8_7 hx hb hts iX8 hown hK hP 0 rfl k2 (v := .ref (ad 7)) rfl dX8_isInTime_107 ?_
          refine lv_iconst (v := 1) hx hb dX8_isInTime_110 (by decide) ?_
          refine wk_ald (f := μ 7) hx hb hK hP 3 0 rfl rfl 1 rfl (by omega) (by decide) dX8_isInTime_111 ?_
          refine lv_iadd hx hb dX8_isInTime_112 ?_
          refine lv_icmp_gt (tgt := 120) hx hb dX8_isInTime_113 (by decide) (fun h4 => ?_) (fun h4 => ?_)
          · refine lv_iconst (v := 0) hx hb dX8_isInTime_120 (by decide) ?_
            refine lv_istore (lv' := [(4, .int 0), (3, .int (v + (atV μ ((itQ μ j).toNatClampNeg) 4))), (0, .ref (ad 0)), (2, .int (nI j)), (5, .int (itQ μ j)), (6, .int (nI (qM μ)))]) hx hb dX8_isInTime_121 hl (by decide) rfl (fun ls hl => ?_)
            refine lv_iload_n hx hb dX8_isInTime_123 rfl (lv_at hl 3 rfl) ?_
            refine lv_iconst (v := 1) hx hb dX8_isInTime_124 (by decide) ?_
            refine lv_iload hx hb dX8_isInTime_125 (lv_at hl 4 rfl) ?_
            refine lv_ishl hx hb dX8_isInTime_127 ?_
            refine lv_iconst (v := -1) hx hb dX8_isInTime_128 (by decide) ?_
            refine lv_ixor hx hb dX8_isInTime_129 ?_
            refine lv_iand hx hb dX8_isInTime_130 ?_
            refine wk_eqi (y := nI (clr j (itQ μ j).toNatClampNeg)) (itQ_clr hQ hj hz) ?_
            refine lv_istore_n (lv' := [(2, .int (nI (clr j (itQ μ j).toNatClampNeg))), (4, .int 0), (3, .int (v + (atV μ ((itQ μ j).toNatClampNeg) 4))), (0, .ref (ad 0)), (5, .int (itQ μ j)), (6, .int (nI (qM μ)))]) hx hb dX8_isInTime_131 rfl hl (by decide) rfl (fun ls hl => ?_)
            refine lv_goto (tgt := 12) hx hb dX8_isInTime_132 (by decide) ?_
            have hl : lv_has ls 7 [(0, .ref (ad 0)), (2, .int (nI (clr j (itQ μ j).toNatClampNeg))), (3, .int (v + (atV μ ((itQ μ j).toNatClampNeg) 4))), (4, .int 0)] := lv_sub hl [3, 0, 2, 1] rfl
            have hl := wk_lset (y := (v + atV μ (itQ μ j).toNatClampNeg 4)) (lv_sub (l' := [(3, .int (v + (atV μ ((itQ μ j).toNatClampNeg) 4))), (0, .ref (ad 0)), (2, .int (nI (clr j (itQ μ j).toNatClampNeg))), (4, .int 0)]) hl [2, 0, 1, 3] rfl) (by rfl)
            have hl : lv_has ls 7 [(0, .ref (ad 0)), (2, .int (nI (clr j (itQ μ j).toNatClampNeg))), (3, .int ((v + atV μ (itQ μ j).toNatClampNeg 4))), (4, .int 0)] := lv_sub hl [1, 2, 0, 3] rfl
            exact ih12 (clr j (itQ μ j).toNatClampNeg) (v + atV μ (itQ μ j).toNatClampNeg 4) 0 (f - 1) (Nat.lt_trans hlt hj) (by omega) (by omega) (fun _ => by rw [← (hb1 hbn).2, show itL μ f j v = itL μ ((f - 1) + 1) j v by rw [show f - 1 + 1 = f by omega], itL, if_neg hz, if_pos h4]) (fun e => absurd rfl e) (by omega) ls hl
          refine lv_iconst (v := 1) hx hb dX8_isInTime_116 (by decide) ?_
          refine lv_goto (tgt := 121) hx hb dX8_isInTime_117 (by decide) ?_
          refine lv_istore (lv' := [(4, .int 1), (3, .int (v + (atV μ ((itQ μ j).toNatClampNeg) 4))), (0, .ref (ad 0)), (2, .int (nI j)), (5, .int (itQ μ j)), (6, .int (nI (qM μ)))]) hx hb dX8_isInTime_121 hl (by decide) rfl (fun ls hl => ?_)
          refine lv_iload_n hx hb dX8_isInTime_123 rfl (lv_at hl 3 rfl) ?_
          refine lv_iconst (v := 1) hx hb dX8_isInTime_124 (by decide) ?_
          refine lv_iload hx hb dX8_isInTime_125 (lv_at hl 4 rfl) ?_
          refine lv_ishl hx hb dX8_isInTime_127 ?_
          refine lv_iconst (v := -1) hx hb dX8_isInTime_128 (by decide) ?_
          refine lv_ixor hx hb dX8_isInTime_129 ?_
          refine lv_iand hx hb dX8_isInTime_130 ?_
          refine wk_eqi (y := nI (clr j (itQ μ j).toNatClampNeg)) (itQ_clr hQ hj hz) ?_
          refine lv_istore_n (lv' := [(2, .int (nI (clr j (itQ μ j).toNatClampNeg))), (4, .int 1), (3, .int (v + (atV μ ((itQ μ j).toNatClampNeg) 4))), (0, .ref (ad 0)), (5, .int (itQ μ j)), (6, .int (nI (qM μ)))]) hx hb dX8_isInTime_131 rfl hl (by decide) rfl (fun ls hl => ?_)
          refine lv_goto (tgt := 12) hx hb dX8_isInTime_132 (by decide) ?_
          have hl : lv_has ls 7 [(0, .ref (ad 0)), (2, .int (nI (clr j (itQ μ j).toNatClampNeg))), (3, .int (v + (atV μ ((itQ μ j).toNatClampNeg) 4))), (4, .int 1)] := lv_sub hl [3, 0, 2, 1] rfl
          have hl := wk_lset (y := (v + atV μ (itQ μ j).toNatClampNeg 4)) (lv_sub (l' := [(3, .int (v + (atV μ ((itQ μ j).toNatClampNeg) 4))), (0, .ref (ad 0)), (2, .int (nI (clr j (itQ μ j).toNatClampNeg))), (4, .int 1)]) hl [2, 0, 1, 3] rfl) (by rfl)
          have hl : lv_has ls 7 [(0, .ref (ad 0)), (2, .int (nI (clr j (itQ μ j).toNatClampNeg))), (3, .int ((v + atV μ (itQ μ j).toNatClampNeg 4))), (4, .int 1)] := lv_sub hl [1, 2, 0, 3] rfl
          exact ih12 (clr j (itQ μ j).toNatClampNeg) (v + atV μ (itQ μ j).toNatClampNeg 4) 1 (f - 1) (Nat.lt_trans hlt hj) (by omega) (by omega) (fun e => absurd e (by decide)) (fun _ => ⟨rfl, by rw [← (hb1 hbn).2, show itL μ f j v = itL μ ((f - 1) + 1) j v by rw [show f - 1 + 1 = f by omega], itL, if_neg hz, if_neg h4]⟩) (by omega) ls hl
      have hl : lv_has ls 7 [(0, .ref (ad 0)), (2, .int (nI j)), (3, .int v), (5, .int ((-9))), (6, .int 0)] := lv_sub hl [2, 3, 4, 1, 0] rfl
      have hl := wk_lset (y := itF μ (nI j) 0) (lv_sub (l' := [(5, .int ((-9))), (0, .ref (ad 0)), (2, .int (nI j)), (3, .int v), (6, .int 0)]) hl [3, 0, 1, 2, 4] rfl) (by first | rfl | (simp [itF, bitB, ← Int32.not_le, h1, h2]; done))
      have hl : lv_has ls 7 [(0, .ref (ad 0)), (2, .int (nI j)), (3, .int v), (5, .int (itF μ (nI j) 0)), (6, .int 0)] := lv_sub hl [1, 2, 3, 0, 4] rfl
      have hl := wk_lset (y := nI 0) (lv_sub (l' := [(6, .int 0), (0, .ref (ad 0)), (2, .int (nI j)), (3, .int v), (5, .int (itF μ (nI j) 0))]) hl [4, 0, 1, 2, 3] rfl) (by first | rfl | (simp [itF, bitB, ← Int32.not_le, h1, h2]; done))
      have hl : lv_has ls 7 [(0, .ref (ad 0)), (2, .int (nI j)), (3, .int v), (5, .int (itF μ (nI j) 0)), (6, .int (nI 0))] := lv_sub hl [1, 2, 3, 4, 0] rfl
      exact lp28 _ 0 (by omega) (Nat.lt_succ_self _) ls hl
  have hl : lv_has ls 7 [(0, .ref (ad 0)), (2, .int (nI k)), (3, .int (μ 8 0)), (4, .int 1)] := lv_sub hl [3, 2, 1, 0] rfl
  have hl := wk_lset (y := (μ 8 0)) (lv_sub (l' := [(3, .int (μ 8 0)), (0, .ref (ad 0)), (2, .int (nI k)), (4, .int 1)]) hl [2, 0, 1, 3] rfl) (by rfl)
  have hl : lv_has ls 7 [(0, .ref (ad 0)), (2, .int (nI k)), (3, .int ((μ 8 0))), (4, .int 1)] := lv_sub hl [1, 2, 0, 3] rfl
  exact lp12 _ k (μ 8 0) 1 64 (hk) (itQ_64 hQ hk) (by omega) (fun e => absurd e (by decide)) (fun _ => ⟨rfl, rfl⟩) (Nat.lt_succ_self _) ls hl

abbrev rmX8_keeps : Room := { frames := 2, cells := 0, slots := 0, locals := 48 }
theorem hd_X8_keeps : yX8_keeps.cls = RX8 ∧ yX8_keeps.cls ≠ "java/lang/invoke/MethodHandle" ∧ yX8_keeps.cls ≠ "java/lang/invoke/VarHandle" ∧ (parseMethodDescriptor yX8_keeps.desc).map (fun d => d.parameters.length) = some 1 := by decide +kernel
set_option maxHeartbeats 4000000 in
set_option maxRecDepth 100000 in
theorem c_X8_keeps (l : Launch) (D : va_G) (c : Nat → ClassId) (ad : Nat → Nat) (μ : Nat → Nat → Int32) (r : Int64) (w : Int32) (hW : wfW μ) (hQ : wfQM μ) : wk_RdI l yX8_keeps wsX8_keeps rmX8_keeps D (tysL c) [.ref (ad 0), .int w] (modelW c ad μ r) (mkpV μ w) := by
  refine wk_mkR (cc := cX8_keeps) (maxL := 5) (rt := .int) (by decide) rfl (Nat.le_of_ble_eq_true rfl) rfl ?_
  intro pr ev ss mm args below meth cd ls H Q hst hP hK hl ret
  obtain ⟨hx, hb, hml, hown, hts, -⟩ := hst
  have hown : ss.vm.findClass RX8 = some mm.cls := hown
  have hl : lv_has ls 5 [(0, .ref (ad 0)), (1, .int w)] := hl
  have k1 := hts (.fieldLink RX8 19 "LastWordModel" "now" "[I") (List.mem_of_getElem? (i := 1) rfl)
  have iX8 : ∀ w ∈ u_ws RX8 TX8 18, w ∈ wsX8_keeps := fun _ h => (List.mem_cons_of_mem _ (List.mem_append_right _ h))
  have hQ6 := hQ.2
  refine lv_aload_n hx hb dX8_keeps_0 rfl (lv_at hl 0 rfl) ?_
  refine lv_iload_n hx hb dX8_keeps_1 rfl (lv_at hl 1 rfl) ?_
  refine wk_callRV (As := [.int w]) (rest := []) ⟨hx, hb, hml, hown, hts⟩ (c_X8_isWriter l D c ad μ r w) (cwV 1 hts gX8_keeps_X8_isWriter rfl rfl rfl hd_X8_isWriter ⟨Nat.le_of_ble_eq_true rfl, Nat.le_of_ble_eq_true rfl⟩) hK hP [0, 1, 2, 3, 4, 5, 6, 7, 8] rfl 0 rfl rfl rfl hl.1 rfl (Nat.le_of_ble_eq_true rfl) dX8_keeps_2 (Nat.zero_le _) (Nat.zero_le _) ?_
  refine wk_bnz (tgt := 10) hx hb dX8_keeps_5 (by decide) (fun h1 => ?_) (fun h1 => ?_)
  rotate_left
  · refine lv_iconst (v := -1) hx hb dX8_keeps_8 (by decide) ?_
    exact ret 9 ls ((-1)) (by rw [mkpV, if_neg h1]) dX8_keeps_9
  refine lv_iconst (v := 0) hx hb dX8_keeps_10 (by decide) ?_
  refine lv_istore_n (lv' := [(2, .int 0), (0, .ref (ad 0)), (1, .int w)]) hx hb dX8_keeps_11 rfl hl (by decide) rfl (fun ls hl => ?_)
  refine lv_iconst (v := 0) hx hb dX8_keeps_12 (by decide) ?_
  refine lv_istore_n (lv' := [(3, .int 0), (2, .int 0), (0, .ref (ad 0)), (1, .int w)]) hx hb dX8_keeps_13 rfl hl (by decide) rfl (fun ls hl => ?_)
  have lp14 : ∀ (n : Nat) (i : Nat), (i ≤ qM μ) → qM μ - i < n → ∀ ls : Array Slot, lv_has ls 5 [(0, .ref (ad 0)), (1, .int w), (2, .int (mkoL μ w i)), (3, .int (nI i))] → W pr l ev rmX8_keeps ss mm args below meth cd H [] 0 0 Q (F0 mm 14 ls []) := by
    intro n
    induction n with
    | zero => intro i hi hn; exact absurd hn (Nat.not_lt_zero _)
    | succ n ih14 =>
      intro i hi hn ls hl
      refine lv_iload_n hx hb dX8_keeps_14 rfl (lv_at hl 3 rfl) ?_
      refine lv_aload_n hx hb dX8_keeps_15 rfl (lv_at hl 0 rfl) ?_
      refine wg_X8_8 hx hb hts iX8 hown hK hP 0 rfl k1 (v := .ref (ad 8)) rfl dX8_keeps_16 ?_
      refine lv_iconst (v := 1) hx hb dX8_keeps_19 (by decide) ?_
      refine wk_ald (f := μ 8) hx hb hK hP 4 0 rfl rfl 1 rfl (by omega) (by decide) dX8_keeps_20 ?_
      refine wk_eqi (y := nI (qM μ)) (hQ.1) ?_
      refine wk_ge (tgt := 50) hx hb i (qM μ) rfl rfl (by omega) (by omega) dX8_keeps_21 (by decide) (fun h2 => ?_) (fun h2 => ?_)
      · have hiq : i = qM μ := by omega
        subst hiq
        obtain ⟨ho1, ho2⟩ := oM_ok hQ w
        have ho64 := itQ_64 hQ ho2
        have hl := wk_lset (y := nI (oM μ w)) (lv_sub (l' := [(2, .int (mkoL μ w (qM μ))), (0, .ref (ad 0)), (1, .int w), (3, .int (nI (qM μ)))]) hl [2, 0, 1, 3] rfl) ho1
        refine lv_iconst (v := 0) hx hb dX8_keeps_50 (by decide) ?_
        refine lv_istore_n (lv' := [(3, .int 0), (2, .int (nI (oM μ w))), (0, .ref (ad 0)), (1, .int w)]) hx hb dX8_keeps_51 rfl hl (by decide) rfl (fun ls hl => ?_)
        refine lv_iconst (v := 0) hx hb dX8_keeps_52 (by decide) ?_
        refine lv_istore (lv' := [(4, .int 0), (3, .int 0), (2, .int (nI (oM μ w))), (0, .ref (ad 0)), (1, .int w)]) hx hb dX8_keeps_53 hl (by decide) rfl (fun ls hl => ?_)
        have lp55 : ∀ (n : Nat) (s : Nat), (s ≤ oM μ w + 1) → oM μ w + 1 - s < n → ∀ ls : Array Slot, lv_has ls 5 [(0, .ref (ad 0)), (2, .int (nI (oM μ w))), (3, .int (mkpL μ (oM μ w) s)), (4, .int (nI s))] → W pr l ev rmX8_keeps ss mm args below meth cd H [] 0 0 Q (F0 mm 55 ls []) := by
          intro n
          induction n with
          | zero => intro s hs hn; exact absurd hn (Nat.not_lt_zero _)
          | succ n ih55 =>
            intro s hs hn ls hl
            refine lv_iload hx hb dX8_keeps_55 (lv_at hl 3 rfl) ?_
            refine lv_iload_n hx hb dX8_keeps_57 rfl (lv_at hl 1 rfl) ?_
            refine wk_gt (tgt := 104) hx hb s (oM μ w) rfl rfl (by omega) (by omega) dX8_keeps_58 (by decide) (fun h3 => ?_) (fun h3 => ?_)
            · refine lv_iload_n hx hb dX8_keeps_104 rfl (lv_at hl 2 rfl) ?_
              exact ret 105 ls (mkpL μ (oM μ w) s) (by rw [mkpV, if_pos h1, show s = oM μ w + 1 by omega]) dX8_keeps_105
            refine lv_iload hx hb dX8_keeps_61 (lv_at hl 3 rfl) ?_
            refine lv_iload_n hx hb dX8_keeps_63 rfl (lv_at hl 1 rfl) ?_
            refine lv_iconst (v := -1) hx hb dX8_keeps_64 (by decide) ?_
            refine lv_ixor hx hb dX8_keeps_65 ?_
            refine lv_iand hx hb dX8_keeps_66 ?_
            refine lv_if_ne (tgt := 96) hx hb dX8_keeps_67 (by decide) (fun h4 => ?_) (fun h4 => ?_)
            · refine lv_iload_n hx hb dX8_keeps_96 rfl (lv_at hl 2 rfl) ?_
              refine lv_istore_n (lv' := [(3, .int (mkpL μ (oM μ w) s)), (0, .ref (ad 0)), (2, .int (nI (oM μ w))), (4, .int (nI s))]) hx hb dX8_keeps_97 rfl hl (by decide) rfl (fun ls hl => ?_)
              refine lv_iinc (v := nI (s + 1)) (lv' := [(4, .int (nI (s + 1))), (3, .int (mkpL μ (oM μ w) s)), (0, .ref (ad 0)), (2, .int (nI (oM μ w)))]) hx hb dX8_keeps_98 hl (k := 3) rfl (nI_inc s 1) (by decide) rfl (fun ls hl => ?_)
              refine lv_goto (tgt := 55) hx hb dX8_keeps_101 (by decide) ?_
              have hl : lv_has ls 5 [(0, .ref (ad 0)), (2, .int (nI (oM μ w))), (3, .int (mkpL μ (oM μ w) s)), (4, .int (nI (s + 1)))] := lv_sub hl [2, 3, 1, 0] rfl
              have hl := wk_lset (y := mkpL μ (oM μ w) (s + 1)) (lv_sub (l' := [(3, .int (mkpL μ (oM μ w) s)), (0, .ref (ad 0)), (2, .int (nI (oM μ w))), (4, .int (nI (s + 1)))]) hl [2, 0, 1, 3] rfl) (by first | rfl | (rw [mkpL, if_pos ⟨⟨hA, hB⟩, hC⟩]; done) | (rw [mkpL, if_neg (fun q => hC q.2)]; done) | (rw [mkpL, if_neg (fun q => q.1.2 h4)]; done) | (rw [mkpL, if_neg (fun q => h4 q.1.1)]; done))
              have hl : lv_has ls 5 [(0, .ref (ad 0)), (2, .int (nI (oM μ w))), (3, .int (mkpL μ (oM μ w) (s + 1))), (4, .int (nI (s + 1)))] := lv_sub hl [1, 2, 0, 3] rfl
              exact ih55 (s + 1) (by omega) (by omega) ls hl
            have hA := h4
            refine lv_iload hx hb dX8_keeps_70 (lv_at hl 3 rfl) ?_
            refine wk_callRS (As := [.int (nI s)]) (rest := []) ⟨hx, hb, hml, hown, hts⟩ (c_X8_many l D c s (by omega)) (va_cwS 1 hts gX8_keeps_X8_many rfl rfl rfl hd_X8_many ⟨Nat.le_of_ble_eq_true rfl, Nat.le_of_ble_eq_true rfl⟩) hK hP [] rfl rfl hl.1 rfl (Nat.le_of_ble_eq_true rfl) dX8_keeps_72 (Nat.zero_le _) (Nat.zero_le _) ?_
            refine lv_iload_n hx hb dX8_keeps_75 rfl (lv_at hl 2 rfl) ?_
            refine lv_icmp_le (tgt := 96) hx hb dX8_keeps_76 (by decide) (fun h5 => ?_) (fun h5 => ?_)
            · refine lv_iload_n hx hb dX8_keeps_96 rfl (lv_at hl 2 rfl) ?_
              refine lv_istore_n (lv' := [(3, .int (mkpL μ (oM μ w) s)), (0, .ref (ad 0)), (2, .int (nI (oM μ w))), (4, .int (nI s))]) hx hb dX8_keeps_97 rfl hl (by decide) rfl (fun ls hl => ?_)
              refine lv_iinc (v := nI (s + 1)) (lv' := [(4, .int (nI (s + 1))), (3, .int (mkpL μ (oM μ w) s)), (0, .ref (ad 0)), (2, .int (nI (oM μ w)))]) hx hb dX8_keeps_98 hl (k := 3) rfl (nI_inc s 1) (by decide) rfl (fun ls hl => ?_)
              refine lv_goto (tgt := 55) hx hb dX8_keeps_101 (by decide) ?_
              have hl : lv_has ls 5 [(0, .ref (ad 0)), (2, .int (nI (oM μ w))), (3, .int (mkpL μ (oM μ w) s)), (4, .int (nI (s + 1)))] := lv_sub hl [2, 3, 1, 0] rfl
              have hl := wk_lset (y := mkpL μ (oM μ w) (s + 1)) (lv_sub (l' := [(3, .int (mkpL μ (oM μ w) s)), (0, .ref (ad 0)), (2, .int (nI (oM μ w))), (4, .int (nI (s + 1)))]) hl [2, 0, 1, 3] rfl) (by first | rfl | (rw [mkpL, if_pos ⟨⟨hA, hB⟩, hC⟩]; done) | (rw [mkpL, if_neg (fun q => hC q.2)]; done) | (rw [mkpL, if_neg (fun q => q.1.2 h5)]; done) | (rw [mkpL, if_neg (fun q => h5 q.1.1)]; done))
              have hl : lv_has ls 5 [(0, .ref (ad 0)), (2, .int (nI (oM μ w))), (3, .int (mkpL μ (oM μ w) (s + 1))), (4, .int (nI (s + 1)))] := lv_sub hl [1, 2, 0, 3] rfl
              exact ih55 (s + 1) (by omega) (by omega) ls hl
            have hB := h5
            refine lv_aload_n hx hb dX8_keeps_79 rfl (lv_at hl 0 rfl) ?_
            refine lv_iload hx hb dX8_keeps_80 (lv_at hl 3 rfl) ?_
            refine wk_callRV (As := [.int (nI s)]) (rest := []) ⟨hx, hb, hml, hown, hts⟩ (c_X8_isInTime l D c ad μ r s (by assumption) (by omega)) (cwV 1 hts gX8_keeps_X8_isInTime rfl rfl rfl hd_X8_isInTime ⟨Nat.le_of_ble_eq_true rfl, Nat.le_of_ble_eq_true rfl⟩) hK hP [0, 1, 2, 3, 4, 5, 6, 7, 8] rfl 0 rfl rfl rfl hl.1 rfl (Nat.le_of_ble_eq_true rfl) dX8_keeps_82 (Nat.zero_le _) (Nat.zero_le _) ?_
            refine wk_bz (tgt := 96) hx hb dX8_keeps_85 (by decide) (fun hC => ?_) (fun hC => ?_)
            · refine lv_iload_n hx hb dX8_keeps_96 rfl (lv_at hl 2 rfl) ?_
              refine lv_istore_n (lv' := [(3, .int (mkpL μ (oM μ w) s)), (0, .ref (ad 0)), (2, .int (nI (oM μ w))), (4, .int (nI s))]) hx hb dX8_keeps_97 rfl hl (by decide) rfl (fun ls hl => ?_)
              refine lv_iinc (v := nI (s + 1)) (lv' := [(4, .int (nI (s + 1))), (3, .int (mkpL μ (oM μ w) s)), (0, .ref (ad 0)), (2, .int (nI (oM μ w)))]) hx hb dX8_keeps_98 hl (k := 3) rfl (nI_inc s 1) (by decide) rfl (fun ls hl => ?_)
              refine lv_goto (tgt := 55) hx hb dX8_keeps_101 (by decide) ?_
              have hl : lv_has ls 5 [(0, .ref (ad 0)), (2, .int (nI (oM μ w))), (3, .int (mkpL μ (oM μ w) s)), (4, .int (nI (s + 1)))] := lv_sub hl [2, 3, 1, 0] rfl
              have hl := wk_lset (y := mkpL μ (oM μ w) (s + 1)) (lv_sub (l' := [(3, .int (mkpL μ (oM μ w) s)), (0, .ref (ad 0)), (2, .int (nI (oM μ w))), (4, .int (nI (s + 1)))]) hl [2, 0, 1, 3] rfl) (by first | rfl | (rw [mkpL, if_pos ⟨⟨hA, hB⟩, hC⟩]; done) | (rw [mkpL, if_neg (fun q => hC q.2)]; done) | (rw [mkpL, if_neg (fun q => q.1.2 hC)]; done) | (rw [mkpL, if_neg (fun q => hC q.1.1)]; done))
              have hl : lv_has ls 5 [(0, .ref (ad 0)), (2, .int (nI (oM μ w))), (3, .int (mkpL μ (oM μ w) (s + 1))), (4, .int (nI (s + 1)))] := lv_sub hl [1, 2, 0, 3] rfl
              exact ih55 (s + 1) (by omega) (by omega) ls hl
            refine lv_iload hx hb dX8_keeps_88 (lv_at hl 3 rfl) ?_
            refine wk_callRS (As := [.int (nI s)]) (rest := []) ⟨hx, hb, hml, hown, hts⟩ (c_X8_many l D c s (by omega)) (va_cwS 1 hts gX8_keeps_X8_many rfl rfl rfl hd_X8_many ⟨Nat.le_of_ble_eq_true rfl, Nat.le_of_ble_eq_true rfl⟩) hK hP [] rfl rfl hl.1 rfl (Nat.le_of_ble_eq_true rfl) dX8_keeps_90 (Nat.zero_le _) (Nat.zero_le _) ?_
            refine lv_goto (tgt := 97) hx hb dX8_keeps_93 (by decide) ?_
            refine lv_istore_n (lv' := [(3, .int (nI (pcT s))), (0, .ref (ad 0)), (2, .int (nI (oM μ w))), (4, .int (nI s))]) hx hb dX8_keeps_97 rfl hl (by decide) rfl (fun ls hl => ?_)
            refine lv_iinc (v := nI (s + 1)) (lv' := [(4, .int (nI (s + 1))), (3, .int (nI (pcT s))), (0, .ref (ad 0)), (2, .int (nI (oM μ w)))]) hx hb dX8_keeps_98 hl (k := 3) rfl (nI_inc s 1) (by decide) rfl (fun ls hl => ?_)
            refine lv_goto (tgt := 55) hx hb dX8_keeps_101 (by decide) ?_
            have hl : lv_has ls 5 [(0, .ref (ad 0)), (2, .int (nI (oM μ w))), (3, .int (nI (pcT s))), (4, .int (nI (s + 1)))] := lv_sub hl [2, 3, 1, 0] rfl
            have hl := wk_lset (y := mkpL μ (oM μ w) (s + 1)) (lv_sub (l' := [(3, .int (nI (pcT s))), (0, .ref (ad 0)), (2, .int (nI (oM μ w))), (4, .int (nI (s + 1)))]) hl [2, 0, 1, 3] rfl) (by first | rfl | (rw [mkpL, if_pos ⟨⟨hA, hB⟩, hC⟩]; done) | (rw [mkpL, if_neg (fun q => hC q.2)]; done) | (rw [mkpL, if_neg (fun q => q.1.2 hC)]; done) | (rw [mkpL, if_neg (fun q => hC q.1.1)]; done))
            have hl : lv_has ls 5 [(0, .ref (ad 0)), (2, .int (nI (oM μ w))), (3, .int (mkpL μ (oM μ w) (s + 1))), (4, .int (nI (s + 1)))] := lv_sub hl [1, 2, 0, 3] rfl
            exact ih55 (s + 1) (by omega) (by omega) ls hl
        have hl : lv_has ls 5 [(0, .ref (ad 0)), (2, .int (nI (oM μ w))), (3, .int 0), (4, .int 0)] := lv_sub hl [3, 2, 1, 0] rfl
        have hl := wk_lset (y := mkpL μ (oM μ w) 0) (lv_sub (l' := [(3, .int 0), (0, .ref (ad 0)), (2, .int (nI (oM μ w))), (4, .int 0)]) hl [2, 0, 1, 3] rfl) (by first | rfl | (rw [mkpL, if_pos ⟨⟨hA, hB⟩, hC⟩]; done) | (rw [mkpL, if_neg (fun q => hC q.2)]; done) | (rw [mkpL, if_neg (fun q => q.1.2 h2)]; done) | (rw [mkpL, if_neg (fun q => h2 q.1.1)]; done))
        have hl : lv_has ls 5 [(0, .ref (ad 0)), (2, .int (nI (oM μ w))), (3, .int (mkpL μ (oM μ w) 0)), (4, .int 0)] := lv_sub hl [1, 2, 0, 3] rfl
        have hl := wk_lset (y := nI 0) (lv_sub (l' := [(4, .int 0), (0, .ref (ad 0)), (2, .int (nI (oM μ w))), (3, .int (mkpL μ (oM μ w) 0))]) hl [3, 0, 1, 2] rfl) (by first | rfl | (rw [mkpL, if_pos ⟨⟨hA, hB⟩, hC⟩]; done) | (rw [mkpL, if_neg (fun q => hC q.2)]; done) | (rw [mkpL, if_neg (fun q => q.1.2 h2)]; done) | (rw [mkpL, if_neg (fun q => h2 q.1.1)]; done))
        have hl : lv_has ls 5 [(0, .ref (ad 0)), (2, .int (nI (oM μ w))), (3, .int (mkpL μ (oM μ w) 0)), (4, .int (nI 0))] := lv_sub hl [1, 2, 3, 0] rfl
        exact lp55 _ 0 (by omega) (Nat.lt_succ_self _) ls hl
      refine lv_iload_n hx hb dX8_keeps_24 rfl (lv_at hl 2 rfl) ?_
      refine lv_aload_n hx hb dX8_keeps_25 rfl (lv_at hl 0 rfl) ?_
      refine lv_iload_n hx hb dX8_keeps_26 rfl (lv_at hl 3 rfl) ?_
      refine lv_iconst (v := 3) hx hb dX8_keeps_27 (by decide) ?_
      refine wk_callRV (As := [.int (nI i), .int 3]) (rest := [.int (mkoL μ w i)]) ⟨hx, hb, hml, hown, hts⟩ (c_X8_at l D c ad μ r i 3 (by omega) (by omega)) (cwV 2 hts gX8_keeps_X8_at rfl rfl rfl hd_X8_at ⟨Nat.le_of_ble_eq_true rfl, Nat.le_of_ble_eq_true rfl⟩) hK hP [0, 1, 2, 3, 4, 5, 6, 7, 8] rfl 0 rfl rfl rfl hl.1 rfl (Nat.le_of_ble_eq_true rfl) dX8_keeps_28 (Nat.zero_le _) (Nat.zero_le _) ?_
      refine lv_iload_n hx hb dX8_keeps_31 rfl (lv_at hl 1 rfl) ?_
      refine lv_icmp_ne (tgt := 41) hx hb dX8_keeps_32 (by decide) (fun h7 => ?_) (fun h7 => ?_)
      · refine lv_iconst (v := 0) hx hb dX8_keeps_41 (by decide) ?_
        refine lv_ior hx hb dX8_keeps_42 ?_
        refine lv_istore_n (lv' := [(2, .int ((mkoL μ w i) ||| 0)), (0, .ref (ad 0)), (1, .int w), (3, .int (nI i))]) hx hb dX8_keeps_43 rfl hl (by decide) rfl (fun ls hl => ?_)
        refine lv_iinc (v := nI (i + 1)) (lv' := [(3, .int (nI (i + 1))), (2, .int ((mkoL μ w i) ||| 0)), (0, .ref (ad 0)), (1, .int w)]) hx hb dX8_keeps_44 hl (k := 3) rfl (nI_inc i 1) (by decide) rfl (fun ls hl => ?_)
        refine lv_goto (tgt := 14) hx hb dX8_keeps_47 (by decide) ?_
        have hl : lv_has ls 5 [(0, .ref (ad 0)), (1, .int w), (2, .int ((mkoL μ w i) ||| 0)), (3, .int (nI (i + 1)))] := lv_sub hl [2, 3, 1, 0] rfl
        have hl := wk_lset (y := mkoL μ w (i + 1)) (lv_sub (l' := [(2, .int ((mkoL μ w i) ||| 0)), (0, .ref (ad 0)), (1, .int w), (3, .int (nI (i + 1)))]) hl [2, 0, 1, 3] rfl) (by first | rfl | (simp [mkoL, h1, h2, h7]; done))
        have hl : lv_has ls 5 [(0, .ref (ad 0)), (1, .int w), (2, .int (mkoL μ w (i + 1))), (3, .int (nI (i + 1)))] := lv_sub hl [1, 2, 0, 3] rfl
        exact ih14 (i + 1) (by omega) (by omega) ls hl
      refine lv_iconst (v := 1) hx hb dX8_keeps_35 (by decide) ?_
      refine lv_iload_n hx hb dX8_keeps_36 rfl (lv_at hl 3 rfl) ?_
      refine lv_ishl hx hb dX8_keeps_37 ?_
      refine lv_goto (tgt := 42) hx hb dX8_keeps_38 (by decide) ?_
      refine lv_ior hx hb dX8_keeps_42 ?_
      refine lv_istore_n (lv' := [(2, .int ((mkoL μ w i) ||| (1 <<< ((nI i) &&& 31)))), (0, .ref (ad 0)), (1, .int w), (3, .int (nI i))]) hx hb dX8_keeps_43 rfl hl (by decide) rfl (fun ls hl => ?_)
      refine lv_iinc (v := nI (i + 1)) (lv' := [(3, .int (nI (i + 1))), (2, .int ((mkoL μ w i) ||| (1 <<< ((nI i) &&& 31)))), (0, .ref (ad 0)), (1, .int w)]) hx hb dX8_keeps_44 hl (k := 3) rfl (nI_inc i 1) (by decide) rfl (fun ls hl => ?_)
      refine lv_goto (tgt := 14) hx hb dX8_keeps_47 (by decide) ?_
      have hl : lv_has ls 5 [(0, .ref (ad 0)), (1, .int w), (2, .int ((mkoL μ w i) ||| (1 <<< ((nI i) &&& 31)))), (3, .int (nI (i + 1)))] := lv_sub hl [2, 3, 1, 0] rfl
      have hl := wk_lset (y := mkoL μ w (i + 1)) (lv_sub (l' := [(2, .int ((mkoL μ w i) ||| (1 <<< ((nI i) &&& 31)))), (0, .ref (ad 0)), (1, .int w), (3, .int (nI (i + 1)))]) hl [2, 0, 1, 3] rfl) (by first | rfl | (simp [mkoL, h1, h2, h7]; done))
      have hl : lv_has ls 5 [(0, .ref (ad 0)), (1, .int w), (2, .int (mkoL μ w (i + 1))), (3, .int (nI (i + 1)))] := lv_sub hl [1, 2, 0, 3] rfl
      exact ih14 (i + 1) (by omega) (by omega) ls hl
  have hl : lv_has ls 5 [(0, .ref (ad 0)), (1, .int w), (2, .int 0), (3, .int 0)] := lv_sub hl [2, 3, 1, 0] rfl
  have hl := wk_lset (y := mkoL μ w 0) (lv_sub (l' := [(2, .int 0), (0, .ref (ad 0)), (1, .int w), (3, .int 0)]) hl [2, 0, 1, 3] rfl) (by first | rfl | (simp [mkoL, h1]; done))
  have hl : lv_has ls 5 [(0, .ref (ad 0)), (1, .int w), (2, .int (mkoL μ w 0)), (3, .int 0)] := lv_sub hl [1, 2, 0, 3] rfl
  have hl := wk_lset (y := nI 0) (lv_sub (l' := [(3, .int 0), (0, .ref (ad 0)), (1, .int w), (2, .int (mkoL μ w 0))]) hl [3, 0, 1, 2] rfl) (by first | rfl | (simp [mkoL, h1]; done))
  have hl : lv_has ls 5 [(0, .ref (ad 0)), (1, .int w), (2, .int (mkoL μ w 0)), (3, .int (nI 0))] := lv_sub hl [1, 2, 3, 0] rfl
  exact lp14 _ 0 (by omega) (Nat.lt_succ_self _) ls hl

/-! ===== LastWordModel, walked: titles, most, rate ===== -/
abbrev rmX8_titles : Room := { frames := 2, cells := 0, slots := 0, locals := 46 }
theorem hd_X8_titles : yX8_titles.cls = RX8 ∧ yX8_titles.cls ≠ "java/lang/invoke/MethodHandle" ∧ yX8_titles.cls ≠ "java/lang/invoke/VarHandle" ∧ (parseMethodDescriptor yX8_titles.desc).map (fun d => d.parameters.length) = some 2 := by decide +kernel
set_option maxHeartbeats 4000000 in
set_option maxRecDepth 100000 in
theorem c_X8_titles (l : Launch) (D : va_G) (c : Nat → ClassId) (ad : Nat → Nat) (μ : Nat → Nat → Int32) (r : Int64) (w : Int32) (v : Int32) (hW : wfW μ) : wk_RdI l yX8_titles wsX8_titles rmX8_titles D (tysL c) [.ref (ad 0), .int w, .int v] (modelW c ad μ r) (mtiV μ w v) := by
  refine wk_mkR (cc := cX8_titles) (maxL := 5) (rt := .int) (by decide) rfl (Nat.le_of_ble_eq_true rfl) rfl ?_
  intro pr ev ss mm args below meth cd ls H Q hst hP hK hl ret
  obtain ⟨hx, hb, hml, hown, hts, -⟩ := hst
  have hown : ss.vm.findClass RX8 = some mm.cls := hown
  have hl : lv_has ls 5 [(0, .ref (ad 0)), (1, .int w), (2, .int v)] := hl
  refine lv_aload_n hx hb dX8_titles_0 rfl (lv_at hl 0 rfl) ?_
  refine lv_iload_n hx hb dX8_titles_1 rfl (lv_at hl 1 rfl) ?_
  refine wk_callRV (As := [.int w]) (rest := []) ⟨hx, hb, hml, hown, hts⟩ (c_X8_isWriter l D c ad μ r w) (cwV 1 hts gX8_titles_X8_isWriter rfl rfl rfl hd_X8_isWriter ⟨Nat.le_of_ble_eq_true rfl, Nat.le_of_ble_eq_true rfl⟩) hK hP [0, 1, 2, 3, 4, 5, 6, 7, 8] rfl 0 rfl rfl rfl hl.1 rfl (Nat.le_of_ble_eq_true rfl) dX8_titles_2 (Nat.zero_le _) (Nat.zero_le _) ?_
  refine wk_bz (tgt := 21) hx hb dX8_titles_5 (by decide) (fun h1 => ?_) (fun h1 => ?_)
  · refine lv_iconst (v := -1) hx hb dX8_titles_21 (by decide) ?_
    exact ret 22 ls ((-1)) (by rw [mtiV, if_neg (fun q => absurd q.1 h1)]) dX8_titles_22
  refine lv_aload_n hx hb dX8_titles_8 rfl (lv_at hl 0 rfl) ?_
  refine lv_iload_n hx hb dX8_titles_9 rfl (lv_at hl 2 rfl) ?_
  refine wk_callRV (As := [.int v]) (rest := []) ⟨hx, hb, hml, hown, hts⟩ (c_X8_isWriter l D c ad μ r v) (cwV 1 hts gX8_titles_X8_isWriter rfl rfl rfl hd_X8_isWriter ⟨Nat.le_of_ble_eq_true rfl, Nat.le_of_ble_eq_true rfl⟩) hK hP [0, 1, 2, 3, 4, 5, 6, 7, 8] rfl 0 rfl rfl rfl hl.1 rfl (Nat.le_of_ble_eq_true rfl) dX8_titles_10 (Nat.zero_le _) (Nat.zero_le _) ?_
  refine wk_bz (tgt := 21) hx hb dX8_titles_13 (by decide) (fun h2 => ?_) (fun h2 => ?_)
  · refine lv_iconst (v := -1) hx hb dX8_titles_21 (by decide) ?_
    exact ret 22 ls ((-1)) (by rw [mtiV, if_neg (fun q => absurd q.2.1 h2)]) dX8_titles_22
  refine lv_iload_n hx hb dX8_titles_16 rfl (lv_at hl 1 rfl) ?_
  refine lv_iload_n hx hb dX8_titles_17 rfl (lv_at hl 2 rfl) ?_
  refine lv_icmp_ne (tgt := 23) hx hb dX8_titles_18 (by decide) (fun h3 => ?_) (fun h3 => ?_)
  rotate_left
  · refine lv_iconst (v := -1) hx hb dX8_titles_21 (by decide) ?_
    exact ret 22 ls ((-1)) (by rw [mtiV, if_neg (fun q => q.2.2 h3)]) dX8_titles_22
  obtain ⟨hw0, hw1⟩ := wM_ix hW h1
  obtain ⟨hv0, hv1⟩ := wM_ix hW h2
  have hW6 := hW.2
  have hne : mtiOK μ w v := ⟨h1, h2, h3⟩
  refine lv_iconst (v := 0) hx hb dX8_titles_23 (by decide) ?_
  refine lv_istore_n (lv' := [(3, .int 0), (0, .ref (ad 0)), (1, .int w), (2, .int v)]) hx hb dX8_titles_24 rfl hl (by decide) rfl (fun ls hl => ?_)
  refine lv_iconst (v := 0) hx hb dX8_titles_25 (by decide) ?_
  refine lv_istore (lv' := [(4, .int 0), (3, .int 0), (0, .ref (ad 0)), (1, .int w), (2, .int v)]) hx hb dX8_titles_26 hl (by decide) rfl (fun ls hl => ?_)
  have lp28 : ∀ (n : Nat) (i : Nat), (i ≤ 5) → 5 - i < n → ∀ ls : Array Slot, lv_has ls 5 [(0, .ref (ad 0)), (1, .int (nI w.toNatClampNeg)), (2, .int (nI v.toNatClampNeg)), (3, .int (mtiL μ (w.toNatClampNeg) (v.toNatClampNeg) i)), (4, .int (nI i))] → W pr l ev rmX8_titles ss mm args below meth cd H [] 0 0 Q (F0 mm 28 ls []) := by
    intro n
    induction n with
    | zero => intro i hi hn; exact absurd hn (Nat.not_lt_zero _)
    | succ n ih28 =>
      intro i hi hn ls hl
      refine lv_iload hx hb dX8_titles_28 (lv_at hl 4 rfl) ?_
      refine lv_iconst (v := 5) hx hb dX8_titles_30 (by decide) ?_
      refine wk_ge (tgt := 65) hx hb i 5 rfl rfl (by omega) (by omega) dX8_titles_31 (by decide) (fun h4 => ?_) (fun h4 => ?_)
      · refine lv_iload_n hx hb dX8_titles_65 rfl (lv_at hl 3 rfl) ?_
        exact ret 66 ls (mtiL μ (w.toNatClampNeg) (v.toNatClampNeg) i) (by rw [mtiV, if_pos hne, show i = 5 by omega]) dX8_titles_66
      refine lv_iload_n hx hb dX8_titles_34 rfl (lv_at hl 3 rfl) ?_
      refine lv_aload_n hx hb dX8_titles_35 rfl (lv_at hl 0 rfl) ?_
      refine lv_iload_n hx hb dX8_titles_36 rfl (lv_at hl 1 rfl) ?_
      refine lv_iload hx hb dX8_titles_37 (lv_at hl 4 rfl) ?_
      refine wk_callRV (As := [.int (nI w.toNatClampNeg), .int (nI i)]) (rest := [.int (mtiL μ (w.toNatClampNeg) (v.toNatClampNeg) i)]) ⟨hx, hb, hml, hown, hts⟩ (c_X8_near l D c ad μ r w.toNatClampNeg i (by omega) (by omega)) (cwV 2 hts gX8_titles_X8_near rfl rfl rfl hd_X8_near ⟨Nat.le_of_ble_eq_true rfl, Nat.le_of_ble_eq_true rfl⟩) hK hP [0, 1, 2, 3, 4, 5, 6, 7, 8] rfl 0 rfl rfl rfl hl.1 rfl (Nat.le_of_ble_eq_true rfl) dX8_titles_39 (Nat.zero_le _) (Nat.zero_le _) ?_
      refine lv_aload_n hx hb dX8_titles_42 rfl (lv_at hl 0 rfl) ?_
      refine lv_iload_n hx hb dX8_titles_43 rfl (lv_at hl 2 rfl) ?_
      refine lv_iload hx hb dX8_titles_44 (lv_at hl 4 rfl) ?_
      refine wk_callRV (As := [.int (nI v.toNatClampNeg), .int (nI i)]) (rest := [.int (nrM μ w.toNatClampNeg i), .int (mtiL μ (w.toNatClampNeg) (v.toNatClampNeg) i)]) ⟨hx, hb, hml, hown, hts⟩ (c_X8_near l D c ad μ r v.toNatClampNeg i (by omega) (by omega)) (cwV 2 hts gX8_titles_X8_near rfl rfl rfl hd_X8_near ⟨Nat.le_of_ble_eq_true rfl, Nat.le_of_ble_eq_true rfl⟩) hK hP [0, 1, 2, 3, 4, 5, 6, 7, 8] rfl 0 rfl rfl rfl hl.1 rfl (Nat.le_of_ble_eq_true rfl) dX8_titles_46 (Nat.zero_le _) (Nat.zero_le _) ?_
      refine lv_icmp_ne (tgt := 56) hx hb dX8_titles_49 (by decide) (fun h5 => ?_) (fun h5 => ?_)
      · refine lv_iconst (v := 0) hx hb dX8_titles_56 (by decide) ?_
        refine lv_iadd hx hb dX8_titles_57 ?_
        refine lv_istore_n (lv' := [(3, .int ((mtiL μ (w.toNatClampNeg) (v.toNatClampNeg) i) + 0)), (0, .ref (ad 0)), (1, .int (nI w.toNatClampNeg)), (2, .int (nI v.toNatClampNeg)), (4, .int (nI i))]) hx hb dX8_titles_58 rfl hl (by decide) rfl (fun ls hl => ?_)
        refine lv_iinc (v := nI (i + 1)) (lv' := [(4, .int (nI (i + 1))), (3, .int ((mtiL μ (w.toNatClampNeg) (v.toNatClampNeg) i) + 0)), (0, .ref (ad 0)), (1, .int (nI w.toNatClampNeg)), (2, .int (nI v.toNatClampNeg))]) hx hb dX8_titles_59 hl (k := 4) rfl (nI_inc i 1) (by decide) rfl (fun ls hl => ?_)
        refine lv_goto (tgt := 28) hx hb dX8_titles_62 (by decide) ?_
        have hl : lv_has ls 5 [(0, .ref (ad 0)), (1, .int (nI w.toNatClampNeg)), (2, .int (nI v.toNatClampNeg)), (3, .int ((mtiL μ (w.toNatClampNeg) (v.toNatClampNeg) i) + 0)), (4, .int (nI (i + 1)))] := lv_sub hl [2, 3, 4, 1, 0] rfl
        have hl := wk_lset (y := mtiL μ (w.toNatClampNeg) (v.toNatClampNeg) (i + 1)) (lv_sub (l' := [(3, .int ((mtiL μ (w.toNatClampNeg) (v.toNatClampNeg) i) + 0)), (0, .ref (ad 0)), (1, .int (nI w.toNatClampNeg)), (2, .int (nI v.toNatClampNeg)), (4, .int (nI (i + 1)))]) hl [3, 0, 1, 2, 4] rfl) (by first | exact hw0 | exact hv0 | rfl | (simp [mtiL, h1, h2, h3, h4, h5]; done))
        have hl : lv_has ls 5 [(0, .ref (ad 0)), (1, .int (nI w.toNatClampNeg)), (2, .int (nI v.toNatClampNeg)), (3, .int (mtiL μ (w.toNatClampNeg) (v.toNatClampNeg) (i + 1))), (4, .int (nI (i + 1)))] := lv_sub hl [1, 2, 3, 0, 4] rfl
        exact ih28 (i + 1) (by omega) (by omega) ls hl
      refine lv_iconst (v := 1) hx hb dX8_titles_52 (by decide) ?_
      refine lv_goto (tgt := 57) hx hb dX8_titles_53 (by decide) ?_
      refine lv_iadd hx hb dX8_titles_57 ?_
      refine lv_istore_n (lv' := [(3, .int ((mtiL μ (w.toNatClampNeg) (v.toNatClampNeg) i) + 1)), (0, .ref (ad 0)), (1, .int (nI w.toNatClampNeg)), (2, .int (nI v.toNatClampNeg)), (4, .int (nI i))]) hx hb dX8_titles_58 rfl hl (by decide) rfl (fun ls hl => ?_)
      refine lv_iinc (v := nI (i + 1)) (lv' := [(4, .int (nI (i + 1))), (3, .int ((mtiL μ (w.toNatClampNeg) (v.toNatClampNeg) i) + 1)), (0, .ref (ad 0)), (1, .int (nI w.toNatClampNeg)), (2, .int (nI v.toNatClampNeg))]) hx hb dX8_titles_59 hl (k := 4) rfl (nI_inc i 1) (by decide) rfl (fun ls hl => ?_)
      refine lv_goto (tgt := 28) hx hb dX8_titles_62 (by decide) ?_
      have hl : lv_has ls 5 [(0, .ref (ad 0)), (1, .int (nI w.toNatClampNeg)), (2, .int (nI v.toNatClampNeg)), (3, .int ((mtiL μ (w.toNatClampNeg) (v.toNatClampNeg) i) + 1)), (4, .int (nI (i + 1)))] := lv_sub hl [2, 3, 4, 1, 0] rfl
      have hl := wk_lset (y := mtiL μ (w.toNatClampNeg) (v.toNatClampNeg) (i + 1)) (lv_sub (l' := [(3, .int ((mtiL μ (w.toNatClampNeg) (v.toNatClampNeg) i) + 1)), (0, .ref (ad 0)), (1, .int (nI w.toNatClampNeg)), (2, .int (nI v.toNatClampNeg)), (4, .int (nI (i + 1)))]) hl [3, 0, 1, 2, 4] rfl) (by first | exact hw0 | exact hv0 | rfl | (simp [mtiL, h1, h2, h3, h4, h5]; done))
      have hl : lv_has ls 5 [(0, .ref (ad 0)), (1, .int (nI w.toNatClampNeg)), (2, .int (nI v.toNatClampNeg)), (3, .int (mtiL μ (w.toNatClampNeg) (v.toNatClampNeg) (i + 1))), (4, .int (nI (i + 1)))] := lv_sub hl [1, 2, 3, 0, 4] rfl
      exact ih28 (i + 1) (by omega) (by omega) ls hl
  have hl : lv_has ls 5 [(0, .ref (ad 0)), (1, .int w), (2, .int v), (3, .int 0), (4, .int 0)] := lv_sub hl [2, 3, 4, 1, 0] rfl
  have hl := wk_lset (y := nI w.toNatClampNeg) (lv_sub (l' := [(1, .int w), (0, .ref (ad 0)), (2, .int v), (3, .int 0), (4, .int 0)]) hl [1, 0, 2, 3, 4] rfl) (by first | exact hw0 | exact hv0 | rfl | (simp [mtiL, h1, h2, h3]; done))
  have hl : lv_has ls 5 [(0, .ref (ad 0)), (1, .int (nI w.toNatClampNeg)), (2, .int v), (3, .int 0), (4, .int 0)] := lv_sub hl [1, 0, 2, 3, 4] rfl
  have hl := wk_lset (y := nI v.toNatClampNeg) (lv_sub (l' := [(2, .int v), (0, .ref (ad 0)), (1, .int (nI w.toNatClampNeg)), (3, .int 0), (4, .int 0)]) hl [2, 0, 1, 3, 4] rfl) (by first | exact hw0 | exact hv0 | rfl | (simp [mtiL, h1, h2, h3]; done))
  have hl : lv_has ls 5 [(0, .ref (ad 0)), (1, .int (nI w.toNatClampNeg)), (2, .int (nI v.toNatClampNeg)), (3, .int 0), (4, .int 0)] := lv_sub hl [1, 2, 0, 3, 4] rfl
  have hl := wk_lset (y := mtiL μ (w.toNatClampNeg) (v.toNatClampNeg) 0) (lv_sub (l' := [(3, .int 0), (0, .ref (ad 0)), (1, .int (nI w.toNatClampNeg)), (2, .int (nI v.toNatClampNeg)), (4, .int 0)]) hl [3, 0, 1, 2, 4] rfl) (by first | exact hw0 | exact hv0 | rfl | (simp [mtiL, h1, h2, h3]; done))
  have hl : lv_has ls 5 [(0, .ref (ad 0)), (1, .int (nI w.toNatClampNeg)), (2, .int (nI v.toNatClampNeg)), (3, .int (mtiL μ (w.toNatClampNeg) (v.toNatClampNeg) 0)), (4, .int 0)] := lv_sub hl [1, 2, 3, 0, 4] rfl
  have hl := wk_lset (y := nI 0) (lv_sub (l' := [(4, .int 0), (0, .ref (ad 0)), (1, .int (nI w.toNatClampNeg)), (2, .int (nI v.toNatClampNeg)), (3, .int (mtiL μ (w.toNatClampNeg) (v.toNatClampNeg) 0))]) hl [4, 0, 1, 2, 3] rfl) (by first | exact hw0 | exact hv0 | rfl | (simp [mtiL, h1, h2, h3]; done))
  have hl : lv_has ls 5 [(0, .ref (ad 0)), (1, .int (nI w.toNatClampNeg)), (2, .int (nI v.toNatClampNeg)), (3, .int (mtiL μ (w.toNatClampNeg) (v.toNatClampNeg) 0)), (4, .int (nI 0))] := lv_sub hl [1, 2, 3, 4, 0] rfl
  exact lp28 _ 0 (by omega) (Nat.lt_succ_self _) ls hl

abbrev rmX8_most : Room := { frames := 2, cells := 0, slots := 0, locals := 45 }
theorem hd_X8_most : yX8_most.cls = RX8 ∧ yX8_most.cls ≠ "java/lang/invoke/MethodHandle" ∧ yX8_most.cls ≠ "java/lang/invoke/VarHandle" ∧ (parseMethodDescriptor yX8_most.desc).map (fun d => d.parameters.length) = some 0 := by decide +kernel
set_option maxHeartbeats 4000000 in
set_option maxRecDepth 100000 in
theorem c_X8_most (l : Launch) (D : va_G) (c : Nat → ClassId) (ad : Nat → Nat) (μ : Nat → Nat → Int32) (r : Int64) (hW : wfW μ) (hQ : wfQM μ) : wk_RdI l yX8_most wsX8_most rmX8_most D (tysL c) [.ref (ad 0)] (modelW c ad μ r) (mmoV μ) := by
  refine wk_mkR (cc := cX8_most) (maxL := 4) (rt := .int) (by decide) rfl (Nat.le_of_ble_eq_true rfl) rfl ?_
  intro pr ev ss mm args below meth cd ls H Q hst hP hK hl ret
  obtain ⟨hx, hb, hml, hown, hts, -⟩ := hst
  have hown : ss.vm.findClass RX8 = some mm.cls := hown
  have hl : lv_has ls 4 [(0, .ref (ad 0))] := hl
  have k1 := hts (.fieldLink RX8 16 "LastWordModel" "paper" "[I") (List.mem_of_getElem? (i := 1) rfl)
  have iX8 : ∀ w ∈ u_ws RX8 TX8 18, w ∈ wsX8_most := fun _ h => (List.mem_cons_of_mem _ (List.mem_append_right _ h))
  have hW6 := hW.2
  refine lv_bipush (v := -9) hx hb dX8_most_0 (by decide) ?_
  refine lv_istore_n (lv' := [(1, .int ((-9))), (0, .ref (ad 0))]) hx hb dX8_most_2 rfl hl (by decide) rfl (fun ls hl => ?_)
  refine lv_iconst (v := 0) hx hb dX8_most_3 (by decide) ?_
  refine lv_istore_n (lv' := [(2, .int 0), (1, .int ((-9))), (0, .ref (ad 0))]) hx hb dX8_most_4 rfl hl (by decide) rfl (fun ls hl => ?_)
  have lp5 : ∀ (n : Nat) (i : Nat), (i ≤ nM μ) → nM μ - i < n → ∀ ls : Array Slot, lv_has ls 4 [(0, .ref (ad 0)), (1, .int (mmoL μ i)), (2, .int (nI i))] → W pr l ev rmX8_most ss mm args below meth cd H [] 0 0 Q (F0 mm 5 ls []) := by
    intro n
    induction n with
    | zero => intro i hi hn; exact absurd hn (Nat.not_lt_zero _)
    | succ n ih5 =>
      intro i hi hn ls hl
      refine lv_iload_n hx hb dX8_most_5 rfl (lv_at hl 2 rfl) ?_
      refine lv_aload_n hx hb dX8_most_6 rfl (lv_at hl 0 rfl) ?_
      refine wg_X8_7 hx hb hts iX8 hown hK hP 0 rfl k1 (v := .ref (ad 7)) rfl dX8_most_7 ?_
      refine lv_iconst (v := 0) hx hb dX8_most_10 (by decide) ?_
      refine wk_ald (f := μ 7) hx hb hK hP 3 0 rfl rfl 0 rfl (by omega) (by decide) dX8_most_11 ?_
      refine wk_eqi (y := nI (nM μ)) (hW.1) ?_
      refine wk_ge (tgt := 52) hx hb i (nM μ) rfl rfl (by omega) (by omega) dX8_most_12 (by decide) (fun h1 => ?_) (fun h1 => ?_)
      · refine lv_iload_n hx hb dX8_most_52 rfl (lv_at hl 1 rfl) ?_
        exact ret 53 ls (mmoL μ i) (by rw [mmoV, show i = nM μ by omega]) dX8_most_53
      refine lv_aload_n hx hb dX8_most_15 rfl (lv_at hl 0 rfl) ?_
      refine lv_iload_n hx hb dX8_most_16 rfl (lv_at hl 2 rfl) ?_
      refine wk_callRV (As := [.int (nI i)]) (rest := []) ⟨hx, hb, hml, hown, hts⟩ (c_X8_words l D c ad μ r (nI i) (by assumption)) (cwV 1 hts gX8_most_X8_words rfl rfl rfl hd_X8_words ⟨Nat.le_of_ble_eq_true rfl, Nat.le_of_ble_eq_true rfl⟩) hK hP [0, 1, 2, 3, 4, 5, 6, 7, 8] rfl 0 rfl rfl rfl hl.1 rfl (Nat.le_of_ble_eq_true rfl) dX8_most_17 (Nat.zero_le _) (Nat.zero_le _) ?_
      refine lv_istore_n (lv' := [(3, .int (wdM μ (nI i) (qM μ))), (0, .ref (ad 0)), (1, .int (mmoL μ i)), (2, .int (nI i))]) hx hb dX8_most_20 rfl hl (by decide) rfl (fun ls hl => ?_)
      refine lv_iload_n hx hb dX8_most_21 rfl (lv_at hl 0 rfl) ?_
      refine lv_if_le (tgt := 44) hx hb dX8_most_22 (by decide) (fun h2 => ?_) (fun h2 => ?_)
      · refine lv_iload_n hx hb dX8_most_44 rfl (lv_at hl 2 rfl) ?_
        refine lv_istore_n (lv' := [(1, .int (mmoL μ i)), (3, .int (wdM μ (nI i) (qM μ))), (0, .ref (ad 0)), (2, .int (nI i))]) hx hb dX8_most_45 rfl hl (by decide) rfl (fun ls hl => ?_)
        refine lv_iinc (v := nI (i + 1)) (lv' := [(2, .int (nI (i + 1))), (1, .int (mmoL μ i)), (3, .int (wdM μ (nI i) (qM μ))), (0, .ref (ad 0))]) hx hb dX8_most_46 hl (k := 3) rfl (nI_inc i 1) (by decide) rfl (fun ls hl => ?_)
        refine lv_goto (tgt := 5) hx hb dX8_most_49 (by decide) ?_
        have hl : lv_has ls 4 [(0, .ref (ad 0)), (1, .int (mmoL μ i)), (2, .int (nI (i + 1)))] := lv_sub hl [3, 1, 0] rfl
        have hl := wk_lset (y := mmoL μ (i + 1)) (lv_sub (l' := [(1, .int (mmoL μ i)), (0, .ref (ad 0)), (2, .int (nI (i + 1)))]) hl [1, 0, 2] rfl) (by first | rfl | (simp [mmoL, ← Int32.not_le, h1, h2]; done))
        have hl : lv_has ls 4 [(0, .ref (ad 0)), (1, .int (mmoL μ (i + 1))), (2, .int (nI (i + 1)))] := lv_sub hl [1, 0, 2] rfl
        exact ih5 (i + 1) (by omega) (by omega) ls hl
      refine lv_iload_n hx hb dX8_most_25 rfl (lv_at hl 2 rfl) ?_
      refine lv_bipush (v := -9) hx hb dX8_most_26 (by decide) ?_
      refine lv_icmp_eq (tgt := 40) hx hb dX8_most_28 (by decide) (fun h3 => ?_) (fun h3 => ?_)
      · refine lv_iload_n hx hb dX8_most_40 rfl (lv_at hl 3 rfl) ?_
        refine lv_goto (tgt := 45) hx hb dX8_most_41 (by decide) ?_
        refine lv_istore_n (lv' := [(1, .int (nI i)), (3, .int (wdM μ (nI i) (qM μ))), (0, .ref (ad 0)), (2, .int (nI i))]) hx hb dX8_most_45 rfl hl (by decide) rfl (fun ls hl => ?_)
        refine lv_iinc (v := nI (i + 1)) (lv' := [(2, .int (nI (i + 1))), (1, .int (nI i)), (3, .int (wdM μ (nI i) (qM μ))), (0, .ref (ad 0))]) hx hb dX8_most_46 hl (k := 3) rfl (nI_inc i 1) (by decide) rfl (fun ls hl => ?_)
        refine lv_goto (tgt := 5) hx hb dX8_most_49 (by decide) ?_
        have hl : lv_has ls 4 [(0, .ref (ad 0)), (1, .int (nI i)), (2, .int (nI (i + 1)))] := lv_sub hl [3, 1, 0] rfl
        have hl := wk_lset (y := mmoL μ (i + 1)) (lv_sub (l' := [(1, .int (nI i)), (0, .ref (ad 0)), (2, .int (nI (i + 1)))]) hl [1, 0, 2] rfl) (by first | rfl | (simp [mmoL, ← Int32.not_le, h1, h2, h3]; done))
        have hl : lv_has ls 4 [(0, .ref (ad 0)), (1, .int (mmoL μ (i + 1))), (2, .int (nI (i + 1)))] := lv_sub hl [1, 0, 2] rfl
        exact ih5 (i + 1) (by omega) (by omega) ls hl
      refine lv_iload_n hx hb dX8_most_31 rfl (lv_at hl 0 rfl) ?_
      refine lv_aload_n hx hb dX8_most_32 rfl (lv_at hl 1 rfl) ?_
      refine lv_iload_n hx hb dX8_most_33 rfl (lv_at hl 2 rfl) ?_
      refine wk_callRV (As := [.int (mmoL μ i)]) (rest := [.int (wdM μ (nI i) (qM μ))]) ⟨hx, hb, hml, hown, hts⟩ (c_X8_words l D c ad μ r (mmoL μ i) (by assumption)) (cwV 1 hts gX8_most_X8_words rfl rfl rfl hd_X8_words ⟨Nat.le_of_ble_eq_true rfl, Nat.le_of_ble_eq_true rfl⟩) hK hP [0, 1, 2, 3, 4, 5, 6, 7, 8] rfl 0 rfl rfl rfl hl.1 rfl (Nat.le_of_ble_eq_true rfl) dX8_most_34 (Nat.zero_le _) (Nat.zero_le _) ?_
      refine lv_icmp_le (tgt := 44) hx hb dX8_most_37 (by decide) (fun h4 => ?_) (fun h4 => ?_)
      · refine lv_iload_n hx hb dX8_most_44 rfl (lv_at hl 2 rfl) ?_
        refine lv_istore_n (lv' := [(1, .int (mmoL μ i)), (3, .int (wdM μ (nI i) (qM μ))), (0, .ref (ad 0)), (2, .int (nI i))]) hx hb dX8_most_45 rfl hl (by decide) rfl (fun ls hl => ?_)
        refine lv_iinc (v := nI (i + 1)) (lv' := [(2, .int (nI (i + 1))), (1, .int (mmoL μ i)), (3, .int (wdM μ (nI i) (qM μ))), (0, .ref (ad 0))]) hx hb dX8_most_46 hl (k := 3) rfl (nI_inc i 1) (by decide) rfl (fun ls hl => ?_)
        refine lv_goto (tgt := 5) hx hb dX8_most_49 (by decide) ?_
        have hl : lv_has ls 4 [(0, .ref (ad 0)), (1, .int (mmoL μ i)), (2, .int (nI (i + 1)))] := lv_sub hl [3, 1, 0] rfl
        have hl := wk_lset (y := mmoL μ (i + 1)) (lv_sub (l' := [(1, .int (mmoL μ i)), (0, .ref (ad 0)), (2, .int (nI (i + 1)))]) hl [1, 0, 2] rfl) (by first | rfl | (simp [mmoL, ← Int32.not_le, h1, h2, h3, h4]; done))
        have hl : lv_has ls 4 [(0, .ref (ad 0)), (1, .int (mmoL μ (i + 1))), (2, .int (nI (i + 1)))] := lv_sub hl [1, 0, 2] rfl
        exact ih5 (i + 1) (by omega) (by omega) ls hl
      refine lv_iload_n hx hb dX8_most_40 rfl (lv_at hl 3 rfl) ?_
      refine lv_goto (tgt := 45) hx hb dX8_most_41 (by decide) ?_
      refine lv_istore_n (lv' := [(1, .int (nI i)), (3, .int (wdM μ (nI i) (qM μ))), (0, .ref (ad 0)), (2, .int (nI i))]) hx hb dX8_most_45 rfl hl (by decide) rfl (fun ls hl => ?_)
      refine lv_iinc (v := nI (i + 1)) (lv' := [(2, .int (nI (i + 1))), (1, .int (nI i)), (3, .int (wdM μ (nI i) (qM μ))), (0, .ref (ad 0))]) hx hb dX8_most_46 hl (k := 3) rfl (nI_inc i 1) (by decide) rfl (fun ls hl => ?_)
      refine lv_goto (tgt := 5) hx hb dX8_most_49 (by decide) ?_
      have hl : lv_has ls 4 [(0, .ref (ad 0)), (1, .int (nI i)), (2, .int (nI (i + 1)))] := lv_sub hl [3, 1, 0] rfl
      have hl := wk_lset (y := mmoL μ (i + 1)) (lv_sub (l' := [(1, .int (nI i)), (0, .ref (ad 0)), (2, .int (nI (i + 1)))]) hl [1, 0, 2] rfl) (by first | rfl | (simp [mmoL, ← Int32.not_le, h1, h2, h3, h4]; done))
      have hl : lv_has ls 4 [(0, .ref (ad 0)), (1, .int (mmoL μ (i + 1))), (2, .int (nI (i + 1)))] := lv_sub hl [1, 0, 2] rfl
      exact ih5 (i + 1) (by omega) (by omega) ls hl
  have hl : lv_has ls 4 [(0, .ref (ad 0)), (1, .int ((-9))), (2, .int 0)] := lv_sub hl [2, 1, 0] rfl
  have hl := wk_lset (y := mmoL μ 0) (lv_sub (l' := [(1, .int ((-9))), (0, .ref (ad 0)), (2, .int 0)]) hl [1, 0, 2] rfl) (by first | rfl | (simp [mmoL, ← Int32.not_le]; done))
  have hl : lv_has ls 4 [(0, .ref (ad 0)), (1, .int (mmoL μ 0)), (2, .int 0)] := lv_sub hl [1, 0, 2] rfl
  have hl := wk_lset (y := nI 0) (lv_sub (l' := [(2, .int 0), (0, .ref (ad 0)), (1, .int (mmoL μ 0))]) hl [2, 0, 1] rfl) (by first | rfl | (simp [mmoL, ← Int32.not_le]; done))
  have hl : lv_has ls 4 [(0, .ref (ad 0)), (1, .int (mmoL μ 0)), (2, .int (nI 0))] := lv_sub hl [1, 2, 0] rfl
  exact lp5 _ 0 (by omega) (Nat.lt_succ_self _) ls hl

abbrev rmX8_rate : Room := { frames := 2, cells := 0, slots := 0, locals := 46 }
theorem hd_X8_rate : yX8_rate.cls = RX8 ∧ yX8_rate.cls ≠ "java/lang/invoke/MethodHandle" ∧ yX8_rate.cls ≠ "java/lang/invoke/VarHandle" ∧ (parseMethodDescriptor yX8_rate.desc).map (fun d => d.parameters.length) = some 2 := by decide +kernel
set_option maxHeartbeats 4000000 in
set_option maxRecDepth 100000 in
theorem c_X8_rate (l : Launch) (D : va_G) (c : Nat → ClassId) (ad : Nat → Nat) (μ : Nat → Nat → Int32) (r : Int64) (d : Int32) (w : Int32) (hW : wfW μ) (hQ : wfQM μ) : wk_UpI l yX8_rate wsX8_rate rmX8_rate D (tysL c) [.ref (ad 0), .int d, .int w] (modelW c ad μ r) (modelW c ad μ (mraR μ r d w)) (mraV μ d w) := by
  refine wk_mkU (cc := cX8_rate) (maxL := 5) (rt := .int) (by decide) rfl (Nat.le_of_ble_eq_true rfl) rfl ?_
  intro A pr ev ss mm args below meth cd ls H H0 locs Q hst hP hK hD hS hA hl ret
  obtain ⟨hx, hb, hml, hown, hts, -⟩ := hst
  have hown : ss.vm.findClass RX8 = some mm.cls := hown
  have hl : lv_has ls 5 [(0, .ref (ad 0)), (1, .int d), (2, .int w)] := hl
  have k1 := hts (.constantLong RX8 110 (5)) (List.mem_of_getElem? (i := 1) rfl)
  have k2 := hts (.constant RX8 182 (-1000000)) (List.mem_of_getElem? (i := 2) rfl)
  have k3 := hts (.fieldLink RX8 183 "LastWordModel" "trace" "J") (List.mem_of_getElem? (i := 3) rfl)
  have k9 := hts (.fieldLink RX8 19 "LastWordModel" "now" "[I") (List.mem_of_getElem? (i := 9) rfl)
  have k4 := hts (.constantLong RX8 187 (11)) (List.mem_of_getElem? (i := 4) rfl)
  have k5 := hts (.constantLong RX8 189 (101)) (List.mem_of_getElem? (i := 5) rfl)
  have k6 := hts (.constantLong RX8 191 (1011)) (List.mem_of_getElem? (i := 6) rfl)
  have k7 := hts (.constantLong RX8 193 (10101)) (List.mem_of_getElem? (i := 7) rfl)
  have k8 := hts (.constantLong RX8 195 (100001)) (List.mem_of_getElem? (i := 8) rfl)
  have iX8 : ∀ w ∈ u_ws RX8 TX8 18, w ∈ wsX8_rate := fun _ h => (List.mem_cons_of_mem _ (List.mem_append_right _ h))
  refine lv_iload_n hx hb dX8_rate_0 rfl (lv_at hl 1 rfl) ?_
  refine lv_i2l (v := Int32.toInt64 d) hx hb dX8_rate_1 rfl ?_
  refine lv_lconst (v := 0) hx hb dX8_rate_2 (by decide) ?_
  refine lv_ldc2 hx hb hown k1 dX8_rate_3 ?_
  refine wk_callRS (As := [.long (Int32.toInt64 d), .long (Int32.toInt64 0), .long (Int32.toInt64 5)]) (rest := []) ⟨hx, hb, hml, hown, hts⟩ (c_X8_in l D c d 0 5) (va_cwS 3 hts gX8_rate_X8_in rfl rfl rfl hd_X8_in ⟨Nat.le_of_ble_eq_true rfl, Nat.le_of_ble_eq_true rfl⟩) hK hP [] rfl rfl hl.1 rfl (Nat.le_of_ble_eq_true rfl) dX8_rate_6 (Nat.zero_le _) (Nat.zero_le _) ?_
  refine wk_bz (tgt := 20) hx hb dX8_rate_9 (by decide) (fun h1 => ?_) (fun h1 => ?_)
  · refine lv_ldc hx hb hown k2 dX8_rate_20 ?_
    have ek : r = mraR μ r d w := by rw [mraR, if_neg (fun q => absurd q.1 h1)]
    have hP : va_P D vwCl (modelW c ad μ (mraR μ r d w)) H := by rw [← ek]; exact hP
    exact ret 22 ls H _ ((-1000000)) (by rw [mraV, if_neg (fun q => absurd q.1 h1)]) hP hS dX8_rate_22
  refine lv_aload_n hx hb dX8_rate_12 rfl (lv_at hl 0 rfl) ?_
  refine lv_iload_n hx hb dX8_rate_13 rfl (lv_at hl 2 rfl) ?_
  refine wk_callRV (As := [.int w]) (rest := []) ⟨hx, hb, hml, hown, hts⟩ (c_X8_isWriter l D c ad μ r w) (cwV 1 hts gX8_rate_X8_isWriter rfl rfl rfl hd_X8_isWriter ⟨Nat.le_of_ble_eq_true rfl, Nat.le_of_ble_eq_true rfl⟩) hK hP [0, 1, 2, 3, 4, 5, 6, 7, 8] rfl 0 rfl rfl rfl hl.1 rfl (Nat.le_of_ble_eq_true rfl) dX8_rate_14 (Nat.zero_le _) (Nat.zero_le _) ?_
  refine wk_bnz (tgt := 23) hx hb dX8_rate_17 (by decide) (fun h2 => ?_) (fun h2 => ?_)
  rotate_left
  · refine lv_ldc hx hb hown k2 dX8_rate_20 ?_
    have ek : r = mraR μ r d w := by rw [mraR, if_neg (fun q => absurd q.2 h2)]
    have hP : va_P D vwCl (modelW c ad μ (mraR μ r d w)) H := by rw [← ek]; exact hP
    exact ret 22 ls H _ ((-1000000)) (by rw [mraV, if_neg (fun q => absurd q.2 h2)]) hP hS dX8_rate_22
  have hw := wM_ix hW h2
  have hw2 := hw.2
  have hW6 := hW.2
  have hd := in_ix (y := 6) (n := 6) rfl (by omega) h1
  obtain ⟨ksw, hksw, ed⟩ : ∃ k : Nat, k < 6 ∧ d = nI k := ⟨_, hd.2, hd.1⟩
  clear hd
  subst ed
  rcases (show ksw = 0 ∨ ksw = 1 ∨ ksw = 2 ∨ ksw = 3 ∨ ksw = 4 ∨ ksw = 5 by omega) with rfl | rfl | rfl | rfl | rfl | rfl
  · refine lv_aload_n hx hb dX8_rate_23 rfl (lv_at hl 0 rfl) ?_
    refine lv_dup hx hb dX8_rate_24 rfl ?_
    refine wg_X8_16 hx hb hts iX8 hown hK hP 0 rfl k3 (v := .long r) rfl dX8_rate_25 ?_
    refine lv_iload_n hx hb dX8_rate_28 rfl (lv_at hl 1 rfl) ?_
    refine lv_if_ne (tgt := 36) hx hb dX8_rate_29 (by decide) (fun q => absurd (by decide) q) (fun _ => ?_)
    refine lv_lconst (v := 1) hx hb dX8_rate_32 (by decide) ?_
    refine lv_goto (tgt := 83) hx hb dX8_rate_33 (by decide) ?_
    refine lv_ladd hx hb dX8_rate_83 ?_
    refine wp_X8_16 hx hb hts iX8 hown hK hP hD hS 0 rfl k3 (Nat.le_of_ble_eq_true rfl) dX8_rate_84 (ws' := modelW c ad μ (r + 1)) rfl (fun H locs hP hD hS => ?_)
    refine lv_aload_n hx hb dX8_rate_87 rfl (lv_at hl 0 rfl) ?_
    refine lv_iload_n hx hb dX8_rate_88 rfl (lv_at hl 2 rfl) ?_
    refine wk_eqi (y := nI w.toNatClampNeg) (hw.1) ?_
    refine wk_callRV (As := [.int (nI w.toNatClampNeg)]) (rest := []) ⟨hx, hb, hml, hown, hts⟩ (c_X8_pen l D c ad μ ((r + 1)) w.toNatClampNeg (by omega)) (cwV 1 hts gX8_rate_X8_pen rfl rfl rfl hd_X8_pen ⟨Nat.le_of_ble_eq_true rfl, Nat.le_of_ble_eq_true rfl⟩) hK hP [0, 1, 2, 3, 4, 5, 6, 7, 8] rfl 0 rfl rfl rfl hl.1 rfl (Nat.le_of_ble_eq_true rfl) dX8_rate_89 (Nat.zero_le _) (Nat.zero_le _) ?_
    refine lv_aload_n hx hb dX8_rate_92 rfl (lv_at hl 0 rfl) ?_
    refine lv_iload_n hx hb dX8_rate_93 rfl (lv_at hl 2 rfl) ?_
    refine wk_callRV (As := [.int w]) (rest := [.int (μ 7 (3 + 7 * w.toNatClampNeg))]) ⟨hx, hb, hml, hown, hts⟩ (c_X8_owes l D c ad μ ((r + 1)) w (by assumption)) (cwV 1 hts gX8_rate_X8_owes rfl rfl rfl hd_X8_owes ⟨Nat.le_of_ble_eq_true rfl, Nat.le_of_ble_eq_true rfl⟩) hK hP [0, 1, 2, 3, 4, 5, 6, 7, 8] rfl 0 rfl rfl rfl hl.1 rfl (Nat.le_of_ble_eq_true rfl) dX8_rate_94 (Nat.zero_le _) (Nat.zero_le _) ?_
    refine lv_iadd hx hb dX8_rate_97 ?_
    refine lv_istore_n (lv' := [(3, .int ((μ 7 (3 + 7 * w.toNatClampNeg)) + (owM μ w (qM μ)))), (0, .ref (ad 0)), (1, .int (nI 0)), (2, .int w)]) hx hb dX8_rate_98 rfl hl (by decide) rfl (fun ls hl => ?_)
    refine lv_aload_n hx hb dX8_rate_99 rfl (lv_at hl 1 rfl) ?_
    refine lv_iload_n hx hb dX8_rate_100 rfl (lv_at hl 3 rfl) ?_
    refine wk_eqi (y := nI w.toNatClampNeg) (hw.1) ?_
    refine wk_callRV (As := [.int (nI w.toNatClampNeg)]) (rest := []) ⟨hx, hb, hml, hown, hts⟩ (c_X8_pen l D c ad μ ((r + 1)) w.toNatClampNeg (by omega)) (cwV 1 hts gX8_rate_X8_pen rfl rfl rfl hd_X8_pen ⟨Nat.le_of_ble_eq_true rfl, Nat.le_of_ble_eq_true rfl⟩) hK hP [0, 1, 2, 3, 4, 5, 6, 7, 8] rfl 0 rfl rfl rfl hl.1 rfl (Nat.le_of_ble_eq_true rfl) dX8_rate_101 (Nat.zero_le _) (Nat.zero_le _) ?_
    refine lv_aload_n hx hb dX8_rate_104 rfl (lv_at hl 1 rfl) ?_
    refine wg_X8_8 hx hb hts iX8 hown hK hP 0 rfl k9 (v := .ref (ad 8)) rfl dX8_rate_105 ?_
    refine lv_iconst (v := 4) hx hb dX8_rate_108 (by decide) ?_
    refine lv_iload_n hx hb dX8_rate_109 rfl (lv_at hl 3 rfl) ?_
    refine wk_eqi (y := nI w.toNatClampNeg) (hw.1) ?_
    refine lv_iadd hx hb dX8_rate_110 ?_
    refine wk_eqi (nI_add 4 w.toNatClampNeg) ?_
    refine wk_ald (f := μ 8) hx hb hK hP 4 0 rfl rfl (4 + w.toNatClampNeg) rfl (by omega) (by decide) dX8_rate_111 ?_
    refine lv_isub hx hb dX8_rate_112 ?_
    refine lv_istore (lv' := [(4, .int ((μ 7 (3 + 7 * w.toNatClampNeg)) - (μ 8 (4 + w.toNatClampNeg)))), (3, .int ((μ 7 (3 + 7 * w.toNatClampNeg)) + (owM μ w (qM μ)))), (0, .ref (ad 0)), (1, .int (nI 0)), (2, .int w)]) hx hb dX8_rate_113 hl (by decide) rfl (fun ls hl => ?_)
    refine lv_iload_n hx hb dX8_rate_115 rfl (lv_at hl 3 rfl) ?_
    refine lv_tableIn (off := 36) (tgt := 152) hx hb dX8_rate_116 (by decide) (by decide) (by decide) (by decide) ?_
    refine lv_aload_n hx hb dX8_rate_152 rfl (lv_at hl 2 rfl) ?_
    refine lv_iload_n hx hb dX8_rate_153 rfl (lv_at hl 4 rfl) ?_
    refine wk_eqi (y := nI w.toNatClampNeg) (hw.1) ?_
    refine wk_callRV (As := [.int (nI w.toNatClampNeg)]) (rest := []) ⟨hx, hb, hml, hown, hts⟩ (c_X8_pen l D c ad μ ((r + 1)) w.toNatClampNeg (by omega)) (cwV 1 hts gX8_rate_X8_pen rfl rfl rfl hd_X8_pen ⟨Nat.le_of_ble_eq_true rfl, Nat.le_of_ble_eq_true rfl⟩) hK hP [0, 1, 2, 3, 4, 5, 6, 7, 8] rfl 0 rfl rfl rfl hl.1 rfl (Nat.le_of_ble_eq_true rfl) dX8_rate_154 (Nat.zero_le _) (Nat.zero_le _) ?_
    have ek : (r + 1) = mraR μ r (nI 0) w := by rw [mraR, if_pos ⟨h1, h2⟩]; rfl
    have hP : va_P D vwCl (modelW c ad μ (mraR μ r (nI 0) w)) H := by rw [← ek]; exact hP
    exact ret 157 ls H _ (μ 7 (3 + 7 * w.toNatClampNeg)) (by rw [mraV, if_pos ⟨h1, h2⟩]; rfl) hP hS dX8_rate_157
  · refine lv_aload_n hx hb dX8_rate_23 rfl (lv_at hl 0 rfl) ?_
    refine lv_dup hx hb dX8_rate_24 rfl ?_
    refine wg_X8_16 hx hb hts iX8 hown hK hP 0 rfl k3 (v := .long r) rfl dX8_rate_25 ?_
    refine lv_iload_n hx hb dX8_rate_28 rfl (lv_at hl 1 rfl) ?_
    refine lv_if_ne (tgt := 36) hx hb dX8_rate_29 (by decide) (fun _ => ?_) (fun q => absurd q (by decide))
    refine lv_iload_n hx hb dX8_rate_36 rfl (lv_at hl 1 rfl) ?_
    refine lv_iconst (v := 1) hx hb dX8_rate_37 (by decide) ?_
    refine lv_icmp_ne (tgt := 47) hx hb dX8_rate_38 (by decide) (fun q => absurd (by decide) q) (fun _ => ?_)
    refine lv_ldc2 hx hb hown k4 dX8_rate_41 ?_
    refine lv_goto (tgt := 83) hx hb dX8_rate_44 (by decide) ?_
    refine lv_ladd hx hb dX8_rate_83 ?_
    refine wp_X8_16 hx hb hts iX8 hown hK hP hD hS 0 rfl k3 (Nat.le_of_ble_eq_true rfl) dX8_rate_84 (ws' := modelW c ad μ (r + 11)) rfl (fun H locs hP hD hS => ?_)
    refine lv_aload_n hx hb dX8_rate_87 rfl (lv_at hl 0 rfl) ?_
    refine lv_iload_n hx hb dX8_rate_88 rfl (lv_at hl 2 rfl) ?_
    refine wk_eqi (y := nI w.toNatClampNeg) (hw.1) ?_
    refine wk_callRV (As := [.int (nI w.toNatClampNeg)]) (rest := []) ⟨hx, hb, hml, hown, hts⟩ (c_X8_pen l D c ad μ ((r + 11)) w.toNatClampNeg (by omega)) (cwV 1 hts gX8_rate_X8_pen rfl rfl rfl hd_X8_pen ⟨Nat.le_of_ble_eq_true rfl, Nat.le_of_ble_eq_true rfl⟩) hK hP [0, 1, 2, 3, 4, 5, 6, 7, 8] rfl 0 rfl rfl rfl hl.1 rfl (Nat.le_of_ble_eq_true rfl) dX8_rate_89 (Nat.zero_le _) (Nat.zero_le _) ?_
    refine lv_aload_n hx hb dX8_rate_92 rfl (lv_at hl 0 rfl) ?_
    refine lv_iload_n hx hb dX8_rate_93 rfl (lv_at hl 2 rfl) ?_
    refine wk_callRV (As := [.int w]) (rest := [.int (μ 7 (3 + 7 * w.toNatClampNeg))]) ⟨hx, hb, hml, hown, hts⟩ (c_X8_owes l D c ad μ ((r + 11)) w (by assumption)) (cwV 1 hts gX8_rate_X8_owes rfl rfl rfl hd_X8_owes ⟨Nat.le_of_ble_eq_true rfl, Nat.le_of_ble_eq_true rfl⟩) hK hP [0, 1, 2, 3, 4, 5, 6, 7, 8] rfl 0 rfl rfl rfl hl.1 rfl (Nat.le_of_ble_eq_true rfl) dX8_rate_94 (Nat.zero_le _) (Nat.zero_le _) ?_
    refine lv_iadd hx hb dX8_rate_97 ?_
    refine lv_istore_n (lv' := [(3, .int ((μ 7 (3 + 7 * w.toNatClampNeg)) + (owM μ w (qM μ)))), (0, .ref (ad 0)), (1, .int (nI 1)), (2, .int w)]) hx hb dX8_rate_98 rfl hl (by decide) rfl (fun ls hl => ?_)
    refine lv_aload_n hx hb dX8_rate_99 rfl (lv_at hl 1 rfl) ?_
    refine lv_iload_n hx hb dX8_rate_100 rfl (lv_at hl 3 rfl) ?_
    refine wk_eqi (y := nI w.toNatClampNeg) (hw.1) ?_
    refine wk_callRV (As := [.int (nI w.toNatClampNeg)]) (rest := []) ⟨hx, hb, hml, hown, hts⟩ (c_X8_pen l D c ad μ ((r + 11)) w.toNatClampNeg (by omega)) (cwV 1 hts gX8_rate_X8_pen rfl rfl rfl hd_X8_pen ⟨Nat.le_of_ble_eq_true rfl, Nat.le_of_ble_eq_true rfl⟩) hK hP [0, 1, 2, 3, 4, 5, 6, 7, 8] rfl 0 rfl rfl rfl hl.1 rfl (Nat.le_of_ble_eq_true rfl) dX8_rate_101 (Nat.zero_le _) (Nat.zero_le _) ?_
    refine lv_aload_n hx hb dX8_rate_104 rfl (lv_at hl 1 rfl) ?_
    refine wg_X8_8 hx hb hts iX8 hown hK hP 0 rfl k9 (v := .ref (ad 8)) rfl dX8_rate_105 ?_
    refine lv_iconst (v := 4) hx hb dX8_rate_108 (by decide) ?_
    refine lv_iload_n hx hb dX8_rate_109 rfl (lv_at hl 3 rfl) ?_
    refine wk_eqi (y := nI w.toNatClampNeg) (hw.1) ?_
    refine lv_iadd hx hb dX8_rate_110 ?_
    refine wk_eqi (nI_add 4 w.toNatClampNeg) ?_
    refine wk_ald (f := μ 8) hx hb hK hP 4 0 rfl rfl (4 + w.toNatClampNeg) rfl (by omega) (by decide) dX8_rate_111 ?_
    refine lv_isub hx hb dX8_rate_112 ?_
    refine lv_istore (lv' := [(4, .int ((μ 7 (3 + 7 * w.toNatClampNeg)) - (μ 8 (4 + w.toNatClampNeg)))), (3, .int ((μ 7 (3 + 7 * w.toNatClampNeg)) + (owM μ w (qM μ)))), (0, .ref (ad 0)), (1, .int (nI 1)), (2, .int w)]) hx hb dX8_rate_113 hl (by decide) rfl (fun ls hl => ?_)
    refine lv_iload_n hx hb dX8_rate_115 rfl (lv_at hl 3 rfl) ?_
    refine lv_tableIn (off := 42) (tgt := 158) hx hb dX8_rate_116 (by decide) (by decide) (by decide) (by decide) ?_
    refine lv_iload_n hx hb dX8_rate_158 rfl (lv_at hl 1 rfl) ?_
    have ek : (r + 11) = mraR μ r (nI 1) w := by rw [mraR, if_pos ⟨h1, h2⟩]; rfl
    have hP : va_P D vwCl (modelW c ad μ (mraR μ r (nI 1) w)) H := by rw [← ek]; exact hP
    exact ret 159 ls H _ ((μ 7 (3 + 7 * w.toNatClampNeg)) + (owM μ w (qM μ))) (by rw [mraV, if_pos ⟨h1, h2⟩]; rfl) hP hS dX8_rate_159
  · refine lv_aload_n hx hb dX8_rate_23 rfl (lv_at hl 0 rfl) ?_
    refine lv_dup hx hb dX8_rate_24 rfl ?_
    refine wg_X8_16 hx hb hts iX8 hown hK hP 0 rfl k3 (v := .long r) rfl dX8_rate_25 ?_
    refine lv_iload_n hx hb dX8_rate_28 rfl (lv_at hl 1 rfl) ?_
    refine lv_if_ne (tgt := 36) hx hb dX8_rate_29 (by decide) (fun _ => ?_) (fun q => absurd q (by decide))
    refine lv_iload_n hx hb dX8_rate_36 rfl (lv_at hl 1 rfl) ?_
    refine lv_iconst (v := 1) hx hb dX8_rate_37 (by decide) ?_
    refine lv_icmp_ne (tgt := 47) hx hb dX8_rate_38 (by decide) (fun _ => ?_) (fun q => absurd q (by decide))
    refine lv_iload_n hx hb dX8_rate_47 rfl (lv_at hl 1 rfl) ?_
    refine lv_iconst (v := 2) hx hb dX8_rate_48 (by decide) ?_
    refine lv_icmp_ne (tgt := 58) hx hb dX8_rate_49 (by decide) (fun q => absurd (by decide) q) (fun _ => ?_)
    refine lv_ldc2 hx hb hown k5 dX8_rate_52 ?_
    refine lv_goto (tgt := 83) hx hb dX8_rate_55 (by decide) ?_
    refine lv_ladd hx hb dX8_rate_83 ?_
    refine wp_X8_16 hx hb hts iX8 hown hK hP hD hS 0 rfl k3 (Nat.le_of_ble_eq_true rfl) dX8_rate_84 (ws' := modelW c ad μ (r + 101)) rfl (fun H locs hP hD hS => ?_)
    refine lv_aload_n hx hb dX8_rate_87 rfl (lv_at hl 0 rfl) ?_
    refine lv_iload_n hx hb dX8_rate_88 rfl (lv_at hl 2 rfl) ?_
    refine wk_eqi (y := nI w.toNatClampNeg) (hw.1) ?_
    refine wk_callRV (As := [.int (nI w.toNatClampNeg)]) (rest := []) ⟨hx, hb, hml, hown, hts⟩ (c_X8_pen l D c ad μ ((r + 101)) w.toNatClampNeg (by omega)) (cwV 1 hts gX8_rate_X8_pen rfl rfl rfl hd_X8_pen ⟨Nat.le_of_ble_eq_true rfl, Nat.le_of_ble_eq_true rfl⟩) hK hP [0, 1, 2, 3, 4, 5, 6, 7, 8] rfl 0 rfl rfl rfl hl.1 rfl (Nat.le_of_ble_eq_true rfl) dX8_rate_89 (Nat.zero_le _) (Nat.zero_le _) ?_
    refine lv_aload_n hx hb dX8_rate_92 rfl (lv_at hl 0 rfl) ?_
    refine lv_iload_n hx hb dX8_rate_93 rfl (lv_at hl 2 rfl) ?_
    refine wk_callRV (As := [.int w]) (rest := [.int (μ 7 (3 + 7 * w.toNatClampNeg))]) ⟨hx, hb, hml, hown, hts⟩ (c_X8_owes l D c ad μ ((r + 101)) w (by assumption)) (cwV 1 hts gX8_rate_X8_owes rfl rfl rfl hd_X8_owes ⟨Nat.le_of_ble_eq_true rfl, Nat.le_of_ble_eq_true rfl⟩) hK hP [0, 1, 2, 3, 4, 5, 6, 7, 8] rfl 0 rfl rfl rfl hl.1 rfl (Nat.le_of_ble_eq_true rfl) dX8_rate_94 (Nat.zero_le _) (Nat.zero_le _) ?_
    refine lv_iadd hx hb dX8_rate_97 ?_
    refine lv_istore_n (lv' := [(3, .int ((μ 7 (3 + 7 * w.toNatClampNeg)) + (owM μ w (qM μ)))), (0, .ref (ad 0)), (1, .int (nI 2)), (2, .int w)]) hx hb dX8_rate_98 rfl hl (by decide) rfl (fun ls hl => ?_)
    refine lv_aload_n hx hb dX8_rate_99 rfl (lv_at hl 1 rfl) ?_
    refine lv_iload_n hx hb dX8_rate_100 rfl (lv_at hl 3 rfl) ?_
    refine wk_eqi (y := nI w.toNatClampNeg) (hw.1) ?_
    refine wk_callRV (As := [.int (nI w.toNatClampNeg)]) (rest := []) ⟨hx, hb, hml, hown, hts⟩ (c_X8_pen l D c ad μ ((r + 101)) w.toNatClampNeg (by omega)) (cwV 1 hts gX8_rate_X8_pen rfl rfl rfl hd_X8_pen ⟨Nat.le_of_ble_eq_true rfl, Nat.le_of_ble_eq_true rfl⟩) hK hP [0, 1, 2, 3, 4, 5, 6, 7, 8] rfl 0 rfl rfl rfl hl.1 rfl (Nat.le_of_ble_eq_true rfl) dX8_rate_101 (Nat.zero_le _) (Nat.zero_le _) ?_
    refine lv_aload_n hx hb dX8_rate_104 rfl (lv_at hl 1 rfl) ?_
    refine wg_X8_8 hx hb hts iX8 hown hK hP 0 rfl k9 (v := .ref (ad 8)) rfl dX8_rate_105 ?_
    refine lv_iconst (v := 4) hx hb dX8_rate_108 (by decide) ?_
    refine lv_iload_n hx hb dX8_rate_109 rfl (lv_at hl 3 rfl) ?_
    refine wk_eqi (y := nI w.toNatClampNeg) (hw.1) ?_
    refine lv_iadd hx hb dX8_rate_110 ?_
    refine wk_eqi (nI_add 4 w.toNatClampNeg) ?_
    refine wk_ald (f := μ 8) hx hb hK hP 4 0 rfl rfl (4 + w.toNatClampNeg) rfl (by omega) (by decide) dX8_rate_111 ?_
    refine lv_isub hx hb dX8_rate_112 ?_
    refine lv_istore (lv' := [(4, .int ((μ 7 (3 + 7 * w.toNatClampNeg)) - (μ 8 (4 + w.toNatClampNeg)))), (3, .int ((μ 7 (3 + 7 * w.toNatClampNeg)) + (owM μ w (qM μ)))), (0, .ref (ad 0)), (1, .int (nI 2)), (2, .int w)]) hx hb dX8_rate_113 hl (by decide) rfl (fun ls hl => ?_)
    refine lv_iload_n hx hb dX8_rate_115 rfl (lv_at hl 3 rfl) ?_
    refine lv_tableIn (off := 44) (tgt := 160) hx hb dX8_rate_116 (by decide) (by decide) (by decide) (by decide) ?_
    refine lv_iload hx hb dX8_rate_160 (lv_at hl 0 rfl) ?_
    have ek : (r + 101) = mraR μ r (nI 2) w := by rw [mraR, if_pos ⟨h1, h2⟩]; rfl
    have hP : va_P D vwCl (modelW c ad μ (mraR μ r (nI 2) w)) H := by rw [← ek]; exact hP
    exact ret 162 ls H _ ((μ 7 (3 + 7 * w.toNatClampNeg)) - (μ 8 (4 + w.toNatClampNeg))) (by rw [mraV, if_pos ⟨h1, h2⟩]; rfl) hP hS dX8_rate_162
  · refine lv_aload_n hx hb dX8_rate_23 rfl (lv_at hl 0 rfl) ?_
    refine lv_dup hx hb dX8_rate_24 rfl ?_
    refine wg_X8_16 hx hb hts iX8 hown hK hP 0 rfl k3 (v := .long r) rfl dX8_rate_25 ?_
    refine lv_iload_n hx hb dX8_rate_28 rfl (lv_at hl 1 rfl) ?_
    refine lv_if_ne (tgt := 36) hx hb dX8_rate_29 (by decide) (fun _ => ?_) (fun q => absurd q (by decide))
    refine lv_iload_n hx hb dX8_rate_36 rfl (lv_at hl 1 rfl) ?_
    refine lv_iconst (v := 1) hx hb dX8_rate_37 (by decide) ?_
    refine lv_icmp_ne (tgt := 47) hx hb dX8_rate_38 (by decide) (fun _ => ?_) (fun q => absurd q (by decide))
    refine lv_iload_n hx hb dX8_rate_47 rfl (lv_at hl 1 rfl) ?_
    refine lv_iconst (v := 2) hx hb dX8_rate_48 (by decide) ?_
    refine lv_icmp_ne (tgt := 58) hx hb dX8_rate_49 (by decide) (fun _ => ?_) (fun q => absurd q (by decide))
    refine lv_iload_n hx hb dX8_rate_58 rfl (lv_at hl 1 rfl) ?_
    refine lv_iconst (v := 3) hx hb dX8_rate_59 (by decide) ?_
    refine lv_icmp_ne (tgt := 69) hx hb dX8_rate_60 (by decide) (fun q => absurd (by decide) q) (fun _ => ?_)
    refine lv_ldc2 hx hb hown k6 dX8_rate_63 ?_
    refine lv_goto (tgt := 83) hx hb dX8_rate_66 (by decide) ?_
    refine lv_ladd hx hb dX8_rate_83 ?_
    refine wp_X8_16 hx hb hts iX8 hown hK hP hD hS 0 rfl k3 (Nat.le_of_ble_eq_true rfl) dX8_rate_84 (ws' := modelW c ad μ (r + 1011)) rfl (fun H locs hP hD hS => ?_)
    refine lv_aload_n hx hb dX8_rate_87 rfl (lv_at hl 0 rfl) ?_
    refine lv_iload_n hx hb dX8_rate_88 rfl (lv_at hl 2 rfl) ?_
    refine wk_eqi (y := nI w.toNatClampNeg) (hw.1) ?_
    refine wk_callRV (As := [.int (nI w.toNatClampNeg)]) (rest := []) ⟨hx, hb, hml, hown, hts⟩ (c_X8_pen l D c ad μ ((r + 1011)) w.toNatClampNeg (by omega)) (cwV 1 hts gX8_rate_X8_pen rfl rfl rfl hd_X8_pen ⟨Nat.le_of_ble_eq_true rfl, Nat.le_of_ble_eq_true rfl⟩) hK hP [0, 1, 2, 3, 4, 5, 6, 7, 8] rfl 0 rfl rfl rfl hl.1 rfl (Nat.le_of_ble_eq_true rfl) dX8_rate_89 (Nat.zero_le _) (Nat.zero_le _) ?_
    refine lv_aload_n hx hb dX8_rate_92 rfl (lv_at hl 0 rfl) ?_
    refine lv_iload_n hx hb dX8_rate_93 rfl (lv_at hl 2 rfl) ?_
    refine wk_callRV (As := [.int w]) (rest := [.int (μ 7 (3 + 7 * w.toNatClampNeg))]) ⟨hx, hb, hml, hown, hts⟩ (c_X8_owes l D c ad μ ((r + 1011)) w (by assumption)) (cwV 1 hts gX8_rate_X8_owes rfl rfl rfl hd_X8_owes ⟨Nat.le_of_ble_eq_true rfl, Nat.le_of_ble_eq_true rfl⟩) hK hP [0, 1, 2, 3, 4, 5, 6, 7, 8] rfl 0 rfl rfl rfl hl.1 rfl (Nat.le_of_ble_eq_true rfl) dX8_rate_94 (Nat.zero_le _) (Nat.zero_le _) ?_
    refine lv_iadd hx hb dX8_rate_97 ?_
    refine lv_istore_n (lv' := [(3, .int ((μ 7 (3 + 7 * w.toNatClampNeg)) + (owM μ w (qM μ)))), (0, .ref (ad 0)), (1, .int (nI 3)), (2, .int w)]) hx hb dX8_rate_98 rfl hl (by decide) rfl (fun ls hl => ?_)
    refine lv_aload_n hx hb dX8_rate_99 rfl (lv_at hl 1 rfl) ?_
    refine lv_iload_n hx hb dX8_rate_100 rfl (lv_at hl 3 rfl) ?_
    refine wk_eqi (y := nI w.toNatClampNeg) (hw.1) ?_
    refine wk_callRV (As := [.int (nI w.toNatClampNeg)]) (rest := []) ⟨hx, hb, hml, hown, hts⟩ (c_X8_pen l D c ad μ ((r + 1011)) w.toNatClampNeg (by omega)) (cwV 1 hts gX8_rate_X8_pen rfl rfl rfl hd_X8_pen ⟨Nat.le_of_ble_eq_true rfl, Nat.le_of_ble_eq_true rfl⟩) hK hP [0, 1, 2, 3, 4, 5, 6, 7, 8] rfl 0 rfl rfl rfl hl.1 rfl (Nat.le_of_ble_eq_true rfl) dX8_rate_101 (Nat.zero_le _) (Nat.zero_le _) ?_
    refine lv_aload_n hx hb dX8_rate_104 rfl (lv_at hl 1 rfl) ?_
    refine wg_X8_8 hx hb hts iX8 hown hK hP 0 rfl k9 (v := .ref (ad 8)) rfl dX8_rate_105 ?_
    refine lv_iconst (v := 4) hx hb dX8_rate_108 (by decide) ?_
    refine lv_iload_n hx hb dX8_rate_109 rfl (lv_at hl 3 rfl) ?_
    refine wk_eqi (y := nI w.toNatClampNeg) (hw.1) ?_
    refine lv_iadd hx hb dX8_rate_110 ?_
    refine wk_eqi (nI_add 4 w.toNatClampNeg) ?_
    refine wk_ald (f := μ 8) hx hb hK hP 4 0 rfl rfl (4 + w.toNatClampNeg) rfl (by omega) (by decide) dX8_rate_111 ?_
    refine lv_isub hx hb dX8_rate_112 ?_
    refine lv_istore (lv' := [(4, .int ((μ 7 (3 + 7 * w.toNatClampNeg)) - (μ 8 (4 + w.toNatClampNeg)))), (3, .int ((μ 7 (3 + 7 * w.toNatClampNeg)) + (owM μ w (qM μ)))), (0, .ref (ad 0)), (1, .int (nI 3)), (2, .int w)]) hx hb dX8_rate_113 hl (by decide) rfl (fun ls hl => ?_)
    refine lv_iload_n hx hb dX8_rate_115 rfl (lv_at hl 3 rfl) ?_
    refine lv_tableIn (off := 47) (tgt := 163) hx hb dX8_rate_116 (by decide) (by decide) (by decide) (by decide) ?_
    refine lv_iconst (v := 2) hx hb dX8_rate_163 (by decide) ?_
    refine lv_iload_n hx hb dX8_rate_164 rfl (lv_at hl 1 rfl) ?_
    refine lv_imul hx hb dX8_rate_165 ?_
    have ek : (r + 1011) = mraR μ r (nI 3) w := by rw [mraR, if_pos ⟨h1, h2⟩]; rfl
    have hP : va_P D vwCl (modelW c ad μ (mraR μ r (nI 3) w)) H := by rw [← ek]; exact hP
    exact ret 166 ls H _ (2 * ((μ 7 (3 + 7 * w.toNatClampNeg)) + (owM μ w (qM μ)))) (by rw [mraV, if_pos ⟨h1, h2⟩]; rfl) hP hS dX8_rate_166
  · refine lv_aload_n hx hb dX8_rate_23 rfl (lv_at hl 0 rfl) ?_
    refine lv_dup hx hb dX8_rate_24 rfl ?_
    refine wg_X8_16 hx hb hts iX8 hown hK hP 0 rfl k3 (v := .long r) rfl dX8_rate_25 ?_
    refine lv_iload_n hx hb dX8_rate_28 rfl (lv_at hl 1 rfl) ?_
    refine lv_if_ne (tgt := 36) hx hb dX8_rate_29 (by decide) (fun _ => ?_) (fun q => absurd q (by decide))
    refine lv_iload_n hx hb dX8_rate_36 rfl (lv_at hl 1 rfl) ?_
    refine lv_iconst (v := 1) hx hb dX8_rate_37 (by decide) ?_
    refine lv_icmp_ne (tgt := 47) hx hb dX8_rate_38 (by decide) (fun _ => ?_) (fun q => absurd q (by decide))
    refine lv_iload_n hx hb dX8_rate_47 rfl (lv_at hl 1 rfl) ?_
    refine lv_iconst (v := 2) hx hb dX8_rate_48 (by decide) ?_
    refine lv_icmp_ne (tgt := 58) hx hb dX8_rate_49 (by decide) (fun _ => ?_) (fun q => absurd q (by decide))
    refine lv_iload_n hx hb dX8_rate_58 rfl (lv_at hl 1 rfl) ?_
    refine lv_iconst (v := 3) hx hb dX8_rate_59 (by decide) ?_
    refine lv_icmp_ne (tgt := 69) hx hb dX8_rate_60 (by decide) (fun _ => ?_) (fun q => absurd q (by decide))
    refine lv_iload_n hx hb dX8_rate_69 rfl (lv_at hl 1 rfl) ?_
    refine lv_iconst (v := 4) hx hb dX8_rate_70 (by decide) ?_
    refine lv_icmp_ne (tgt := 80) hx hb dX8_rate_71 (by decide) (fun q => absurd (by decide) q) (fun _ => ?_)
    refine lv_ldc2 hx hb hown k7 dX8_rate_74 ?_
    refine lv_goto (tgt := 83) hx hb dX8_rate_77 (by decide) ?_
    refine lv_ladd hx hb dX8_rate_83 ?_
    refine wp_X8_16 hx hb hts iX8 hown hK hP hD hS 0 rfl k3 (Nat.le_of_ble_eq_true rfl) dX8_rate_84 (ws' := modelW c ad μ (r + 10101)) rfl (fun H locs hP hD hS => ?_)
    refine lv_aload_n hx hb dX8_rate_87 rfl (lv_at hl 0 rfl) ?_
    refine lv_iload_n hx hb dX8_rate_88 rfl (lv_at hl 2 rfl) ?_
    refine wk_eqi (y := nI w.toNatClampNeg) (hw.1) ?_
    refine wk_callRV (As := [.int (nI w.toNatClampNeg)]) (rest := []) ⟨hx, hb, hml, hown, hts⟩ (c_X8_pen l D c ad μ ((r + 10101)) w.toNatClampNeg (by omega)) (cwV 1 hts gX8_rate_X8_pen rfl rfl rfl hd_X8_pen ⟨Nat.le_of_ble_eq_true rfl, Nat.le_of_ble_eq_true rfl⟩) hK hP [0, 1, 2, 3, 4, 5, 6, 7, 8] rfl 0 rfl rfl rfl hl.1 rfl (Nat.le_of_ble_eq_true rfl) dX8_rate_89 (Nat.zero_le _) (Nat.zero_le _) ?_
    refine lv_aload_n hx hb dX8_rate_92 rfl (lv_at hl 0 rfl) ?_
    refine lv_iload_n hx hb dX8_rate_93 rfl (lv_at hl 2 rfl) ?_
    refine wk_callRV (As := [.int w]) (rest := [.int (μ 7 (3 + 7 * w.toNatClampNeg))]) ⟨hx, hb, hml, hown, hts⟩ (c_X8_owes l D c ad μ ((r + 10101)) w (by assumption)) (cwV 1 hts gX8_rate_X8_owes rfl rfl rfl hd_X8_owes ⟨Nat.le_of_ble_eq_true rfl, Nat.le_of_ble_eq_true rfl⟩) hK hP [0, 1, 2, 3, 4, 5, 6, 7, 8] rfl 0 rfl rfl rfl hl.1 rfl (Nat.le_of_ble_eq_true rfl) dX8_rate_94 (Nat.zero_le _) (Nat.zero_le _) ?_
    refine lv_iadd hx hb dX8_rate_97 ?_
    refine lv_istore_n (lv' := [(3, .int ((μ 7 (3 + 7 * w.toNatClampNeg)) + (owM μ w (qM μ)))), (0, .ref (ad 0)), (1, .int (nI 4)), (2, .int w)]) hx hb dX8_rate_98 rfl hl (by decide) rfl (fun ls hl => ?_)
    refine lv_aload_n hx hb dX8_rate_99 rfl (lv_at hl 1 rfl) ?_
    refine lv_iload_n hx hb dX8_rate_100 rfl (lv_at hl 3 rfl) ?_
    refine wk_eqi (y := nI w.toNatClampNeg) (hw.1) ?_
    refine wk_callRV (As := [.int (nI w.toNatClampNeg)]) (rest := []) ⟨hx, hb, hml, hown, hts⟩ (c_X8_pen l D c ad μ ((r + 10101)) w.toNatClampNeg (by omega)) (cwV 1 hts gX8_rate_X8_pen rfl rfl rfl hd_X8_pen ⟨Nat.le_of_ble_eq_true rfl, Nat.le_of_ble_eq_true rfl⟩) hK hP [0, 1, 2, 3, 4, 5, 6, 7, 8] rfl 0 rfl rfl rfl hl.1 rfl (Nat.le_of_ble_eq_true rfl) dX8_rate_101 (Nat.zero_le _) (Nat.zero_le _) ?_
    refine lv_aload_n hx hb dX8_rate_104 rfl (lv_at hl 1 rfl) ?_
    refine wg_X8_8 hx hb hts iX8 hown hK hP 0 rfl k9 (v := .ref (ad 8)) rfl dX8_rate_105 ?_
    refine lv_iconst (v := 4) hx hb dX8_rate_108 (by decide) ?_
    refine lv_iload_n hx hb dX8_rate_109 rfl (lv_at hl 3 rfl) ?_
    refine wk_eqi (y := nI w.toNatClampNeg) (hw.1) ?_
    refine lv_iadd hx hb dX8_rate_110 ?_
    refine wk_eqi (nI_add 4 w.toNatClampNeg) ?_
    refine wk_ald (f := μ 8) hx hb hK hP 4 0 rfl rfl (4 + w.toNatClampNeg) rfl (by omega) (by decide) dX8_rate_111 ?_
    refine lv_isub hx hb dX8_rate_112 ?_
    refine lv_istore (lv' := [(4, .int ((μ 7 (3 + 7 * w.toNatClampNeg)) - (μ 8 (4 + w.toNatClampNeg)))), (3, .int ((μ 7 (3 + 7 * w.toNatClampNeg)) + (owM μ w (qM μ)))), (0, .ref (ad 0)), (1, .int (nI 4)), (2, .int w)]) hx hb dX8_rate_113 hl (by decide) rfl (fun ls hl => ?_)
    refine lv_iload_n hx hb dX8_rate_115 rfl (lv_at hl 3 rfl) ?_
    refine lv_tableIn (off := 51) (tgt := 167) hx hb dX8_rate_116 (by decide) (by decide) (by decide) (by decide) ?_
    refine lv_iload hx hb dX8_rate_167 (lv_at hl 0 rfl) ?_
    refine lv_iload_n hx hb dX8_rate_169 rfl (lv_at hl 4 rfl) ?_
    refine lv_iadd hx hb dX8_rate_170 ?_
    have ek : (r + 10101) = mraR μ r (nI 4) w := by rw [mraR, if_pos ⟨h1, h2⟩]; rfl
    have hP : va_P D vwCl (modelW c ad μ (mraR μ r (nI 4) w)) H := by rw [← ek]; exact hP
    exact ret 171 ls H _ (((μ 7 (3 + 7 * w.toNatClampNeg)) - (μ 8 (4 + w.toNatClampNeg))) + w) (by rw [mraV, if_pos ⟨h1, h2⟩]; rfl) hP hS dX8_rate_171
  · refine lv_aload_n hx hb dX8_rate_23 rfl (lv_at hl 0 rfl) ?_
    refine lv_dup hx hb dX8_rate_24 rfl ?_
    refine wg_X8_16 hx hb hts iX8 hown hK hP 0 rfl k3 (v := .long r) rfl dX8_rate_25 ?_
    refine lv_iload_n hx hb dX8_rate_28 rfl (lv_at hl 1 rfl) ?_
    refine lv_if_ne (tgt := 36) hx hb dX8_rate_29 (by decide) (fun _ => ?_) (fun q => absurd q (by decide))
    refine lv_iload_n hx hb dX8_rate_36 rfl (lv_at hl 1 rfl) ?_
    refine lv_iconst (v := 1) hx hb dX8_rate_37 (by decide) ?_
    refine lv_icmp_ne (tgt := 47) hx hb dX8_rate_38 (by decide) (fun _ => ?_) (fun q => absurd q (by decide))
    refine lv_iload_n hx hb dX8_rate_47 rfl (lv_at hl 1 rfl) ?_
    refine lv_iconst (v := 2) hx hb dX8_rate_48 (by decide) ?_
    refine lv_icmp_ne (tgt := 58) hx hb dX8_rate_49 (by decide) (fun _ => ?_) (fun q => absurd q (by decide))
    refine lv_iload_n hx hb dX8_rate_58 rfl (lv_at hl 1 rfl) ?_
    refine lv_iconst (v := 3) hx hb dX8_rate_59 (by decide) ?_
    refine lv_icmp_ne (tgt := 69) hx hb dX8_rate_60 (by decide) (fun _ => ?_) (fun q => absurd q (by decide))
    refine lv_iload_n hx hb dX8_rate_69 rfl (lv_at hl 1 rfl) ?_
    refine lv_iconst (v := 4) hx hb dX8_rate_70 (by decide) ?_
    refine lv_icmp_ne (tgt := 80) hx hb dX8_rate_71 (by decide) (fun _ => ?_) (fun q => absurd q (by decide))
    refine lv_ldc2 hx hb hown k8 dX8_rate_80 ?_
    refine lv_ladd hx hb dX8_rate_83 ?_
    refine wp_X8_16 hx hb hts iX8 hown hK hP hD hS 0 rfl k3 (Nat.le_of_ble_eq_true rfl) dX8_rate_84 (ws' := modelW c ad μ (r + 100001)) rfl (fun H locs hP hD hS => ?_)
    refine lv_aload_n hx hb dX8_rate_87 rfl (lv_at hl 0 rfl) ?_
    refine lv_iload_n hx hb dX8_rate_88 rfl (lv_at hl 2 rfl) ?_
    refine wk_eqi (y := nI w.toNatClampNeg) (hw.1) ?_
    refine wk_callRV (As := [.int (nI w.toNatClampNeg)]) (rest := []) ⟨hx, hb, hml, hown, hts⟩ (c_X8_pen l D c ad μ ((r + 100001)) w.toNatClampNeg (by omega)) (cwV 1 hts gX8_rate_X8_pen rfl rfl rfl hd_X8_pen ⟨Nat.le_of_ble_eq_true rfl, Nat.le_of_ble_eq_true rfl⟩) hK hP [0, 1, 2, 3, 4, 5, 6, 7, 8] rfl 0 rfl rfl rfl hl.1 rfl (Nat.le_of_ble_eq_true rfl) dX8_rate_89 (Nat.zero_le _) (Nat.zero_le _) ?_
    refine lv_aload_n hx hb dX8_rate_92 rfl (lv_at hl 0 rfl) ?_
    refine lv_iload_n hx hb dX8_rate_93 rfl (lv_at hl 2 rfl) ?_
    refine wk_callRV (As := [.int w]) (rest := [.int (μ 7 (3 + 7 * w.toNatClampNeg))]) ⟨hx, hb, hml, hown, hts⟩ (c_X8_owes l D c ad μ ((r + 100001)) w (by assumption)) (cwV 1 hts gX8_rate_X8_owes rfl rfl rfl hd_X8_owes ⟨Nat.le_of_ble_eq_true rfl, Nat.le_of_ble_eq_true rfl⟩) hK hP [0, 1, 2, 3, 4, 5, 6, 7, 8] rfl 0 rfl rfl rfl hl.1 rfl (Nat.le_of_ble_eq_true rfl) dX8_rate_94 (Nat.zero_le _) (Nat.zero_le _) ?_
    refine lv_iadd hx hb dX8_rate_97 ?_
    refine lv_istore_n (lv' := [(3, .int ((μ 7 (3 + 7 * w.toNatClampNeg)) + (owM μ w (qM μ)))), (0, .ref (ad 0)), (1, .int (nI 5)), (2, .int w)]) hx hb dX8_rate_98 rfl hl (by decide) rfl (fun ls hl => ?_)
    refine lv_aload_n hx hb dX8_rate_99 rfl (lv_at hl 1 rfl) ?_
    refine lv_iload_n hx hb dX8_rate_100 rfl (lv_at hl 3 rfl) ?_
    refine wk_eqi (y := nI w.toNatClampNeg) (hw.1) ?_
    refine wk_callRV (As := [.int (nI w.toNatClampNeg)]) (rest := []) ⟨hx, hb, hml, hown, hts⟩ (c_X8_pen l D c ad μ ((r + 100001)) w.toNatClampNeg (by omega)) (cwV 1 hts gX8_rate_X8_pen rfl rfl rfl hd_X8_pen ⟨Nat.le_of_ble_eq_true rfl, Nat.le_of_ble_eq_true rfl⟩) hK hP [0, 1, 2, 3, 4, 5, 6, 7, 8] rfl 0 rfl rfl rfl hl.1 rfl (Nat.le_of_ble_eq_true rfl) dX8_rate_101 (Nat.zero_le _) (Nat.zero_le _) ?_
    refine lv_aload_n hx hb dX8_rate_104 rfl (lv_at hl 1 rfl) ?_
    refine wg_X8_8 hx hb hts iX8 hown hK hP 0 rfl k9 (v := .ref (ad 8)) rfl dX8_rate_105 ?_
    refine lv_iconst (v := 4) hx hb dX8_rate_108 (by decide) ?_
    refine lv_iload_n hx hb dX8_rate_109 rfl (lv_at hl 3 rfl) ?_
    refine wk_eqi (y := nI w.toNatClampNeg) (hw.1) ?_
    refine lv_iadd hx hb dX8_rate_110 ?_
    refine wk_eqi (nI_add 4 w.toNatClampNeg) ?_
    refine wk_ald (f := μ 8) hx hb hK hP 4 0 rfl rfl (4 + w.toNatClampNeg) rfl (by omega) (by decide) dX8_rate_111 ?_
    refine lv_isub hx hb dX8_rate_112 ?_
    refine lv_istore (lv' := [(4, .int ((μ 7 (3 + 7 * w.toNatClampNeg)) - (μ 8 (4 + w.toNatClampNeg)))), (3, .int ((μ 7 (3 + 7 * w.toNatClampNeg)) + (owM μ w (qM μ)))), (0, .ref (ad 0)), (1, .int (nI 5)), (2, .int w)]) hx hb dX8_rate_113 hl (by decide) rfl (fun ls hl => ?_)
    refine lv_iload_n hx hb dX8_rate_115 rfl (lv_at hl 3 rfl) ?_
    refine lv_tableOut (tgt := 172) hx hb dX8_rate_116 (by decide) (by decide) ?_
    refine lv_aload_n hx hb dX8_rate_172 rfl (lv_at hl 2 rfl) ?_
    refine lv_iload_n hx hb dX8_rate_173 rfl (lv_at hl 4 rfl) ?_
    refine wk_eqi (y := nI w.toNatClampNeg) (hw.1) ?_
    refine wk_callRV (As := [.int (nI w.toNatClampNeg)]) (rest := []) ⟨hx, hb, hml, hown, hts⟩ (c_X8_pen l D c ad μ ((r + 100001)) w.toNatClampNeg (by omega)) (cwV 1 hts gX8_rate_X8_pen rfl rfl rfl hd_X8_pen ⟨Nat.le_of_ble_eq_true rfl, Nat.le_of_ble_eq_true rfl⟩) hK hP [0, 1, 2, 3, 4, 5, 6, 7, 8] rfl 0 rfl rfl rfl hl.1 rfl (Nat.le_of_ble_eq_true rfl) dX8_rate_174 (Nat.zero_le _) (Nat.zero_le _) ?_
    refine lv_aload_n hx hb dX8_rate_177 rfl (lv_at hl 2 rfl) ?_
    refine lv_iload_n hx hb dX8_rate_178 rfl (lv_at hl 4 rfl) ?_
    refine wk_callRV (As := [.int w]) (rest := [.int (μ 7 (3 + 7 * w.toNatClampNeg))]) ⟨hx, hb, hml, hown, hts⟩ (c_X8_words l D c ad μ ((r + 100001)) w (by assumption)) (cwV 1 hts gX8_rate_X8_words rfl rfl rfl hd_X8_words ⟨Nat.le_of_ble_eq_true rfl, Nat.le_of_ble_eq_true rfl⟩) hK hP [0, 1, 2, 3, 4, 5, 6, 7, 8] rfl 0 rfl rfl rfl hl.1 rfl (Nat.le_of_ble_eq_true rfl) dX8_rate_179 (Nat.zero_le _) (Nat.zero_le _) ?_
    refine lv_iadd hx hb dX8_rate_182 ?_
    have ek : (r + 100001) = mraR μ r (nI 5) w := by rw [mraR, if_pos ⟨h1, h2⟩]; rfl
    have hP : va_P D vwCl (modelW c ad μ (mraR μ r (nI 5) w)) H := by rw [← ek]; exact hP
    exact ret 183 ls H _ ((μ 7 (3 + 7 * w.toNatClampNeg)) + (wdM μ w (qM μ))) (by rw [mraV, if_pos ⟨h1, h2⟩]; rfl) hP hS dX8_rate_183

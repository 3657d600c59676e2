abbrev rmX0_canKeep : Room := { frames := 1, cells := 0, slots := 0, locals := 24 }
theorem hd_X0_canKeep : yX0_canKeep.cls = RX0 ∧ yX0_canKeep.cls ≠ "java/lang/invoke/MethodHandle" ∧ yX0_canKeep.cls ≠ "java/lang/invoke/VarHandle" ∧ (parseMethodDescriptor yX0_canKeep.desc).map (fun d => d.parameters.length) = some 2 := by decide +kernel
set_option maxHeartbeats 4000000 in
set_option maxRecDepth 100000 in
theorem c_X0_canKeep (l : Launch) (D : va_G) (c : Nat → ClassId) (a : Nat → Nat) (σ : Nat → Nat → Int32) (set : Int32) (term : Int32) (hq : wfQ σ) : wk_RdI l yX0_canKeep wsX0_canKeep rmX0_canKeep D (tysL c) [.ref (a 0), .int set, .int term] (affW c a σ) (if ∀ q, q < nQ σ → ckOK σ set term q then 1 else 0) := by
  refine wk_mkR (cc := cX0_canKeep) (maxL := 4) (rt := .boolean) (by decide) rfl (Nat.le_of_ble_eq_true rfl) wk_narZ ?_
  intro pr ev ss mm args below meth cd ls H Q hst hP hK hl ret
  obtain ⟨hx, hb, hml, hown, hts, -⟩ := hst
  have hown : ss.vm.findClass RX0 = some mm.cls := hown
  have hl : lv_has ls 4 [(0, .ref (a 0)), (1, .int set), (2, .int term)] := hl
  have k1 := hts (.fieldLink RX0 40 "LastWord$Affairs" "quarrels" "I") (List.mem_of_getElem? (i := 1) rfl)
  have k2 := hts (.fieldLink RX0 33 "LastWord$Affairs" "today" "I") (List.mem_of_getElem? (i := 2) rfl)
  have k3 := hts (.fieldLink RX0 21 "LastWord$Affairs" "printedOn" "[I") (List.mem_of_getElem? (i := 3) rfl)
  have iX0 : ∀ w ∈ u_ws RX0 TX0 11, w ∈ wsX0_canKeep := fun _ h => (List.mem_cons_of_mem _ (List.mem_append_right _ h))
  have hq6 := hq.2
  refine lv_iconst (v := 0) hx hb dX0_canKeep_0 (by decide) ?_
  refine lv_istore_n (lv' := [(3, .int 0), (0, .ref (a 0)), (1, .int set), (2, .int term)]) hx hb dX0_canKeep_1 rfl hl (by decide) rfl (fun ls hl => ?_)
  have lp2 : ∀ (n : Nat) (i : Nat), (i ≤ nQ σ) → (∀ q, q < i → ckOK σ set term q) → nQ σ - i < n → ∀ ls : Array Slot, lv_has ls 4 [(0, .ref (a 0)), (1, .int set), (2, .int term), (3, .int (nI i))] → W pr l ev rmX0_canKeep ss mm args below meth cd H [] 0 0 Q (F0 mm 2 ls []) := by
    intro n
    induction n with
    | zero => intro i hi hv hn; exact absurd hn (Nat.not_lt_zero _)
    | succ n ih =>
      intro i hi hv hn ls hl
      refine lv_iload_n hx hb dX0_canKeep_2 rfl (lv_at hl 3 rfl) ?_
      refine lv_aload_n hx hb dX0_canKeep_3 rfl (lv_at hl 0 rfl) ?_
      refine wg_X0_2 hx hb hts iX0 hown hK hP 0 rfl k1 rfl dX0_canKeep_4 ?_
      refine wk_eqi (hq.1) ?_
      refine wk_ge (tgt := 54) hx hb i (nQ σ) rfl rfl (by omega) (by omega) dX0_canKeep_7 (by decide) (fun h1 => ?_) (fun h1 => ?_)
      · refine lv_iconst (v := 1) hx hb dX0_canKeep_54 (by decide) ?_
        exact ret 55 ls 1 ((if_pos (fun q hq => hv q (by omega))).symm) dX0_canKeep_55
      refine lv_iload_n hx hb dX0_canKeep_10 rfl (lv_at hl 1 rfl) ?_
      refine lv_iload_n hx hb dX0_canKeep_11 rfl (lv_at hl 3 rfl) ?_
      refine lv_ishr hx hb dX0_canKeep_12 ?_
      refine lv_iconst (v := 1) hx hb dX0_canKeep_13 (by decide) ?_
      refine lv_iand hx hb dX0_canKeep_14 ?_
      refine lv_iconst (v := 1) hx hb dX0_canKeep_15 (by decide) ?_
      refine lv_icmp_ne (tgt := 48) hx hb dX0_canKeep_16 (by decide) (fun h2 => ?_) (fun h2 => ?_)
      · refine lv_iinc (v := nI (i + 1)) (lv' := [(3, .int (nI (i + 1))), (0, .ref (a 0)), (1, .int set), (2, .int term)]) hx hb dX0_canKeep_48 hl (k := 3) rfl (nI_inc i 1) (by decide) rfl (fun ls hl => ?_)
        refine lv_goto (tgt := 2) hx hb dX0_canKeep_51 (by decide) ?_
        have hl : lv_has ls 4 [(0, .ref (a 0)), (1, .int set), (2, .int term), (3, .int (nI (i + 1)))] := lv_sub hl [1, 2, 3, 0] rfl
        exact ih (i + 1) (by omega) (lt_s hv (fun e => absurd e h2)) (by omega) ls hl
      refine lv_aload_n hx hb dX0_canKeep_19 rfl (lv_at hl 0 rfl) ?_
      refine wg_X0_0 hx hb hts iX0 hown hK hP 0 rfl k2 rfl dX0_canKeep_20 ?_
      refine lv_aload_n hx hb dX0_canKeep_23 rfl (lv_at hl 0 rfl) ?_
      refine lv_iload_n hx hb dX0_canKeep_24 rfl (lv_at hl 1 rfl) ?_
      refine lv_aload_n hx hb dX0_canKeep_25 rfl (lv_at hl 0 rfl) ?_
      refine wg_X0_7 hx hb hts iX0 hown hK hP 0 rfl k3 rfl dX0_canKeep_26 ?_
      refine lv_iload_n hx hb dX0_canKeep_29 rfl (lv_at hl 3 rfl) ?_
      refine wk_ald hx hb hK hP 4 0 rfl rfl i rfl (by omega) (by decide) dX0_canKeep_30 ?_
      refine wk_callRV (As := [.int set, .int (σ 7 i)]) (rest := [.int (σ 0 0)]) ⟨hx, hb, hml, hown, hts⟩ (c_X0_workUpTo l D c a σ set (σ 7 i) (hq)) (cwV 2 hts gX0_canKeep_X0_workUpTo rfl rfl rfl hd_X0_workUpTo ⟨Nat.le_of_ble_eq_true rfl, Nat.le_of_ble_eq_true rfl⟩) hK hP [0, 1, 2, 3, 4, 5, 6, 7] rfl 0 rfl rfl rfl hl.1 rfl (Nat.le_of_ble_eq_true rfl) dX0_canKeep_31 (Nat.zero_le _) (Nat.zero_le _) ?_
      refine lv_iadd hx hb dX0_canKeep_34 ?_
      refine lv_aload_n hx hb dX0_canKeep_35 rfl (lv_at hl 0 rfl) ?_
      refine wg_X0_7 hx hb hts iX0 hown hK hP 0 rfl k3 rfl dX0_canKeep_36 ?_
      refine lv_iload_n hx hb dX0_canKeep_39 rfl (lv_at hl 3 rfl) ?_
      refine wk_ald hx hb hK hP 4 0 rfl rfl i rfl (by omega) (by decide) dX0_canKeep_40 ?_
      refine lv_iload_n hx hb dX0_canKeep_41 rfl (lv_at hl 2 rfl) ?_
      refine lv_iadd hx hb dX0_canKeep_42 ?_
      refine lv_icmp_le (tgt := 48) hx hb dX0_canKeep_43 (by decide) (fun h3 => ?_) (fun h3 => ?_)
      rotate_left
      · refine lv_iconst (v := 0) hx hb dX0_canKeep_46 (by decide) ?_
        exact ret 47 ls 0 ((if_neg (fun q => h3 (q i (by omega) h2))).symm) dX0_canKeep_47
      refine lv_iinc (v := nI (i + 1)) (lv' := [(3, .int (nI (i + 1))), (0, .ref (a 0)), (1, .int set), (2, .int term)]) hx hb dX0_canKeep_48 hl (k := 3) rfl (nI_inc i 1) (by decide) rfl (fun ls hl => ?_)
      refine lv_goto (tgt := 2) hx hb dX0_canKeep_51 (by decide) ?_
      have hl : lv_has ls 4 [(0, .ref (a 0)), (1, .int set), (2, .int term), (3, .int (nI (i + 1)))] := lv_sub hl [1, 2, 3, 0] rfl
      exact ih (i + 1) (by omega) (lt_s hv (fun _ => h3)) (by omega) ls hl
  have hl : lv_has ls 4 [(0, .ref (a 0)), (1, .int set), (2, .int term), (3, .int 0)] := lv_sub hl [1, 2, 3, 0] rfl
  have hl := wk_lset (y := nI 0) (lv_sub (l' := [(3, .int 0), (0, .ref (a 0)), (1, .int set), (2, .int term)]) hl [3, 0, 1, 2] rfl) (by rfl)
  have hl : lv_has ls 4 [(0, .ref (a 0)), (1, .int set), (2, .int term), (3, .int (nI 0))] := lv_sub hl [1, 2, 3, 0] rfl
  exact lp2 _ 0 (by omega) (fun q h => absurd h (Nat.not_lt_zero q)) (Nat.lt_succ_self _) ls hl

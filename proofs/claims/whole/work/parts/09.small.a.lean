/-! ===== Course and Findings, walked ===== -/
abbrev rmX2_follow : Room := { frames := 1, cells := 0, slots := 0, locals := 27 }
theorem hd_X2_follow : yX2_follow.cls = RX2 ∧ yX2_follow.cls ≠ "java/lang/invoke/MethodHandle" ∧ yX2_follow.cls ≠ "java/lang/invoke/VarHandle" ∧ (parseMethodDescriptor yX2_follow.desc).map (fun d => d.parameters.length) = some 4 := by decide +kernel
set_option maxHeartbeats 4000000 in
set_option maxRecDepth 100000 in
theorem c_X2_follow (l : Launch) (D : va_G) (c : Nat → ClassId) (o : Nat → Nat) (κ : Nat → Nat → Int32) (p : Nat → Nat) (π : Nat → Nat → Int32) (w : Int32) (s : Nat) (laid : Int32) (hp : wfP π) (hs : s < 5) : wk_UpV l yX2_follow wsX2_follow rmX2_follow D (tysL c) [.ref (o 0), .ref (p 0), .int w, .int (nI s), .int laid] (courseW c o κ ++ pageW c p π) (courseW c o (followF π κ laid w s) ++ pageW c p π) := by
  refine wk_mkV (cc := cX2_follow) (maxL := 9) (by decide) rfl (Nat.le_of_ble_eq_true rfl) ?_
  intro A pr ev ss mm args below meth cd ls H H0 locs Q hst hP hK hD hS hA hl ret
  obtain ⟨hx, hb, hml, hown, hts, -⟩ := hst
  have hown : ss.vm.findClass RX2 = some mm.cls := hown
  have hl : lv_has ls 9 [(0, .ref (o 0)), (1, .ref (p 0)), (2, .int w), (3, .int (nI s)), (4, .int laid)] := hl
  have k1 := hts (.fieldLink RX2 17 "LastWord$Course" "length" "I") (List.mem_of_getElem? (i := 1) rfl)
  have k2 := hts (.fieldLink RX2 21 "LastWord$Course" "lastAuthor" "I") (List.mem_of_getElem? (i := 2) rfl)
  have iX2 : ∀ w ∈ u_ws RX2 TX2 2, w ∈ wsX2_follow := fun _ h => (List.mem_cons_of_mem _ (List.mem_append_left _ (List.mem_append_right _ h)))
  refine lv_iload_n hx hb dX2_follow_0 rfl (lv_at hl 2 rfl) ?_
  refine lv_istore (lv' := [(5, .int w), (0, .ref (o 0)), (1, .ref (p 0)), (2, .int w), (3, .int (nI s)), (4, .int laid)]) hx hb dX2_follow_1 hl (by decide) rfl (fun ls hl => ?_)
  refine lv_iload_n hx hb dX2_follow_3 rfl (lv_at hl 4 rfl) ?_
  refine lv_istore (lv' := [(6, .int (nI s)), (5, .int w), (0, .ref (o 0)), (1, .ref (p 0)), (2, .int w), (3, .int (nI s)), (4, .int laid)]) hx hb dX2_follow_4 hl (by decide) rfl (fun ls hl => ?_)
  refine lv_iconst (v := 1) hx hb dX2_follow_6 (by decide) ?_
  refine lv_istore (lv' := [(7, .int 1), (6, .int (nI s)), (5, .int w), (0, .ref (o 0)), (1, .ref (p 0)), (2, .int w), (3, .int (nI s)), (4, .int laid)]) hx hb dX2_follow_7 hl (by decide) rfl (fun ls hl => ?_)
  have lp9 : ∀ (n : Nat) (i : Nat), (i ≤ 30) → ((crA π laid w s i).2 < 5) → (crF π laid w s (30 - i) i = crF π laid w s 30 0) → 30 - i < n → ∀ ls : Array Slot, lv_has ls 9 [(0, .ref (o 0)), (1, .ref (p 0)), (4, .int laid), (5, .int ((crA π laid w s i).1)), (6, .int (nI ((crA π laid w s i).2))), (7, .int (nI (i + 1)))] → W pr l ev rmX2_follow ss mm args below meth cd H locs 0 0 Q (F0 mm 9 ls []) := by
    intro n
    induction n with
    | zero => intro i hi hs2 hv hn; exact absurd hn (Nat.not_lt_zero _)
    | succ n ih9 =>
      intro i hi hs2 hv hn ls hl
      refine lv_iload hx hb dX2_follow_9 (lv_at hl 5 rfl) ?_
      refine lv_bipush (v := 30) hx hb dX2_follow_11 (by decide) ?_
      refine wk_gt (tgt := 68) hx hb (i + 1) 30 rfl rfl (by omega) (by omega) dX2_follow_13 (by decide) (fun h1 => ?_) (fun h1 => ?_)
      · refine lv_aload_n hx hb dX2_follow_68 rfl (lv_at hl 0 rfl) ?_
        refine lv_bipush (v := -9) hx hb dX2_follow_69 (by decide) ?_
        refine wp_X2_0 hx hb hts iX2 hown hK hP hD hS 0 rfl k1 (Nat.le_of_ble_eq_true rfl) dX2_follow_71 (ws' := courseW c o (va_up κ 0 (fun _ => (-9))) ++ pageW c p π) rfl (fun H locs hP hD hS => ?_)
        refine lv_aload_n hx hb dX2_follow_74 rfl (lv_at hl 0 rfl) ?_
        refine lv_bipush (v := -9) hx hb dX2_follow_75 (by decide) ?_
        refine wp_X2_1 hx hb hts iX2 hown hK hP hD hS 0 rfl k2 (Nat.le_of_ble_eq_true rfl) dX2_follow_77 (ws' := courseW c o (va_up (va_up κ 0 (fun _ => (-9))) 1 (fun _ => (-9))) ++ pageW c p π) rfl (fun H locs hP hD hS => ?_)
        have eg2 : va_up (va_up κ 0 (fun _ => (-9))) 1 (fun _ => (-9)) = followF π κ laid w s := by rw [followF, ← hv, show 30 - i = 0 by omega]; rfl
        have hP : va_P D vwCl (courseW c o (followF π κ laid w s) ++ pageW c p π) H := by rw [← eg2]; exact hP
        have hD : va_D A (courseW c o (followF π κ laid w s) ++ pageW c p π) := by rw [← eg2]; exact hD
        exact ret 80 ls H _ hP hS dX2_follow_80
      refine lv_aload_n hx hb dX2_follow_16 rfl (lv_at hl 1 rfl) ?_
      refine lv_iload hx hb dX2_follow_17 (lv_at hl 3 rfl) ?_
      refine lv_iload hx hb dX2_follow_19 (lv_at hl 4 rfl) ?_
      refine lv_iload hx hb dX2_follow_21 (lv_at hl 2 rfl) ?_
      refine wk_callRV (As := [.int ((crA π laid w s i).1), .int (nI ((crA π laid w s i).2)), .int laid]) (rest := []) ⟨hx, hb, hml, hown, hts⟩ (c_X5_answerer l D c p π ((crA π laid w s i).1) ((crA π laid w s i).2) laid (hp) (hs2)) (cwV 3 hts gX2_follow_X5_answerer rfl rfl rfl hd_X5_answerer ⟨Nat.le_of_ble_eq_true rfl, Nat.le_of_ble_eq_true rfl⟩) hK hP [1, 2, 3, 4, 5, 6, 7, 8, 9, 10] rfl 0 rfl rfl rfl hl.1 rfl (Nat.le_of_ble_eq_true rfl) dX2_follow_23 (Nat.zero_le _) (Nat.zero_le _) ?_
      refine wk_eqi (y := crX π laid w s i) rfl ?_
      refine lv_istore (lv' := [(8, .int (crX π laid w s i)), (0, .ref (o 0)), (1, .ref (p 0)), (4, .int laid), (5, .int ((crA π laid w s i).1)), (6, .int (nI ((crA π laid w s i).2))), (7, .int (nI (i + 1)))]) hx hb dX2_follow_26 hl (by decide) rfl (fun ls hl => ?_)
      refine lv_iload hx hb dX2_follow_28 (lv_at hl 0 rfl) ?_
      refine lv_bipush (v := -9) hx hb dX2_follow_30 (by decide) ?_
      refine lv_icmp_ne (tgt := 48) hx hb dX2_follow_32 (by decide) (fun h3 => ?_) (fun h3 => ?_)
      rotate_left
      · refine lv_aload_n hx hb dX2_follow_35 rfl (lv_at hl 1 rfl) ?_
        refine lv_iload hx hb dX2_follow_36 (lv_at hl 6 rfl) ?_
        refine wp_X2_0 hx hb hts iX2 hown hK hP hD hS 0 rfl k1 (Nat.le_of_ble_eq_true rfl) dX2_follow_38 (ws' := courseW c o (va_up κ 0 (fun _ => nI (i + 1))) ++ pageW c p π) rfl (fun H locs hP hD hS => ?_)
        refine lv_aload_n hx hb dX2_follow_41 rfl (lv_at hl 1 rfl) ?_
        refine lv_iload hx hb dX2_follow_42 (lv_at hl 4 rfl) ?_
        refine wp_X2_1 hx hb hts iX2 hown hK hP hD hS 0 rfl k2 (Nat.le_of_ble_eq_true rfl) dX2_follow_44 (ws' := courseW c o (va_up (va_up κ 0 (fun _ => nI (i + 1))) 1 (fun _ => (crA π laid w s i).1)) ++ pageW c p π) rfl (fun H locs hP hD hS => ?_)
        have eg4 : va_up (va_up κ 0 (fun _ => nI (i + 1))) 1 (fun _ => (crA π laid w s i).1) = followF π κ laid w s := by rw [followF, ← hv, show 30 - i = (30 - (i + 1)) + 1 by omega, crF, if_pos h3]
        have hP : va_P D vwCl (courseW c o (followF π κ laid w s) ++ pageW c p π) H := by rw [← eg4]; exact hP
        have hD : va_D A (courseW c o (followF π κ laid w s) ++ pageW c p π) := by rw [← eg4]; exact hD
        exact ret 47 ls H _ hP hS dX2_follow_47
      have hx8 : ixOK (crX π laid w s i) (nW π) := (answer_ok hp _ _ _).elim (fun e => absurd e h3) id
      have hc := crS_ok hp (laid := laid) (w := (crA π laid w s i).1) hs2 h3
      refine lv_aload_n hx hb dX2_follow_48 rfl (lv_at hl 2 rfl) ?_
      refine lv_iload hx hb dX2_follow_49 (lv_at hl 0 rfl) ?_
      refine wk_eqi (y := nI ((crX π laid w s i).toNatClampNeg)) (hx8.1) ?_
      refine lv_iload hx hb dX2_follow_51 (lv_at hl 5 rfl) ?_
      refine wk_callRV (As := [.int (nI ((crX π laid w s i).toNatClampNeg)), .int (nI ((crA π laid w s i).2))]) (rest := []) ⟨hx, hb, hml, hown, hts⟩ (c_X5_answerOn l D c p π ((crX π laid w s i).toNatClampNeg) ((crA π laid w s i).2) (Nat.lt_of_lt_of_le hx8.2 hp.2.1)) (cwV 2 hts gX2_follow_X5_answerOn rfl rfl rfl hd_X5_answerOn ⟨Nat.le_of_ble_eq_true rfl, Nat.le_of_ble_eq_true rfl⟩) hK hP [1, 2, 3, 4, 5, 6, 7, 8, 9, 10] rfl 0 rfl rfl rfl hl.1 rfl (Nat.le_of_ble_eq_true rfl) dX2_follow_53 (Nat.zero_le _) (Nat.zero_le _) ?_
      refine wk_eqi (y := nI ((crA π laid w s (i + 1)).2)) (hc.1) ?_
      refine lv_istore (lv' := [(6, .int (nI ((crA π laid w s (i + 1)).2))), (8, .int (crX π laid w s i)), (0, .ref (o 0)), (1, .ref (p 0)), (4, .int laid), (5, .int ((crA π laid w s i).1)), (7, .int (nI (i + 1)))]) hx hb dX2_follow_56 hl (by decide) rfl (fun ls hl => ?_)
      refine lv_iload hx hb dX2_follow_58 (lv_at hl 1 rfl) ?_
      refine lv_istore (lv' := [(5, .int (crX π laid w s i)), (6, .int (nI ((crA π laid w s (i + 1)).2))), (8, .int (crX π laid w s i)), (0, .ref (o 0)), (1, .ref (p 0)), (4, .int laid), (7, .int (nI (i + 1)))]) hx hb dX2_follow_60 hl (by decide) rfl (fun ls hl => ?_)
      refine lv_iinc (v := nI ((i + 1) + 1)) (lv' := [(7, .int (nI ((i + 1) + 1))), (5, .int (crX π laid w s i)), (6, .int (nI ((crA π laid w s (i + 1)).2))), (8, .int (crX π laid w s i)), (0, .ref (o 0)), (1, .ref (p 0)), (4, .int laid)]) hx hb dX2_follow_62 hl (k := 6) rfl (nI_inc (i + 1) 1) (by decide) rfl (fun ls hl => ?_)
      refine lv_goto (tgt := 9) hx hb dX2_follow_65 (by decide) ?_
      have hl : lv_has ls 9 [(0, .ref (o 0)), (1, .ref (p 0)), (4, .int laid), (5, .int (crX π laid w s i)), (6, .int (nI ((crA π laid w s (i + 1)).2))), (7, .int (nI ((i + 1) + 1)))] := lv_sub hl [4, 5, 6, 1, 2, 0] rfl
      have hl := wk_lset (y := (crA π laid w s (i + 1)).1) (lv_sub (l' := [(5, .int (crX π laid w s i)), (0, .ref (o 0)), (1, .ref (p 0)), (4, .int laid), (6, .int (nI ((crA π laid w s (i + 1)).2))), (7, .int (nI ((i + 1) + 1)))]) hl [3, 0, 1, 2, 4, 5] rfl) (by rfl)
      have hl : lv_has ls 9 [(0, .ref (o 0)), (1, .ref (p 0)), (4, .int laid), (5, .int ((crA π laid w s (i + 1)).1)), (6, .int (nI ((crA π laid w s (i + 1)).2))), (7, .int (nI ((i + 1) + 1)))] := lv_sub hl [1, 2, 3, 0, 4, 5] rfl
      exact ih9 (i + 1) (by omega) (hc.2) (by rw [← hv, show 30 - i = (30 - (i + 1)) + 1 by omega, crF, if_neg h3]) (by omega) ls hl
  have hl : lv_has ls 9 [(0, .ref (o 0)), (1, .ref (p 0)), (4, .int laid), (5, .int w), (6, .int (nI s)), (7, .int 1)] := lv_sub hl [3, 4, 7, 2, 1, 0] rfl
  have hl := wk_lset (y := (crA π laid w s 0).1) (lv_sub (l' := [(5, .int w), (0, .ref (o 0)), (1, .ref (p 0)), (4, .int laid), (6, .int (nI s)), (7, .int 1)]) hl [3, 0, 1, 2, 4, 5] rfl) (by rfl)
  have hl : lv_has ls 9 [(0, .ref (o 0)), (1, .ref (p 0)), (4, .int laid), (5, .int ((crA π laid w s 0).1)), (6, .int (nI s)), (7, .int 1)] := lv_sub hl [1, 2, 3, 0, 4, 5] rfl
  have hl := wk_lset (y := nI ((crA π laid w s 0).2)) (lv_sub (l' := [(6, .int (nI s)), (0, .ref (o 0)), (1, .ref (p 0)), (4, .int laid), (5, .int ((crA π laid w s 0).1)), (7, .int 1)]) hl [4, 0, 1, 2, 3, 5] rfl) (by rfl)
  have hl : lv_has ls 9 [(0, .ref (o 0)), (1, .ref (p 0)), (4, .int laid), (5, .int ((crA π laid w s 0).1)), (6, .int (nI ((crA π laid w s 0).2))), (7, .int 1)] := lv_sub hl [1, 2, 3, 4, 0, 5] rfl
  have hl := wk_lset (y := nI (0 + 1)) (lv_sub (l' := [(7, .int 1), (0, .ref (o 0)), (1, .ref (p 0)), (4, .int laid), (5, .int ((crA π laid w s 0).1)), (6, .int (nI ((crA π laid w s 0).2)))]) hl [5, 0, 1, 2, 3, 4] rfl) (by rfl)
  have hl : lv_has ls 9 [(0, .ref (o 0)), (1, .ref (p 0)), (4, .int laid), (5, .int ((crA π laid w s 0).1)), (6, .int (nI ((crA π laid w s 0).2))), (7, .int (nI (0 + 1)))] := lv_sub hl [1, 2, 3, 4, 5, 0] rfl
  exact lp9 _ 0 (by omega) (hs) (rfl) (Nat.lt_succ_self _) ls hl

abbrev rmX3_drop : Room := { frames := 0, cells := 0, slots := 0, locals := 0 }
theorem hd_X3_drop : yX3_drop.cls = RX3 ∧ yX3_drop.cls ≠ "java/lang/invoke/MethodHandle" ∧ yX3_drop.cls ≠ "java/lang/invoke/VarHandle" ∧ (parseMethodDescriptor yX3_drop.desc).map (fun d => d.parameters.length) = some 0 := by decide +kernel
set_option maxHeartbeats 4000000 in
set_option maxRecDepth 100000 in
theorem c_X3_drop (l : Launch) (D : va_G) (c : Nat → ClassId) (f : Nat → Nat) (φ : Nat → Nat → Int32) : wk_UpI l yX3_drop wsX3_drop rmX3_drop D (tysL c) [.ref (f 0)] (findW c f φ) (findW c f (dropF φ)) (φ 0 0) := by
  refine wk_mkU (cc := cX3_drop) (maxL := 2) (rt := .int) (by decide) rfl (Nat.le_of_ble_eq_true rfl) rfl ?_
  intro A pr ev ss mm args below meth cd ls H H0 locs Q hst hP hK hD hS hA hl ret
  obtain ⟨hx, hb, hml, hown, hts, -⟩ := hst
  have hown : ss.vm.findClass RX3 = some mm.cls := hown
  have hl : lv_has ls 2 [(0, .ref (f 0))] := hl
  have k1 := hts (.fieldLink RX3 21 "LastWord$Findings" "many" "I") (List.mem_of_getElem? (i := 1) rfl)
  have iX3 : ∀ w ∈ u_ws RX3 TX3 4, w ∈ wsX3_drop := fun _ h => (List.mem_cons_of_mem _ (List.mem_append_right _ h))
  refine lv_aload_n hx hb dX3_drop_0 rfl (lv_at hl 0 rfl) ?_
  refine wg_X3_0 hx hb hts iX3 hown hK hP 0 rfl k1 (v := .int (φ 0 0)) rfl dX3_drop_1 ?_
  refine lv_istore_n (lv' := [(1, .int (φ 0 0)), (0, .ref (f 0))]) hx hb dX3_drop_4 rfl hl (by decide) rfl (fun ls hl => ?_)
  refine lv_aload_n hx hb dX3_drop_5 rfl (lv_at hl 1 rfl) ?_
  refine lv_iconst (v := 0) hx hb dX3_drop_6 (by decide) ?_
  refine wp_X3_0 hx hb hts iX3 hown hK hP hD hS 0 rfl k1 (Nat.le_of_ble_eq_true rfl) dX3_drop_7 (ws' := findW c f (va_up φ 0 (fun _ => 0))) rfl (fun H locs hP hD hS => ?_)
  refine lv_iload_n hx hb dX3_drop_10 rfl (lv_at hl 0 rfl) ?_
  exact ret 11 ls H _ (φ 0 0) (by rfl) hP hS dX3_drop_11

abbrev rmX3_add : Room := { frames := 0, cells := 0, slots := 0, locals := 0 }
theorem hd_X3_add : yX3_add.cls = RX3 ∧ yX3_add.cls ≠ "java/lang/invoke/MethodHandle" ∧ yX3_add.cls ≠ "java/lang/invoke/VarHandle" ∧ (parseMethodDescriptor yX3_add.desc).map (fun d => d.parameters.length) = some 3 := by decide +kernel
set_option maxHeartbeats 4000000 in
set_option maxRecDepth 100000 in
theorem c_X3_add (l : Launch) (D : va_G) (c : Nat → ClassId) (f : Nat → Nat) (φ : Nat → Nat → Int32) (w : Int32) (s : Nat) (x : Int32) (hf : wfF φ) : wk_UpI l yX3_add wsX3_add rmX3_add D (tysL c) [.ref (f 0), .int w, .int (nI s), .int x] (findW c f φ) (findW c f (addF φ w s x)) (if nF φ < 5 then nI (nF φ + 1) else -3) := by
  refine wk_mkU (cc := cX3_add) (maxL := 4) (rt := .int) (by decide) rfl (Nat.le_of_ble_eq_true rfl) rfl ?_
  intro A pr ev ss mm args below meth cd ls H H0 locs Q hst hP hK hD hS hA hl ret
  obtain ⟨hx, hb, hml, hown, hts, -⟩ := hst
  have hown : ss.vm.findClass RX3 = some mm.cls := hown
  have hl : lv_has ls 4 [(0, .ref (f 0)), (1, .int w), (2, .int (nI s)), (3, .int x)] := hl
  have k1 := hts (.fieldLink RX3 21 "LastWord$Findings" "many" "I") (List.mem_of_getElem? (i := 1) rfl)
  have k2 := hts (.fieldLink RX3 9 "LastWord$Findings" "author" "[I") (List.mem_of_getElem? (i := 2) rfl)
  have k3 := hts (.fieldLink RX3 15 "LastWord$Findings" "subject" "[I") (List.mem_of_getElem? (i := 3) rfl)
  have k4 := hts (.fieldLink RX3 18 "LastWord$Findings" "answerer" "[I") (List.mem_of_getElem? (i := 4) rfl)
  have iX3 : ∀ w ∈ u_ws RX3 TX3 4, w ∈ wsX3_add := fun _ h => (List.mem_cons_of_mem _ (List.mem_append_right _ h))
  have hf5 := hf.2.1
  refine lv_aload_n hx hb dX3_add_0 rfl (lv_at hl 0 rfl) ?_
  refine wg_X3_0 hx hb hts iX3 hown hK hP 0 rfl k1 (v := .int (φ 0 0)) rfl dX3_add_1 ?_
  refine wk_eqi (hf.1) ?_
  refine lv_iconst (v := 5) hx hb dX3_add_4 (by decide) ?_
  refine wk_lt (tgt := 11) hx hb (nF φ) 5 rfl rfl (by omega) (by omega) dX3_add_5 (by decide) (fun h1 => ?_) (fun h1 => ?_)
  rotate_left
  · refine lv_bipush (v := -3) hx hb dX3_add_8 (by decide) ?_
    have eg5 : φ = addF φ w s x := by rw [addF, if_neg (by omega)]
    have hP : va_P D vwCl (findW c f (addF φ w s x)) H := by rw [← eg5]; exact hP
    have hD : va_D A (findW c f (addF φ w s x)) := by rw [← eg5]; exact hD
    exact ret 10 ls H _ ((-3)) (by rw [if_neg (by omega)]) hP hS dX3_add_10
  refine lv_aload_n hx hb dX3_add_11 rfl (lv_at hl 0 rfl) ?_
  refine wg_X3_1 hx hb hts iX3 hown hK hP 0 rfl k2 (v := .ref (f 1)) rfl dX3_add_12 ?_
  refine lv_aload_n hx hb dX3_add_15 rfl (lv_at hl 0 rfl) ?_
  refine wg_X3_0 hx hb hts iX3 hown hK hP 0 rfl k1 (v := .int (φ 0 0)) rfl dX3_add_16 ?_
  refine wk_eqi (hf.1) ?_
  refine lv_iload_n hx hb dX3_add_19 rfl (lv_at hl 1 rfl) ?_
  refine wk_ast hx hb hK hP hD hS 1 0 rfl rfl (nF φ) rfl (by omega) (by decide) dX3_add_20 (ws' := findW c f (va_up φ 1 (upd (φ 1) (nF φ) w))) rfl (fun H locs hP hD hS => ?_)
  refine lv_aload_n hx hb dX3_add_21 rfl (lv_at hl 0 rfl) ?_
  refine wg_X3_2 hx hb hts iX3 hown hK hP 0 rfl k3 (v := .ref (f 2)) rfl dX3_add_22 ?_
  refine lv_aload_n hx hb dX3_add_25 rfl (lv_at hl 0 rfl) ?_
  refine wg_X3_0 hx hb hts iX3 hown hK hP 0 rfl k1 (v := .int (φ 0 0)) rfl dX3_add_26 ?_
  refine wk_eqi (hf.1) ?_
  refine lv_iload_n hx hb dX3_add_29 rfl (lv_at hl 2 rfl) ?_
  refine wk_ast hx hb hK hP hD hS 2 0 rfl rfl (nF φ) rfl (by omega) (by decide) dX3_add_30 (ws' := findW c f (va_up (va_up φ 1 (upd (φ 1) (nF φ) w)) 2 (upd (φ 2) (nF φ) (nI s)))) rfl (fun H locs hP hD hS => ?_)
  refine lv_aload_n hx hb dX3_add_31 rfl (lv_at hl 0 rfl) ?_
  refine wg_X3_3 hx hb hts iX3 hown hK hP 0 rfl k4 (v := .ref (f 3)) rfl dX3_add_32 ?_
  refine lv_aload_n hx hb dX3_add_35 rfl (lv_at hl 0 rfl) ?_
  refine wg_X3_0 hx hb hts iX3 hown hK hP 0 rfl k1 (v := .int (φ 0 0)) rfl dX3_add_36 ?_
  refine wk_eqi (hf.1) ?_
  refine lv_iload_n hx hb dX3_add_39 rfl (lv_at hl 3 rfl) ?_
  refine lv_iconst (v := -1) hx hb dX3_add_40 (by decide) ?_
  refine lv_icmp_ne (tgt := 49) hx hb dX3_add_41 (by decide) (fun h2 => ?_) (fun h2 => ?_)
  · refine lv_iload_n hx hb dX3_add_49 rfl (lv_at hl 3 rfl) ?_
    refine wk_ast hx hb hK hP hD hS 3 0 rfl rfl (nF φ) rfl (by omega) (by decide) dX3_add_50 (ws' := findW c f (va_up (va_up (va_up φ 1 (upd (φ 1) (nF φ) w)) 2 (upd (φ 2) (nF φ) (nI s))) 3 (upd (φ 3) (nF φ) x))) rfl (fun H locs hP hD hS => ?_)
    refine lv_aload_n hx hb dX3_add_51 rfl (lv_at hl 0 rfl) ?_
    refine lv_dup hx hb dX3_add_52 rfl ?_
    refine wg_X3_0 hx hb hts iX3 hown hK hP 0 rfl k1 (v := .int (φ 0 0)) rfl dX3_add_53 ?_
    refine wk_eqi (hf.1) ?_
    refine lv_iconst (v := 1) hx hb dX3_add_56 (by decide) ?_
    refine lv_iadd hx hb dX3_add_57 ?_
    refine wk_eqi (nI_add (nF φ) 1) ?_
    refine wp_X3_0 hx hb hts iX3 hown hK hP hD hS 0 rfl k1 (Nat.le_of_ble_eq_true rfl) dX3_add_58 (ws' := findW c f (va_up (va_up (va_up (va_up φ 1 (upd (φ 1) (nF φ) w)) 2 (upd (φ 2) (nF φ) (nI s))) 3 (upd (φ 3) (nF φ) x)) 0 (fun _ => nI ((nF φ) + 1)))) rfl (fun H locs hP hD hS => ?_)
    refine lv_aload_n hx hb dX3_add_61 rfl (lv_at hl 0 rfl) ?_
    refine wg_X3_0 hx hb hts iX3 hown hK hP 0 rfl k1 (v := .int (nI ((nF φ) + 1))) rfl dX3_add_62 ?_
    have eg3 : va_up (va_up (va_up (va_up φ 1 (upd (φ 1) (nF φ) w)) 2 (upd (φ 2) (nF φ) (nI s))) 3 (upd (φ 3) (nF φ) x)) 0 (fun _ => nI ((nF φ) + 1)) = addF φ w s x := by rw [addF, if_pos (by omega)]; first | rw [if_pos h2] | rw [if_neg h2]
    have hP : va_P D vwCl (findW c f (addF φ w s x)) H := by rw [← eg3]; exact hP
    have hD : va_D A (findW c f (addF φ w s x)) := by rw [← eg3]; exact hD
    exact ret 65 ls H _ (nI ((nF φ) + 1)) (by rw [if_pos (by omega)]) hP hS dX3_add_65
  refine lv_bipush (v := -9) hx hb dX3_add_44 (by decide) ?_
  refine lv_goto (tgt := 50) hx hb dX3_add_46 (by decide) ?_
  refine wk_ast hx hb hK hP hD hS 3 0 rfl rfl (nF φ) rfl (by omega) (by decide) dX3_add_50 (ws' := findW c f (va_up (va_up (va_up φ 1 (upd (φ 1) (nF φ) w)) 2 (upd (φ 2) (nF φ) (nI s))) 3 (upd (φ 3) (nF φ) ((-9))))) rfl (fun H locs hP hD hS => ?_)
  refine lv_aload_n hx hb dX3_add_51 rfl (lv_at hl 0 rfl) ?_
  refine lv_dup hx hb dX3_add_52 rfl ?_
  refine wg_X3_0 hx hb hts iX3 hown hK hP 0 rfl k1 (v := .int (φ 0 0)) rfl dX3_add_53 ?_
  refine wk_eqi (hf.1) ?_
  refine lv_iconst (v := 1) hx hb dX3_add_56 (by decide) ?_
  refine lv_iadd hx hb dX3_add_57 ?_
  refine wk_eqi (nI_add (nF φ) 1) ?_
  refine wp_X3_0 hx hb hts iX3 hown hK hP hD hS 0 rfl k1 (Nat.le_of_ble_eq_true rfl) dX3_add_58 (ws' := findW c f (va_up (va_up (va_up (va_up φ 1 (upd (φ 1) (nF φ) w)) 2 (upd (φ 2) (nF φ) (nI s))) 3 (upd (φ 3) (nF φ) ((-9)))) 0 (fun _ => nI ((nF φ) + 1)))) rfl (fun H locs hP hD hS => ?_)
  refine lv_aload_n hx hb dX3_add_61 rfl (lv_at hl 0 rfl) ?_
  refine wg_X3_0 hx hb hts iX3 hown hK hP 0 rfl k1 (v := .int (nI ((nF φ) + 1))) rfl dX3_add_62 ?_
  have eg4 : va_up (va_up (va_up (va_up φ 1 (upd (φ 1) (nF φ) w)) 2 (upd (φ 2) (nF φ) (nI s))) 3 (upd (φ 3) (nF φ) ((-9)))) 0 (fun _ => nI ((nF φ) + 1)) = addF φ w s x := by rw [addF, if_pos (by omega)]; first | rw [if_pos h2] | rw [if_neg h2]
  have hP : va_P D vwCl (findW c f (addF φ w s x)) H := by rw [← eg4]; exact hP
  have hD : va_D A (findW c f (addF φ w s x)) := by rw [← eg4]; exact hD
  exact ret 65 ls H _ (nI ((nF φ) + 1)) (by rw [if_pos (by omega)]) hP hS dX3_add_65

abbrev rmX3_areSo : Room := { frames := 1, cells := 0, slots := 0, locals := 27 }
theorem hd_X3_areSo : yX3_areSo.cls = RX3 ∧ yX3_areSo.cls ≠ "java/lang/invoke/MethodHandle" ∧ yX3_areSo.cls ≠ "java/lang/invoke/VarHandle" ∧ (parseMethodDescriptor yX3_areSo.desc).map (fun d => d.parameters.length) = some 1 := by decide +kernel
set_option maxHeartbeats 4000000 in
set_option maxRecDepth 100000 in
theorem c_X3_areSo (l : Launch) (D : va_G) (c : Nat → ClassId) (f : Nat → Nat) (φ : Nat → Nat → Int32) (p : Nat → Nat) (π : Nat → Nat → Int32) (hp : wfP π) (hf : wfF φ) : wk_RdI l yX3_areSo wsX3_areSo rmX3_areSo D (tysL c) [.ref (f 0), .ref (p 0)] (findW c f φ ++ pageW c p π) (if ∀ i, i < nF φ → soOK π φ i then 1 else 0) := by
  refine wk_mkR (cc := cX3_areSo) (maxL := 3) (rt := .boolean) (by decide) rfl (Nat.le_of_ble_eq_true rfl) wk_narZ ?_
  intro pr ev ss mm args below meth cd ls H Q hst hP hK hl ret
  obtain ⟨hx, hb, hml, hown, hts, -⟩ := hst
  have hown : ss.vm.findClass RX3 = some mm.cls := hown
  have hl : lv_has ls 3 [(0, .ref (f 0)), (1, .ref (p 0))] := hl
  have k1 := hts (.fieldLink RX3 21 "LastWord$Findings" "many" "I") (List.mem_of_getElem? (i := 1) rfl)
  have k2 := hts (.fieldLink RX3 9 "LastWord$Findings" "author" "[I") (List.mem_of_getElem? (i := 2) rfl)
  have k3 := hts (.fieldLink RX3 15 "LastWord$Findings" "subject" "[I") (List.mem_of_getElem? (i := 3) rfl)
  have k4 := hts (.fieldLink RX3 18 "LastWord$Findings" "answerer" "[I") (List.mem_of_getElem? (i := 4) rfl)
  have iX3 : ∀ w ∈ u_ws RX3 TX3 4, w ∈ wsX3_areSo := fun _ h => (List.mem_cons_of_mem _ (List.mem_append_left _ (List.mem_append_right _ h)))
  have hf5 := hf.2.1
  refine lv_iconst (v := 0) hx hb dX3_areSo_0 (by decide) ?_
  refine lv_istore_n (lv' := [(2, .int 0), (0, .ref (f 0)), (1, .ref (p 0))]) hx hb dX3_areSo_1 rfl hl (by decide) rfl (fun ls hl => ?_)
  have lp2 : ∀ (n : Nat) (i : Nat), (i ≤ nF φ) → (∀ j, j < i → soOK π φ j) → nF φ - i < n → ∀ ls : Array Slot, lv_has ls 3 [(0, .ref (f 0)), (1, .ref (p 0)), (2, .int (nI i))] → W pr l ev rmX3_areSo ss mm args below meth cd H [] 0 0 Q (F0 mm 2 ls []) := by
    intro n
    induction n with
    | zero => intro i hi hv hn; exact absurd hn (Nat.not_lt_zero _)
    | succ n ih2 =>
      intro i hi hv hn ls hl
      refine lv_iload_n hx hb dX3_areSo_2 rfl (lv_at hl 2 rfl) ?_
      refine lv_aload_n hx hb dX3_areSo_3 rfl (lv_at hl 0 rfl) ?_
      refine wg_X3_0 hx hb hts iX3 hown hK hP 0 rfl k1 (v := .int (φ 0 0)) rfl dX3_areSo_4 ?_
      refine wk_eqi (hf.1) ?_
      refine wk_ge (tgt := 44) hx hb i (nF φ) rfl rfl (by omega) (by omega) dX3_areSo_7 (by decide) (fun h1 => ?_) (fun h1 => ?_)
      · refine lv_iconst (v := 1) hx hb dX3_areSo_44 (by decide) ?_
        exact ret 45 ls 1 ((if_pos (fun j hj => hv j (by omega))).symm) dX3_areSo_45
      refine lv_aload_n hx hb dX3_areSo_10 rfl (lv_at hl 1 rfl) ?_
      refine lv_aload_n hx hb dX3_areSo_11 rfl (lv_at hl 0 rfl) ?_
      refine wg_X3_1 hx hb hts iX3 hown hK hP 0 rfl k2 (v := .ref (f 1)) rfl dX3_areSo_12 ?_
      refine lv_iload_n hx hb dX3_areSo_15 rfl (lv_at hl 2 rfl) ?_
      refine wk_ald (f := φ 1) hx hb hK hP 1 0 rfl rfl i rfl (by omega) (by decide) dX3_areSo_16 ?_
      refine lv_aload_n hx hb dX3_areSo_17 rfl (lv_at hl 0 rfl) ?_
      refine wg_X3_2 hx hb hts iX3 hown hK hP 0 rfl k3 (v := .ref (f 2)) rfl dX3_areSo_18 ?_
      refine lv_iload_n hx hb dX3_areSo_21 rfl (lv_at hl 2 rfl) ?_
      refine wk_ald (f := φ 2) hx hb hK hP 2 0 rfl rfl i rfl (by omega) (by decide) dX3_areSo_22 ?_
      refine wk_eqi (y := nI ((φ 2 i).toNatClampNeg)) ((hf.2.2 i (by omega)).1) ?_
      refine lv_iconst (v := 0) hx hb dX3_areSo_23 (by decide) ?_
      refine wk_callRV (As := [.int (φ 1 i), .int (nI ((φ 2 i).toNatClampNeg)), .int 0]) (rest := []) ⟨hx, hb, hml, hown, hts⟩ (c_X5_answerer l D c p π (φ 1 i) ((φ 2 i).toNatClampNeg) 0 (hp) ((hf.2.2 i (by omega)).2)) (cwV 3 hts gX3_areSo_X5_answerer rfl rfl rfl hd_X5_answerer ⟨Nat.le_of_ble_eq_true rfl, Nat.le_of_ble_eq_true rfl⟩) hK hP [4, 5, 6, 7, 8, 9, 10, 11, 12, 13] rfl 0 rfl rfl rfl hl.1 rfl (Nat.le_of_ble_eq_true rfl) dX3_areSo_24 (Nat.zero_le _) (Nat.zero_le _) ?_
      refine lv_aload_n hx hb dX3_areSo_27 rfl (lv_at hl 0 rfl) ?_
      refine wg_X3_3 hx hb hts iX3 hown hK hP 0 rfl k4 (v := .ref (f 3)) rfl dX3_areSo_28 ?_
      refine lv_iload_n hx hb dX3_areSo_31 rfl (lv_at hl 2 rfl) ?_
      refine wk_ald (f := φ 3) hx hb hK hP 3 0 rfl rfl i rfl (by omega) (by decide) dX3_areSo_32 ?_
      refine lv_icmp_eq (tgt := 38) hx hb dX3_areSo_33 (by decide) (fun h2 => ?_) (fun h2 => ?_)
      rotate_left
      · refine lv_iconst (v := 0) hx hb dX3_areSo_36 (by decide) ?_
        exact ret 37 ls 0 ((if_neg (fun q => h2 (q i (by omega)))).symm) dX3_areSo_37
      refine lv_iinc (v := nI (i + 1)) (lv' := [(2, .int (nI (i + 1))), (0, .ref (f 0)), (1, .ref (p 0))]) hx hb dX3_areSo_38 hl (k := 2) rfl (nI_inc i 1) (by decide) rfl (fun ls hl => ?_)
      refine lv_goto (tgt := 2) hx hb dX3_areSo_41 (by decide) ?_
      have hl : lv_has ls 3 [(0, .ref (f 0)), (1, .ref (p 0)), (2, .int (nI (i + 1)))] := lv_sub hl [1, 2, 0] rfl
      exact ih2 (i + 1) (by omega) (lt_s hv h2) (by omega) ls hl
  have hl : lv_has ls 3 [(0, .ref (f 0)), (1, .ref (p 0)), (2, .int 0)] := lv_sub hl [1, 2, 0] rfl
  have hl := wk_lset (y := nI 0) (lv_sub (l' := [(2, .int 0), (0, .ref (f 0)), (1, .ref (p 0))]) hl [2, 0, 1] rfl) (by rfl)
  have hl : lv_has ls 3 [(0, .ref (f 0)), (1, .ref (p 0)), (2, .int (nI 0))] := lv_sub hl [1, 2, 0] rfl
  exact lp2 _ 0 (by omega) (fun j h => absurd h (Nat.not_lt_zero j)) (Nat.lt_succ_self _) ls hl

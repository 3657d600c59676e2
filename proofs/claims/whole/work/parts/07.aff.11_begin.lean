abbrev rmX0_begin : Room := { frames := 3, cells := 0, slots := 0, locals := 74 }
theorem hd_X0_begin : yX0_begin.cls = RX0 ∧ yX0_begin.cls ≠ "java/lang/invoke/MethodHandle" ∧ yX0_begin.cls ≠ "java/lang/invoke/VarHandle" ∧ (parseMethodDescriptor yX0_begin.desc).map (fun d => d.parameters.length) = some 3 := by decide +kernel
set_option maxHeartbeats 4000000 in
set_option maxRecDepth 100000 in
theorem c_X0_begin (l : Launch) (D : va_G) (c : Nat → ClassId) (a : Nat → Nat) (σ : Nat → Nat → Int32) (p : Nat → Nat) (π : Nat → Nat → Int32) (w : Int32) (s : Nat) (hp : wfP π) (hq : wfQ σ) (hq6 : nQ σ < 6) (hs : s < 5) : wk_UpI l yX0_begin wsX0_begin rmX0_begin D (tysL c) [.ref (a 0), .ref (p 0), .int w, .int (nI s)] (affW c a σ ++ pageW c p π) (affW c a (beginF π σ w s) ++ pageW c p π) (nI (nQ σ)) := by
  refine wk_mkU (cc := cX0_begin) (maxL := 5) (rt := .int) (by decide) rfl (Nat.le_of_ble_eq_true rfl) rfl ?_
  intro A pr ev ss mm args below meth cd ls H H0 Q hst hP hK hD hS hA hl ret
  obtain ⟨hx, hb, hml, hown, hts, -⟩ := hst
  have hown : ss.vm.findClass RX0 = some mm.cls := hown
  have hl : lv_has ls 5 [(0, .ref (a 0)), (1, .ref (p 0)), (2, .int w), (3, .int (nI s))] := hl
  have k1 := hts (.fieldLink RX0 40 "LastWord$Affairs" "quarrels" "I") (List.mem_of_getElem? (i := 1) rfl)
  have iX0 : ∀ w ∈ u_ws RX0 TX0 11, w ∈ wsX0_begin := fun _ h => (List.mem_cons_of_mem _ (List.mem_append_left _ (List.mem_append_right _ h)))
  refine lv_aload_n hx hb dX0_begin_0 rfl (lv_at hl 0 rfl) ?_
  refine wg_X0_2 hx hb hts iX0 hown hK hP 0 rfl k1 rfl dX0_begin_1 ?_
  refine wk_eqi (hq.1) ?_
  refine lv_istore (lv' := [(4, .int (nI (nQ σ))), (0, .ref (a 0)), (1, .ref (p 0)), (2, .int w), (3, .int (nI s))]) hx hb dX0_begin_4 hl (by decide) rfl (fun ls hl => ?_)
  refine lv_aload_n hx hb dX0_begin_6 rfl (lv_at hl 1 rfl) ?_
  refine lv_dup hx hb dX0_begin_7 rfl ?_
  refine wg_X0_2 hx hb hts iX0 hown hK hP 0 rfl k1 rfl dX0_begin_8 ?_
  refine wk_eqi (hq.1) ?_
  refine lv_iconst (v := 1) hx hb dX0_begin_11 (by decide) ?_
  refine lv_iadd hx hb dX0_begin_12 ?_
  refine wk_eqi (nI_add (nQ σ) 1) ?_
  refine wp_X0_2 hx hb hts iX0 hown hK hP hD hS 0 rfl k1 (Nat.le_of_ble_eq_true rfl) dX0_begin_13 (ws' := affW c a (va_up σ 2 (fun _ => nI ((nQ σ) + 1))) ++ pageW c p π) rfl (fun H locs hP hD hS => ?_)
  refine lv_aload_n hx hb dX0_begin_16 rfl (lv_at hl 1 rfl) ?_
  refine lv_aload_n hx hb dX0_begin_17 rfl (lv_at hl 2 rfl) ?_
  refine lv_iload hx hb dX0_begin_18 (lv_at hl 0 rfl) ?_
  refine lv_iload_n hx hb dX0_begin_20 rfl (lv_at hl 3 rfl) ?_
  refine lv_iload_n hx hb dX0_begin_21 rfl (lv_at hl 4 rfl) ?_
  refine wk_callVV (As := [.ref (p 0), .int (nI (nQ σ)), .int w, .int (nI s)]) (rest := []) ⟨hx, hb, hml, hown, hts⟩ (c_X0_print l D c a (va_up σ 2 (fun _ => nI ((nQ σ) + 1))) p π (nQ σ) w s (hp) (hq6) (hs)) (cwV 4 hts gX0_begin_X0_print rfl rfl rfl hd_X0_print ⟨Nat.le_of_ble_eq_true rfl, Nat.le_of_ble_eq_true rfl⟩) hK hP hD hS hA [0, 1, 2, 3, 4, 5, 6, 7, 8, 9, 10, 11, 12, 13, 14, 15, 16, 17] [] 18 rfl rfl rfl (ws' := affW c a (printF π (va_up σ 2 (fun _ => nI ((nQ σ) + 1))) (nQ σ) w s) ++ pageW c p π) rfl rfl rfl rfl 0 rfl rfl rfl hl.1 rfl (Nat.le_of_ble_eq_true rfl) dX0_begin_22 (Nat.zero_le _) (Nat.zero_le _) (fun H locs hP hD hS => ?_)
  refine lv_iload hx hb dX0_begin_25 (lv_at hl 0 rfl) ?_
  exact ret 27 ls H _ (nI (nQ σ)) (by rfl) hP hS dX0_begin_27

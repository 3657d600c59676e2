abbrev rmX0_print : Room := { frames := 2, cells := 0, slots := 0, locals := 50 }
theorem hd_X0_print : yX0_print.cls = RX0 ∧ yX0_print.cls ≠ "java/lang/invoke/MethodHandle" ∧ yX0_print.cls ≠ "java/lang/invoke/VarHandle" ∧ (parseMethodDescriptor yX0_print.desc).map (fun d => d.parameters.length) = some 4 := by decide +kernel
set_option maxHeartbeats 4000000 in
set_option maxRecDepth 100000 in
theorem c_X0_print (l : Launch) (D : va_G) (c : Nat → ClassId) (a : Nat → Nat) (σ : Nat → Nat → Int32) (p : Nat → Nat) (π : Nat → Nat → Int32) (q : Nat) (w : Int32) (s : Nat) (hp : wfP π) (hq : q < 6) (hs : s < 5) : wk_UpV l yX0_print wsX0_print rmX0_print D (tysL c) [.ref (a 0), .ref (p 0), .int (nI q), .int w, .int (nI s)] (affW c a σ ++ pageW c p π) (affW c a (printF π σ q w s) ++ pageW c p π) := by
  refine wk_mkV (cc := cX0_print) (maxL := 5) (by decide) rfl (Nat.le_of_ble_eq_true rfl) ?_
  intro A pr ev ss mm args below meth cd ls H H0 Q hst hP hK hD hS hA hl ret
  obtain ⟨hx, hb, hml, hown, hts, -⟩ := hst
  have hown : ss.vm.findClass RX0 = some mm.cls := hown
  have hl : lv_has ls 5 [(0, .ref (a 0)), (1, .ref (p 0)), (2, .int (nI q)), (3, .int w), (4, .int (nI s))] := hl
  have k1 := hts (.fieldLink RX0 15 "LastWord$Affairs" "author" "[I") (List.mem_of_getElem? (i := 1) rfl)
  have k2 := hts (.fieldLink RX0 18 "LastWord$Affairs" "subject" "[I") (List.mem_of_getElem? (i := 2) rfl)
  have k3 := hts (.fieldLink RX0 21 "LastWord$Affairs" "printedOn" "[I") (List.mem_of_getElem? (i := 3) rfl)
  have k4 := hts (.fieldLink RX0 33 "LastWord$Affairs" "today" "I") (List.mem_of_getElem? (i := 4) rfl)
  have k5 := hts (.fieldLink RX0 30 "LastWord$Affairs" "late" "[I") (List.mem_of_getElem? (i := 5) rfl)
  have k6 := hts (.fieldLink RX0 37 "LastWord$Affairs" "letters" "I") (List.mem_of_getElem? (i := 6) rfl)
  have iX0 : ∀ w ∈ u_ws RX0 TX0 11, w ∈ wsX0_print := fun _ h => (List.mem_cons_of_mem _ (List.mem_append_left _ (List.mem_append_right _ h)))
  refine lv_aload_n hx hb dX0_print_0 rfl (lv_at hl 0 rfl) ?_
  refine wg_X0_5 hx hb hts iX0 hown hK hP 0 rfl k1 rfl dX0_print_1 ?_
  refine lv_iload_n hx hb dX0_print_4 rfl (lv_at hl 2 rfl) ?_
  refine lv_iload_n hx hb dX0_print_5 rfl (lv_at hl 3 rfl) ?_
  refine wk_ast hx hb hK hP hD hS 2 0 rfl rfl q rfl (by omega) (by decide) dX0_print_6 (ws' := affW c a (va_up σ 5 (upd (σ 5) q w)) ++ pageW c p π) rfl (fun H locs hP hD hS => ?_)
  refine lv_aload_n hx hb dX0_print_7 rfl (lv_at hl 0 rfl) ?_
  refine wg_X0_6 hx hb hts iX0 hown hK hP 0 rfl k2 rfl dX0_print_8 ?_
  refine lv_iload_n hx hb dX0_print_11 rfl (lv_at hl 2 rfl) ?_
  refine lv_iload hx hb dX0_print_12 (lv_at hl 4 rfl) ?_
  refine wk_ast hx hb hK hP hD hS 3 0 rfl rfl q rfl (by omega) (by decide) dX0_print_14 (ws' := affW c a (va_up (va_up σ 5 (upd (σ 5) q w)) 6 (upd (σ 6) q (nI s))) ++ pageW c p π) rfl (fun H locs hP hD hS => ?_)
  refine lv_aload_n hx hb dX0_print_15 rfl (lv_at hl 0 rfl) ?_
  refine wg_X0_7 hx hb hts iX0 hown hK hP 0 rfl k3 rfl dX0_print_16 ?_
  refine lv_iload_n hx hb dX0_print_19 rfl (lv_at hl 2 rfl) ?_
  refine lv_aload_n hx hb dX0_print_20 rfl (lv_at hl 0 rfl) ?_
  refine wg_X0_0 hx hb hts iX0 hown hK hP 0 rfl k4 rfl dX0_print_21 ?_
  refine wk_ast hx hb hK hP hD hS 4 0 rfl rfl q rfl (by omega) (by decide) dX0_print_24 (ws' := affW c a (va_up (va_up (va_up σ 5 (upd (σ 5) q w)) 6 (upd (σ 6) q (nI s))) 7 (upd (σ 7) q (σ 0 0))) ++ pageW c p π) rfl (fun H locs hP hD hS => ?_)
  refine lv_aload_n hx hb dX0_print_25 rfl (lv_at hl 0 rfl) ?_
  refine wg_X0_10 hx hb hts iX0 hown hK hP 0 rfl k5 rfl dX0_print_26 ?_
  refine lv_iload_n hx hb dX0_print_29 rfl (lv_at hl 2 rfl) ?_
  refine lv_iconst (v := 0) hx hb dX0_print_30 (by decide) ?_
  refine wk_ast hx hb hK hP hD hS 7 0 rfl rfl q rfl (by omega) (by decide) dX0_print_31 (ws' := affW c a (va_up (va_up (va_up (va_up σ 5 (upd (σ 5) q w)) 6 (upd (σ 6) q (nI s))) 7 (upd (σ 7) q (σ 0 0))) 10 (upd (σ 10) q 0)) ++ pageW c p π) rfl (fun H locs hP hD hS => ?_)
  refine lv_aload_n hx hb dX0_print_32 rfl (lv_at hl 0 rfl) ?_
  refine lv_dup hx hb dX0_print_33 rfl ?_
  refine wg_X0_1 hx hb hts iX0 hown hK hP 0 rfl k6 rfl dX0_print_34 ?_
  refine lv_iconst (v := 1) hx hb dX0_print_37 (by decide) ?_
  refine lv_iadd hx hb dX0_print_38 ?_
  refine wp_X0_1 hx hb hts iX0 hown hK hP hD hS 0 rfl k6 (Nat.le_of_ble_eq_true rfl) dX0_print_39 (ws' := affW c a (va_up (va_up (va_up (va_up (va_up σ 5 (upd (σ 5) q w)) 6 (upd (σ 6) q (nI s))) 7 (upd (σ 7) q (σ 0 0))) 10 (upd (σ 10) q 0)) 1 (fun _ => (σ 1 0) + 1)) ++ pageW c p π) rfl (fun H locs hP hD hS => ?_)
  refine lv_aload_n hx hb dX0_print_42 rfl (lv_at hl 0 rfl) ?_
  refine lv_aload_n hx hb dX0_print_43 rfl (lv_at hl 1 rfl) ?_
  refine lv_iload_n hx hb dX0_print_44 rfl (lv_at hl 2 rfl) ?_
  refine wk_callVV (As := [.ref (p 0), .int (nI q)]) (rest := []) ⟨hx, hb, hml, hown, hts⟩ (c_X0_charge l D c a (va_up (va_up (va_up (va_up (va_up σ 5 (upd (σ 5) q w)) 6 (upd (σ 6) q (nI s))) 7 (upd (σ 7) q (σ 0 0))) 10 (upd (σ 10) q 0)) 1 (fun _ => (σ 1 0) + 1)) p π q (hp) (hq) (by show ixOK (upd (σ 6) q (nI s) q) 5; rw [pk_us]; exact ix_nI hs (by omega))) (cwV 2 hts gX0_print_X0_charge rfl rfl rfl hd_X0_charge ⟨Nat.le_of_ble_eq_true rfl, Nat.le_of_ble_eq_true rfl⟩) hK hP hD hS hA [0, 1, 2, 3, 4, 5, 6, 7, 8, 9, 10, 11, 12, 13, 14, 15, 16, 17] [] 18 rfl rfl rfl (ws' := affW c a (chargeF π (va_up (va_up (va_up (va_up (va_up σ 5 (upd (σ 5) q w)) 6 (upd (σ 6) q (nI s))) 7 (upd (σ 7) q (σ 0 0))) 10 (upd (σ 10) q 0)) 1 (fun _ => (σ 1 0) + 1)) q) ++ pageW c p π) rfl rfl rfl rfl 0 rfl rfl rfl hl.1 rfl (Nat.le_of_ble_eq_true rfl) dX0_print_45 (Nat.zero_le _) (Nat.zero_le _) (fun H locs hP hD hS => ?_)
  exact ret 48 ls H _ hP hS dX0_print_48

abbrev rmX0_charge : Room := { frames := 1, cells := 0, slots := 0, locals := 27 }
theorem hd_X0_charge : yX0_charge.cls = RX0 ∧ yX0_charge.cls ≠ "java/lang/invoke/MethodHandle" ∧ yX0_charge.cls ≠ "java/lang/invoke/VarHandle" ∧ (parseMethodDescriptor yX0_charge.desc).map (fun d => d.parameters.length) = some 2 := by decide +kernel
set_option maxHeartbeats 4000000 in
set_option maxRecDepth 100000 in
theorem c_X0_charge (l : Launch) (D : va_G) (c : Nat → ClassId) (a : Nat → Nat) (σ : Nat → Nat → Int32) (p : Nat → Nat) (π : Nat → Nat → Int32) (q : Nat) (hp : wfP π) (hq : q < 6) (hs : ixOK (σ 6 q) 5) : wk_UpV l yX0_charge wsX0_charge rmX0_charge D (tysL c) [.ref (a 0), .ref (p 0), .int (nI q)] (affW c a σ ++ pageW c p π) (affW c a (chargeF π σ q) ++ pageW c p π) := by
  refine wk_mkV (cc := cX0_charge) (maxL := 4) (by decide) rfl (Nat.le_of_ble_eq_true rfl) ?_
  intro A pr ev ss mm args below meth cd ls H H0 Q hst hP hK hD hS hA hl ret
  obtain ⟨hx, hb, hml, hown, hts, -⟩ := hst
  have hown : ss.vm.findClass RX0 = some mm.cls := hown
  have hl : lv_has ls 4 [(0, .ref (a 0)), (1, .ref (p 0)), (2, .int (nI q))] := hl
  have k1 := hts (.fieldLink RX0 15 "LastWord$Affairs" "author" "[I") (List.mem_of_getElem? (i := 1) rfl)
  have k2 := hts (.fieldLink RX0 18 "LastWord$Affairs" "subject" "[I") (List.mem_of_getElem? (i := 2) rfl)
  have k3 := hts (.fieldLink RX0 43 "LastWord$Affairs" "laid" "I") (List.mem_of_getElem? (i := 3) rfl)
  have k4 := hts (.fieldLink RX0 24 "LastWord$Affairs" "owes" "[I") (List.mem_of_getElem? (i := 4) rfl)
  have k5 := hts (.fieldLink RX0 27 "LastWord$Affairs" "work" "[I") (List.mem_of_getElem? (i := 5) rfl)
  have k6 := hts (.fieldLink RX0 95 "LastWord$Page" "pen" "[I") (List.mem_of_getElem? (i := 6) rfl)
  have iX0 : ∀ w ∈ u_ws RX0 TX0 11, w ∈ wsX0_charge := fun _ h => (List.mem_cons_of_mem _ (List.mem_append_left _ (List.mem_append_right _ h)))
  have iX5 : ∀ w ∈ u_ws RX5 TX5 5, w ∈ wsX0_charge := fun _ h => (List.mem_cons_of_mem _ (List.mem_append_right _ h))
  refine lv_aload_n hx hb dX0_charge_0 rfl (lv_at hl 1 rfl) ?_
  refine lv_aload_n hx hb dX0_charge_1 rfl (lv_at hl 0 rfl) ?_
  refine wg_X0_5 hx hb hts iX0 hown hK hP 0 rfl k1 rfl dX0_charge_2 ?_
  refine lv_iload_n hx hb dX0_charge_5 rfl (lv_at hl 2 rfl) ?_
  refine wk_ald hx hb hK hP 2 0 rfl rfl q rfl (by omega) (by decide) dX0_charge_6 ?_
  refine lv_aload_n hx hb dX0_charge_7 rfl (lv_at hl 0 rfl) ?_
  refine wg_X0_6 hx hb hts iX0 hown hK hP 0 rfl k2 rfl dX0_charge_8 ?_
  refine lv_iload_n hx hb dX0_charge_11 rfl (lv_at hl 2 rfl) ?_
  refine wk_ald hx hb hK hP 3 0 rfl rfl q rfl (by omega) (by decide) dX0_charge_12 ?_
  refine wk_eqi (hs.1) ?_
  refine lv_aload_n hx hb dX0_charge_13 rfl (lv_at hl 0 rfl) ?_
  refine wg_X0_3 hx hb hts iX0 hown hK hP 0 rfl k3 rfl dX0_charge_14 ?_
  refine wk_callRV (As := [.int (σ 5 q), .int (nI ((σ 6 q).toNatClampNeg)), .int (σ 3 0)]) (rest := []) ⟨hx, hb, hml, hown, hts⟩ (c_X5_answerer l D c p π (σ 5 q) ((σ 6 q).toNatClampNeg) (σ 3 0) (hp) (hs.2)) (cwV 3 hts gX0_charge_X5_answerer rfl rfl rfl hd_X5_answerer ⟨Nat.le_of_ble_eq_true rfl, Nat.le_of_ble_eq_true rfl⟩) hK hP [8, 9, 10, 11, 12, 13, 14, 15, 16, 17] rfl 0 rfl rfl rfl hl.1 rfl (Nat.le_of_ble_eq_true rfl) dX0_charge_17 (Nat.zero_le _) (Nat.zero_le _) ?_
  refine lv_topi (fun w3 ew => ?_)
  refine lv_istore_n (lv' := [(3, .int w3), (0, .ref (a 0)), (1, .ref (p 0)), (2, .int (nI q))]) hx hb dX0_charge_20 rfl hl (by decide) rfl (fun ls hl => ?_)
  refine lv_aload_n hx hb dX0_charge_21 rfl (lv_at hl 1 rfl) ?_
  refine wg_X0_8 hx hb hts iX0 hown hK hP 0 rfl k4 rfl dX0_charge_22 ?_
  refine lv_iload_n hx hb dX0_charge_25 rfl (lv_at hl 3 rfl) ?_
  refine lv_iload_n hx hb dX0_charge_26 rfl (lv_at hl 0 rfl) ?_
  refine wk_ast hx hb hK hP hD hS 5 0 rfl rfl q rfl (by omega) (by decide) dX0_charge_27 (ws' := affW c a (va_up σ 8 (upd (σ 8) q w3)) ++ pageW c p π) rfl (fun H locs hP hD hS => ?_)
  refine lv_aload_n hx hb dX0_charge_28 rfl (lv_at hl 1 rfl) ?_
  refine wg_X0_9 hx hb hts iX0 hown hK hP 0 rfl k5 rfl dX0_charge_29 ?_
  refine lv_iload_n hx hb dX0_charge_32 rfl (lv_at hl 3 rfl) ?_
  refine lv_iload_n hx hb dX0_charge_33 rfl (lv_at hl 0 rfl) ?_
  refine lv_bipush (v := -9) hx hb dX0_charge_34 (by decide) ?_
  refine lv_icmp_ne (tgt := 43) hx hb dX0_charge_36 (by decide) (fun h1 => ?_) (fun h1 => ?_)
  rotate_left
  · refine lv_iconst (v := 0) hx hb dX0_charge_39 (by decide) ?_
    refine lv_goto (tgt := 49) hx hb dX0_charge_40 (by decide) ?_
    refine wk_ast hx hb hK hP hD hS 6 0 rfl rfl q rfl (by omega) (by decide) dX0_charge_49 (ws' := affW c a (va_up (va_up σ 8 (upd (σ 8) q w3)) 9 (upd (σ 9) q 0)) ++ pageW c p π) rfl (fun H locs hP hD hS => ?_)
    have eg3 : va_up (va_up σ 8 (upd (σ 8) q w3)) 9 (upd (σ 9) q 0) = chargeF π σ q := by rw [chargeF, chargeW, ← ew]; first | rw [if_pos h1] | rw [if_neg h1]
    have hP : va_P D vwCl (affW c a (chargeF π σ q) ++ pageW c p π) H := by rw [← eg3]; exact hP
    have hD : va_D A (affW c a (chargeF π σ q) ++ pageW c p π) := by rw [← eg3]; exact hD
    exact ret 50 ls H _ hP hS dX0_charge_50
  have hw : ixOK w3 (nW π) := (answer_ok hp (σ 5 q) (σ 6 q).toNatClampNeg (σ 3 0)).elim (fun e => absurd (ew.trans e) h1) (fun e => by rw [ew]; exact e)
  refine lv_aload_n hx hb dX0_charge_43 rfl (lv_at hl 2 rfl) ?_
  refine wg_X5_2 hx hb hts iX5 hown hK hP 8 rfl k6 rfl dX0_charge_44 ?_
  refine lv_iload_n hx hb dX0_charge_47 rfl (lv_at hl 0 rfl) ?_
  refine wk_ald hx hb hK hP 9 0 rfl rfl w3.toNatClampNeg (hw.1) (Nat.lt_of_lt_of_le hw.2 hp.2.1) (by decide) dX0_charge_48 ?_
  refine wk_ast hx hb hK hP hD hS 6 0 rfl rfl q rfl (by omega) (by decide) dX0_charge_49 (ws' := affW c a (va_up (va_up σ 8 (upd (σ 8) q w3)) 9 (upd (σ 9) q (π 2 w3.toNatClampNeg))) ++ pageW c p π) rfl (fun H locs hP hD hS => ?_)
  have eg2 : va_up (va_up σ 8 (upd (σ 8) q w3)) 9 (upd (σ 9) q (π 2 w3.toNatClampNeg)) = chargeF π σ q := by rw [chargeF, chargeW, ← ew]; first | rw [if_pos h1] | rw [if_neg h1]
  have hP : va_P D vwCl (affW c a (chargeF π σ q) ++ pageW c p π) H := by rw [← eg2]; exact hP
  have hD : va_D A (affW c a (chargeF π σ q) ++ pageW c p π) := by rw [← eg2]; exact hD
  exact ret 50 ls H _ hP hS dX0_charge_50

/-! ===== constructors, walked ===== -/
abbrev rmX0_init : Room := { frames := 1, cells := 7, slots := 42, locals := 12 }
theorem hdi_X0 : yX0_init.cls ≠ "java/lang/invoke/MethodHandle" ∧ yX0_init.cls ≠ "java/lang/invoke/VarHandle" ∧ (parseMethodDescriptor yX0_init.desc).map (fun d => d.parameters.length) = some 0 := by decide +kernel
set_option maxHeartbeats 4000000 in
set_option maxRecDepth 100000 in
theorem c_X0_init (l : Launch) (D : va_G) (c : Nat → ClassId) (h0 : Nat) : wk_Ini l yX0_init wsX0_init rmX0_init D (tysL c) [.ref h0] [(h0, .inr (0, [.int 0, .int 0, .int 0, .int 0, .null, .null, .null, .null, .null, .null, .null]))] (fun _ => True) (fun u : Nat → Nat => u 0 = h0) (fun u => affW c u wz) 7 42 := by
  refine wk_mkI (cc := cX0_init) (maxL := 1) (by decide) rfl rfl (Nat.le_of_ble_eq_true rfl) ?_
  intro A pr ev ss mm args below meth cd ls Q hst hin hE hP hK hD hS hA hl ret
  obtain ⟨hx, hb, hml, hown, hts, -⟩ := hst
  have hown : ss.vm.findClass RX0 = some mm.cls := hown
  have hl : lv_has ls 1 [(0, .ref h0)] := hl
  have k1 := hts (.methodLink RX0 3 objectInit) (List.mem_of_getElem? (i := 1) rfl)
  have k2 := hts (.instanceMethod objectInit) (List.mem_of_getElem? (i := 2) rfl)
  have k3 := hts (.code objectInit ⟨#[0xb1]⟩ 1 none) (List.mem_of_getElem? (i := 3) rfl)
  have k4 := hts (.arrayClass .int) (List.mem_of_getElem? (i := 4) rfl)
  have k5 := hts (.fieldLink RX0 9 "LastWord$Affairs" "lateTimes" "[I") (List.mem_of_getElem? (i := 5) rfl)
  have k6 := hts (.fieldLink RX0 15 "LastWord$Affairs" "author" "[I") (List.mem_of_getElem? (i := 6) rfl)
  have k7 := hts (.fieldLink RX0 18 "LastWord$Affairs" "subject" "[I") (List.mem_of_getElem? (i := 7) rfl)
  have k8 := hts (.fieldLink RX0 21 "LastWord$Affairs" "printedOn" "[I") (List.mem_of_getElem? (i := 8) rfl)
  have k9 := hts (.fieldLink RX0 24 "LastWord$Affairs" "owes" "[I") (List.mem_of_getElem? (i := 9) rfl)
  have k10 := hts (.fieldLink RX0 27 "LastWord$Affairs" "work" "[I") (List.mem_of_getElem? (i := 10) rfl)
  have k11 := hts (.fieldLink RX0 30 "LastWord$Affairs" "late" "[I") (List.mem_of_getElem? (i := 11) rfl)
  have iX0 : ∀ w ∈ u_ws RX0 TX0 11, w ∈ wsX0_init := fun _ h => (List.mem_cons_of_mem _ (List.mem_append_right _ h))
  refine lv_aload_n hx hb dX0_init_0 rfl (lv_at hl 0 rfl) ?_
  refine W.objInit hx hb hown k1 k2 k3 rfl (by rw [hml]; exact hl.1) rfl dX0_init_1 (Nat.le_of_ble_eq_true rfl) (Nat.le_of_ble_eq_true rfl) ?_
  refine W.eq (g2 := F0 mm 4 ls []) rfl ?_
  refine lv_aload_n hx hb dX0_init_4 rfl (lv_at hl 0 rfl) ?_
  refine lv_bipush (v := 6) hx hb dX0_init_5 (by decide) ?_
  refine wk_newa (cl := c) hx hb k4 hK hP hD hS hA 6 (by omega) rfl (Nat.le_of_ble_eq_true rfl) (Nat.le_of_ble_eq_true rfl) dX0_init_7 (fun q1 H hP hD hS => ?_)
  have hP : va_P D vwCl ([(h0, .inr (0, [.int 0, .int 0, .int 0, .int 0, .null, .null, .null, .null, .null, .null, .null]))] ++ [(q1, .inl (c 0, 6, .inl (fun _ => 0)))]) H := hP
  have hD : va_D A ([(h0, .inr (0, [.int 0, .int 0, .int 0, .int 0, .null, .null, .null, .null, .null, .null, .null]))] ++ [(q1, .inl (c 0, 6, .inl (fun _ => 0)))]) := hD
  refine W.widen (k := 1) (n := 6) (Nat.le_of_ble_eq_true rfl) (Nat.le_of_ble_eq_true rfl) ?_
  refine va_putF (D := D) (ci := 0) (v := .ref q1) (ty := .array .int) (C := RX0) (T := TX0) (N := 11) hx hb hts iX0 tyX0 tyX0_ok nmX0 hown hK hP hD hS 0 rfl rfl 4 (by decide) k5 (fun _ h9 => h9) rfl hin rfl (by decide +kernel) rfl rfl (Nat.le_of_ble_eq_true rfl) dX0_init_9 (fun H locs hP hD hS => ?_)
  have hP : va_P D vwCl ([(h0, .inr (0, [.int 0, .int 0, .int 0, .int 0, .ref q1, .null, .null, .null, .null, .null, .null]))] ++ [(q1, .inl (c 0, 6, .inl (fun _ => 0)))]) H := hP
  have hD : va_D A ([(h0, .inr (0, [.int 0, .int 0, .int 0, .int 0, .ref q1, .null, .null, .null, .null, .null, .null]))] ++ [(q1, .inl (c 0, 6, .inl (fun _ => 0)))]) := hD
  refine lv_aload_n hx hb dX0_init_12 rfl (lv_at hl 0 rfl) ?_
  refine lv_bipush (v := 6) hx hb dX0_init_13 (by decide) ?_
  refine wk_newa (cl := c) hx hb k4 hK hP hD hS hA 6 (by omega) rfl (Nat.le_of_ble_eq_true rfl) (Nat.le_of_ble_eq_true rfl) dX0_init_15 (fun q2 H hP hD hS => ?_)
  have hP : va_P D vwCl ([(h0, .inr (0, [.int 0, .int 0, .int 0, .int 0, .ref q1, .null, .null, .null, .null, .null, .null]))] ++ [(q1, .inl (c 0, 6, .inl (fun _ => 0)))] ++ [(q2, .inl (c 0, 6, .inl (fun _ => 0)))]) H := hP
  have hD : va_D A ([(h0, .inr (0, [.int 0, .int 0, .int 0, .int 0, .ref q1, .null, .null, .null, .null, .null, .null]))] ++ [(q1, .inl (c 0, 6, .inl (fun _ => 0)))] ++ [(q2, .inl (c 0, 6, .inl (fun _ => 0)))]) := hD
  refine W.widen (k := 2) (n := 12) (Nat.le_of_ble_eq_true rfl) (Nat.le_of_ble_eq_true rfl) ?_
  refine va_putF (D := D) (ci := 0) (v := .ref q2) (ty := .array .int) (C := RX0) (T := TX0) (N := 11) hx hb hts iX0 tyX0 tyX0_ok nmX0 hown hK hP hD hS 0 rfl rfl 5 (by decide) k6 (fun _ h9 => h9) rfl hin rfl (by decide +kernel) rfl rfl (Nat.le_of_ble_eq_true rfl) dX0_init_17 (fun H locs hP hD hS => ?_)
  have hP : va_P D vwCl ([(h0, .inr (0, [.int 0, .int 0, .int 0, .int 0, .ref q1, .ref q2, .null, .null, .null, .null, .null]))] ++ [(q1, .inl (c 0, 6, .inl (fun _ => 0)))] ++ [(q2, .inl (c 0, 6, .inl (fun _ => 0)))]) H := hP
  have hD : va_D A ([(h0, .inr (0, [.int 0, .int 0, .int 0, .int 0, .ref q1, .ref q2, .null, .null, .null, .null, .null]))] ++ [(q1, .inl (c 0, 6, .inl (fun _ => 0)))] ++ [(q2, .inl (c 0, 6, .inl (fun _ => 0)))]) := hD
  refine lv_aload_n hx hb dX0_init_20 rfl (lv_at hl 0 rfl) ?_
  refine lv_bipush (v := 6) hx hb dX0_init_21 (by decide) ?_
  refine wk_newa (cl := c) hx hb k4 hK hP hD hS hA 6 (by omega) rfl (Nat.le_of_ble_eq_true rfl) (Nat.le_of_ble_eq_true rfl) dX0_init_23 (fun q3 H hP hD hS => ?_)
  have hP : va_P D vwCl ([(h0, .inr (0, [.int 0, .int 0, .int 0, .int 0, .ref q1, .ref q2, .null, .null, .null, .null, .null]))] ++ [(q1, .inl (c 0, 6, .inl (fun _ => 0)))] ++ [(q2, .inl (c 0, 6, .inl (fun _ => 0)))] ++ [(q3, .inl (c 0, 6, .inl (fun _ => 0)))]) H := hP
  have hD : va_D A ([(h0, .inr (0, [.int 0, .int 0, .int 0, .int 0, .ref q1, .ref q2, .null, .null, .null, .null, .null]))] ++ [(q1, .inl (c 0, 6, .inl (fun _ => 0)))] ++ [(q2, .inl (c 0, 6, .inl (fun _ => 0)))] ++ [(q3, .inl (c 0, 6, .inl (fun _ => 0)))]) := hD
  refine W.widen (k := 3) (n := 18) (Nat.le_of_ble_eq_true rfl) (Nat.le_of_ble_eq_true rfl) ?_
  refine va_putF (D := D) (ci := 0) (v := .ref q3) (ty := .array .int) (C := RX0) (T := TX0) (N := 11) hx hb hts iX0 tyX0 tyX0_ok nmX0 hown hK hP hD hS 0 rfl rfl 6 (by decide) k7 (fun _ h9 => h9) rfl hin rfl (by decide +kernel) rfl rfl (Nat.le_of_ble_eq_true rfl) dX0_init_25 (fun H locs hP hD hS => ?_)
  have hP : va_P D vwCl ([(h0, .inr (0, [.int 0, .int 0, .int 0, .int 0, .ref q1, .ref q2, .ref q3, .null, .null, .null, .null]))] ++ [(q1, .inl (c 0, 6, .inl (fun _ => 0)))] ++ [(q2, .inl (c 0, 6, .inl (fun _ => 0)))] ++ [(q3, .inl (c 0, 6, .inl (fun _ => 0)))]) H := hP
  have hD : va_D A ([(h0, .inr (0, [.int 0, .int 0, .int 0, .int 0, .ref q1, .ref q2, .ref q3, .null, .null, .null, .null]))] ++ [(q1, .inl (c 0, 6, .inl (fun _ => 0)))] ++ [(q2, .inl (c 0, 6, .inl (fun _ => 0)))] ++ [(q3, .inl (c 0, 6, .inl (fun _ => 0)))]) := hD
  refine lv_aload_n hx hb dX0_init_28 rfl (lv_at hl 0 rfl) ?_
  refine lv_bipush (v := 6) hx hb dX0_init_29 (by decide) ?_
  refine wk_newa (cl := c) hx hb k4 hK hP hD hS hA 6 (by omega) rfl (Nat.le_of_ble_eq_true rfl) (Nat.le_of_ble_eq_true rfl) dX0_init_31 (fun q4 H hP hD hS => ?_)
  have hP : va_P D vwCl ([(h0, .inr (0, [.int 0, .int 0, .int 0, .int 0, .ref q1, .ref q2, .ref q3, .null, .null, .null, .null]))] ++ [(q1, .inl (c 0, 6, .inl (fun _ => 0)))] ++ [(q2, .inl (c 0, 6, .inl (fun _ => 0)))] ++ [(q3, .inl (c 0, 6, .inl (fun _ => 0)))] ++ [(q4, .inl (c 0, 6, .inl (fun _ => 0)))]) H := hP
  have hD : va_D A ([(h0, .inr (0, [.int 0, .int 0, .int 0, .int 0, .ref q1, .ref q2, .ref q3, .null, .null, .null, .null]))] ++ [(q1, .inl (c 0, 6, .inl (fun _ => 0)))] ++ [(q2, .inl (c 0, 6, .inl (fun _ => 0)))] ++ [(q3, .inl (c 0, 6, .inl (fun _ => 0)))] ++ [(q4, .inl (c 0, 6, .inl (fun _ => 0)))]) := hD
  refine W.widen (k := 4) (n := 24) (Nat.le_of_ble_eq_true rfl) (Nat.le_of_ble_eq_true rfl) ?_
  refine va_putF (D := D) (ci := 0) (v := .ref q4) (ty := .array .int) (C := RX0) (T := TX0) (N := 11) hx hb hts iX0 tyX0 tyX0_ok nmX0 hown hK hP hD hS 0 rfl rfl 7 (by decide) k8 (fun _ h9 => h9) rfl hin rfl (by decide +kernel) rfl rfl (Nat.le_of_ble_eq_true rfl) dX0_init_33 (fun H locs hP hD hS => ?_)
  have hP : va_P D vwCl ([(h0, .inr (0, [.int 0, .int 0, .int 0, .int 0, .ref q1, .ref q2, .ref q3, .ref q4, .null, .null, .null]))] ++ [(q1, .inl (c 0, 6, .inl (fun _ => 0)))] ++ [(q2, .inl (c 0, 6, .inl (fun _ => 0)))] ++ [(q3, .inl (c 0, 6, .inl (fun _ => 0)))] ++ [(q4, .inl (c 0, 6, .inl (fun _ => 0)))]) H := hP
  have hD : va_D A ([(h0, .inr (0, [.int 0, .int 0, .int 0, .int 0, .ref q1, .ref q2, .ref q3, .ref q4, .null, .null, .null]))] ++ [(q1, .inl (c 0, 6, .inl (fun _ => 0)))] ++ [(q2, .inl (c 0, 6, .inl (fun _ => 0)))] ++ [(q3, .inl (c 0, 6, .inl (fun _ => 0)))] ++ [(q4, .inl (c 0, 6, .inl (fun _ => 0)))]) := hD
  refine lv_aload_n hx hb dX0_init_36 rfl (lv_at hl 0 rfl) ?_
  refine lv_bipush (v := 6) hx hb dX0_init_37 (by decide) ?_
  refine wk_newa (cl := c) hx hb k4 hK hP hD hS hA 6 (by omega) rfl (Nat.le_of_ble_eq_true rfl) (Nat.le_of_ble_eq_true rfl) dX0_init_39 (fun q5 H hP hD hS => ?_)
  have hP : va_P D vwCl ([(h0, .inr (0, [.int 0, .int 0, .int 0, .int 0, .ref q1, .ref q2, .ref q3, .ref q4, .null, .null, .null]))] ++ [(q1, .inl (c 0, 6, .inl (fun _ => 0)))] ++ [(q2, .inl (c 0, 6, .inl (fun _ => 0)))] ++ [(q3, .inl (c 0, 6, .inl (fun _ => 0)))] ++ [(q4, .inl (c 0, 6, .inl (fun _ => 0)))] ++ [(q5, .inl (c 0, 6, .inl (fun _ => 0)))]) H := hP
  have hD : va_D A ([(h0, .inr (0, [.int 0, .int 0, .int 0, .int 0, .ref q1, .ref q2, .ref q3, .ref q4, .null, .null, .null]))] ++ [(q1, .inl (c 0, 6, .inl (fun _ => 0)))] ++ [(q2, .inl (c 0, 6, .inl (fun _ => 0)))] ++ [(q3, .inl (c 0, 6, .inl (fun _ => 0)))] ++ [(q4, .inl (c 0, 6, .inl (fun _ => 0)))] ++ [(q5, .inl (c 0, 6, .inl (fun _ => 0)))]) := hD
  refine W.widen (k := 5) (n := 30) (Nat.le_of_ble_eq_true rfl) (Nat.le_of_ble_eq_true rfl) ?_
  refine va_putF (D := D) (ci := 0) (v := .ref q5) (ty := .array .int) (C := RX0) (T := TX0) (N := 11) hx hb hts iX0 tyX0 tyX0_ok nmX0 hown hK hP hD hS 0 rfl rfl 8 (by decide) k9 (fun _ h9 => h9) rfl hin rfl (by decide +kernel) rfl rfl (Nat.le_of_ble_eq_true rfl) dX0_init_41 (fun H locs hP hD hS => ?_)
  have hP : va_P D vwCl ([(h0, .inr (0, [.int 0, .int 0, .int 0, .int 0, .ref q1, .ref q2, .ref q3, .ref q4, .ref q5, .null, .null]))] ++ [(q1, .inl (c 0, 6, .inl (fun _ => 0)))] ++ [(q2, .inl (c 0, 6, .inl (fun _ => 0)))] ++ [(q3, .inl (c 0, 6, .inl (fun _ => 0)))] ++ [(q4, .inl (c 0, 6, .inl (fun _ => 0)))] ++ [(q5, .inl (c 0, 6, .inl (fun _ => 0)))]) H := hP
  have hD : va_D A ([(h0, .inr (0, [.int 0, .int 0, .int 0, .int 0, .ref q1, .ref q2, .ref q3, .ref q4, .ref q5, .null, .null]))] ++ [(q1, .inl (c 0, 6, .inl (fun _ => 0)))] ++ [(q2, .inl (c 0, 6, .inl (fun _ => 0)))] ++ [(q3, .inl (c 0, 6, .inl (fun _ => 0)))] ++ [(q4, .inl (c 0, 6, .inl (fun _ => 0)))] ++ [(q5, .inl (c 0, 6, .inl (fun _ => 0)))]) := hD
  refine lv_aload_n hx hb dX0_init_44 rfl (lv_at hl 0 rfl) ?_
  refine lv_bipush (v := 6) hx hb dX0_init_45 (by decide) ?_
  refine wk_newa (cl := c) hx hb k4 hK hP hD hS hA 6 (by omega) rfl (Nat.le_of_ble_eq_true rfl) (Nat.le_of_ble_eq_true rfl) dX0_init_47 (fun q6 H hP hD hS => ?_)
  have hP : va_P D vwCl ([(h0, .inr (0, [.int 0, .int 0, .int 0, .int 0, .ref q1, .ref q2, .ref q3, .ref q4, .ref q5, .null, .null]))] ++ [(q1, .inl (c 0, 6, .inl (fun _ => 0)))] ++ [(q2, .inl (c 0, 6, .inl (fun _ => 0)))] ++ [(q3, .inl (c 0, 6, .inl (fun _ => 0)))] ++ [(q4, .inl (c 0, 6, .inl (fun _ => 0)))] ++ [(q5, .inl (c 0, 6, .inl (fun _ => 0)))] ++ [(q6, .inl (c 0, 6, .inl (fun _ => 0)))]) H := hP
  have hD : va_D A ([(h0, .inr (0, [.int 0, .int 0, .int 0, .int 0, .ref q1, .ref q2, .ref q3, .ref q4, .ref q5, .null, .null]))] ++ [(q1, .inl (c 0, 6, .inl (fun _ => 0)))] ++ [(q2, .inl (c 0, 6, .inl (fun _ => 0)))] ++ [(q3, .inl (c 0, 6, .inl (fun _ => 0)))] ++ [(q4, .inl (c 0, 6, .inl (fun _ => 0)))] ++ [(q5, .inl (c 0, 6, .inl (fun _ => 0)))] ++ [(q6, .inl (c 0, 6, .inl (fun _ => 0)))]) := hD
  refine W.widen (k := 6) (n := 36) (Nat.le_of_ble_eq_true rfl) (Nat.le_of_ble_eq_true rfl) ?_
  refine va_putF (D := D) (ci := 0) (v := .ref q6) (ty := .array .int) (C := RX0) (T := TX0) (N := 11) hx hb hts iX0 tyX0 tyX0_ok nmX0 hown hK hP hD hS 0 rfl rfl 9 (by decide) k10 (fun _ h9 => h9) rfl hin rfl (by decide +kernel) rfl rfl (Nat.le_of_ble_eq_true rfl) dX0_init_49 (fun H locs hP hD hS => ?_)
  have hP : va_P D vwCl ([(h0, .inr (0, [.int 0, .int 0, .int 0, .int 0, .ref q1, .ref q2, .ref q3, .ref q4, .ref q5, .ref q6, .null]))] ++ [(q1, .inl (c 0, 6, .inl (fun _ => 0)))] ++ [(q2, .inl (c 0, 6, .inl (fun _ => 0)))] ++ [(q3, .inl (c 0, 6, .inl (fun _ => 0)))] ++ [(q4, .inl (c 0, 6, .inl (fun _ => 0)))] ++ [(q5, .inl (c 0, 6, .inl (fun _ => 0)))] ++ [(q6, .inl (c 0, 6, .inl (fun _ => 0)))]) H := hP
  have hD : va_D A ([(h0, .inr (0, [.int 0, .int 0, .int 0, .int 0, .ref q1, .ref q2, .ref q3, .ref q4, .ref q5, .ref q6, .null]))] ++ [(q1, .inl (c 0, 6, .inl (fun _ => 0)))] ++ [(q2, .inl (c 0, 6, .inl (fun _ => 0)))] ++ [(q3, .inl (c 0, 6, .inl (fun _ => 0)))] ++ [(q4, .inl (c 0, 6, .inl (fun _ => 0)))] ++ [(q5, .inl (c 0, 6, .inl (fun _ => 0)))] ++ [(q6, .inl (c 0, 6, .inl (fun _ => 0)))]) := hD
  refine lv_aload_n hx hb dX0_init_52 rfl (lv_at hl 0 rfl) ?_
  refine lv_bipush (v := 6) hx hb dX0_init_53 (by decide) ?_
  refine wk_newa (cl := c) hx hb k4 hK hP hD hS hA 6 (by omega) rfl (Nat.le_of_ble_eq_true rfl) (Nat.le_of_ble_eq_true rfl) dX0_init_55 (fun q7 H hP hD hS => ?_)
  have hP : va_P D vwCl ([(h0, .inr (0, [.int 0, .int 0, .int 0, .int 0, .ref q1, .ref q2, .ref q3, .ref q4, .ref q5, .ref q6, .null]))] ++ [(q1, .inl (c 0, 6, .inl (fun _ => 0)))] ++ [(q2, .inl (c 0, 6, .inl (fun _ => 0)))] ++ [(q3, .inl (c 0, 6, .inl (fun _ => 0)))] ++ [(q4, .inl (c 0, 6, .inl (fun _ => 0)))] ++ [(q5, .inl (c 0, 6, .inl (fun _ => 0)))] ++ [(q6, .inl (c 0, 6, .inl (fun _ => 0)))] ++ [(q7, .inl (c 0, 6, .inl (fun _ => 0)))]) H := hP
  have hD : va_D A ([(h0, .inr (0, [.int 0, .int 0, .int 0, .int 0, .ref q1, .ref q2, .ref q3, .ref q4, .ref q5, .ref q6, .null]))] ++ [(q1, .inl (c 0, 6, .inl (fun _ => 0)))] ++ [(q2, .inl (c 0, 6, .inl (fun _ => 0)))] ++ [(q3, .inl (c 0, 6, .inl (fun _ => 0)))] ++ [(q4, .inl (c 0, 6, .inl (fun _ => 0)))] ++ [(q5, .inl (c 0, 6, .inl (fun _ => 0)))] ++ [(q6, .inl (c 0, 6, .inl (fun _ => 0)))] ++ [(q7, .inl (c 0, 6, .inl (fun _ => 0)))]) := hD
  refine W.widen (k := 7) (n := 42) (Nat.le_of_ble_eq_true rfl) (Nat.le_of_ble_eq_true rfl) ?_
  refine va_putF (D := D) (ci := 0) (v := .ref q7) (ty := .array .int) (C := RX0) (T := TX0) (N := 11) hx hb hts iX0 tyX0 tyX0_ok nmX0 hown hK hP hD hS 0 rfl rfl 10 (by decide) k11 (fun _ h9 => h9) rfl hin rfl (by decide +kernel) rfl rfl (Nat.le_of_ble_eq_true rfl) dX0_init_57 (fun H locs hP hD hS => ?_)
  have hP : va_P D vwCl ([(h0, .inr (0, [.int 0, .int 0, .int 0, .int 0, .ref q1, .ref q2, .ref q3, .ref q4, .ref q5, .ref q6, .ref q7]))] ++ [(q1, .inl (c 0, 6, .inl (fun _ => 0)))] ++ [(q2, .inl (c 0, 6, .inl (fun _ => 0)))] ++ [(q3, .inl (c 0, 6, .inl (fun _ => 0)))] ++ [(q4, .inl (c 0, 6, .inl (fun _ => 0)))] ++ [(q5, .inl (c 0, 6, .inl (fun _ => 0)))] ++ [(q6, .inl (c 0, 6, .inl (fun _ => 0)))] ++ [(q7, .inl (c 0, 6, .inl (fun _ => 0)))]) H := hP
  have hD : va_D A ([(h0, .inr (0, [.int 0, .int 0, .int 0, .int 0, .ref q1, .ref q2, .ref q3, .ref q4, .ref q5, .ref q6, .ref q7]))] ++ [(q1, .inl (c 0, 6, .inl (fun _ => 0)))] ++ [(q2, .inl (c 0, 6, .inl (fun _ => 0)))] ++ [(q3, .inl (c 0, 6, .inl (fun _ => 0)))] ++ [(q4, .inl (c 0, 6, .inl (fun _ => 0)))] ++ [(q5, .inl (c 0, 6, .inl (fun _ => 0)))] ++ [(q6, .inl (c 0, 6, .inl (fun _ => 0)))] ++ [(q7, .inl (c 0, 6, .inl (fun _ => 0)))]) := hD
  exact ret 60 ls _ _ (fun k => if k = 0 then h0 else if k = 4 then q1 else if k = 5 then q2 else if k = 6 then q3 else if k = 7 then q4 else if k = 8 then q5 else if k = 9 then q6 else if k = 10 then q7 else 0) rfl hP hD hS dX0_init_60

abbrev rmX6_init : Room := { frames := 1, cells := 1, slots := 200, locals := 12 }
theorem hdi_X6 : yX6_init.cls ≠ "java/lang/invoke/MethodHandle" ∧ yX6_init.cls ≠ "java/lang/invoke/VarHandle" ∧ (parseMethodDescriptor yX6_init.desc).map (fun d => d.parameters.length) = some 0 := by decide +kernel
set_option maxHeartbeats 4000000 in
set_option maxRecDepth 100000 in
theorem c_X6_init (l : Launch) (D : va_G) (c : Nat → ClassId) (h0 : Nat) : wk_Ini l yX6_init wsX6_init rmX6_init D (tysL c) [.ref h0] [(h0, .inr (6, [.null, .int 0, .int 0, .int 0, .int 0, .int 0, .int 0]))] (fun _ => True) (fun u : Nat → Nat => u 0 = h0) (fun u => textW c u wz) 1 200 := by
  refine wk_mkI (cc := cX6_init) (maxL := 1) (by decide) rfl rfl (Nat.le_of_ble_eq_true rfl) ?_
  intro A pr ev ss mm args below meth cd ls Q hst hin hE hP hK hD hS hA hl ret
  obtain ⟨hx, hb, hml, hown, hts, -⟩ := hst
  have hown : ss.vm.findClass RX6 = some mm.cls := hown
  have hl : lv_has ls 1 [(0, .ref h0)] := hl
  have k1 := hts (.methodLink RX6 3 objectInit) (List.mem_of_getElem? (i := 1) rfl)
  have k2 := hts (.instanceMethod objectInit) (List.mem_of_getElem? (i := 2) rfl)
  have k3 := hts (.code objectInit ⟨#[0xb1]⟩ 1 none) (List.mem_of_getElem? (i := 3) rfl)
  have k4 := hts (.arrayClass .int) (List.mem_of_getElem? (i := 4) rfl)
  have k5 := hts (.fieldLink RX6 9 "LastWord$Text" "letters" "[I") (List.mem_of_getElem? (i := 5) rfl)
  have iX6 : ∀ w ∈ u_ws RX6 TX6 7, w ∈ wsX6_init := fun _ h => (List.mem_cons_of_mem _ (List.mem_append_right _ h))
  refine lv_aload_n hx hb dX6_init_0 rfl (lv_at hl 0 rfl) ?_
  refine W.objInit hx hb hown k1 k2 k3 rfl (by rw [hml]; exact hl.1) rfl dX6_init_1 (Nat.le_of_ble_eq_true rfl) (Nat.le_of_ble_eq_true rfl) ?_
  refine W.eq (g2 := F0 mm 4 ls []) rfl ?_
  refine lv_aload_n hx hb dX6_init_4 rfl (lv_at hl 0 rfl) ?_
  refine lv_sipush (v := 200) hx hb dX6_init_5 (by decide) ?_
  refine wk_newa (cl := c) hx hb k4 hK hP hD hS hA 200 (by omega) rfl (Nat.le_of_ble_eq_true rfl) (Nat.le_of_ble_eq_true rfl) dX6_init_8 (fun q1 H hP hD hS => ?_)
  have hP : va_P D vwCl ([(h0, .inr (6, [.null, .int 0, .int 0, .int 0, .int 0, .int 0, .int 0]))] ++ [(q1, .inl (c 0, 200, .inl (fun _ => 0)))]) H := hP
  have hD : va_D A ([(h0, .inr (6, [.null, .int 0, .int 0, .int 0, .int 0, .int 0, .int 0]))] ++ [(q1, .inl (c 0, 200, .inl (fun _ => 0)))]) := hD
  refine W.widen (k := 1) (n := 200) (Nat.le_of_ble_eq_true rfl) (Nat.le_of_ble_eq_true rfl) ?_
  refine va_putF (D := D) (ci := 6) (v := .ref q1) (ty := .array .int) (C := RX6) (T := TX6) (N := 7) hx hb hts iX6 tyX6 tyX6_ok nmX6 hown hK hP hD hS 0 rfl rfl 0 (by decide) k5 (fun _ h9 => h9) rfl hin rfl (by decide +kernel) rfl rfl (Nat.le_of_ble_eq_true rfl) dX6_init_10 (fun H locs hP hD hS => ?_)
  have hP : va_P D vwCl ([(h0, .inr (6, [.ref q1, .int 0, .int 0, .int 0, .int 0, .int 0, .int 0]))] ++ [(q1, .inl (c 0, 200, .inl (fun _ => 0)))]) H := hP
  have hD : va_D A ([(h0, .inr (6, [.ref q1, .int 0, .int 0, .int 0, .int 0, .int 0, .int 0]))] ++ [(q1, .inl (c 0, 200, .inl (fun _ => 0)))]) := hD
  exact ret 13 ls _ _ (fun k => if k = 0 then h0 else if k = 1 then q1 else 0) rfl hP hD hS dX6_init_13

abbrev rmX3_init : Room := { frames := 1, cells := 3, slots := 15, locals := 12 }
theorem hdi_X3 : yX3_init.cls ≠ "java/lang/invoke/MethodHandle" ∧ yX3_init.cls ≠ "java/lang/invoke/VarHandle" ∧ (parseMethodDescriptor yX3_init.desc).map (fun d => d.parameters.length) = some 0 := by decide +kernel
set_option maxHeartbeats 4000000 in
set_option maxRecDepth 100000 in
theorem c_X3_init (l : Launch) (D : va_G) (c : Nat → ClassId) (h0 : Nat) : wk_Ini l yX3_init wsX3_init rmX3_init D (tysL c) [.ref h0] [(h0, .inr (3, [.int 0, .null, .null, .null]))] (fun _ => True) (fun u : Nat → Nat => u 0 = h0) (fun u => findW c u wz) 3 15 := by
  refine wk_mkI (cc := cX3_init) (maxL := 1) (by decide) rfl rfl (Nat.le_of_ble_eq_true rfl) ?_
  intro A pr ev ss mm args below meth cd ls Q hst hin hE hP hK hD hS hA hl ret
  obtain ⟨hx, hb, hml, hown, hts, -⟩ := hst
  have hown : ss.vm.findClass RX3 = some mm.cls := hown
  have hl : lv_has ls 1 [(0, .ref h0)] := hl
  have k1 := hts (.methodLink RX3 3 objectInit) (List.mem_of_getElem? (i := 1) rfl)
  have k2 := hts (.instanceMethod objectInit) (List.mem_of_getElem? (i := 2) rfl)
  have k3 := hts (.code objectInit ⟨#[0xb1]⟩ 1 none) (List.mem_of_getElem? (i := 3) rfl)
  have k4 := hts (.arrayClass .int) (List.mem_of_getElem? (i := 4) rfl)
  have k5 := hts (.fieldLink RX3 9 "LastWord$Findings" "author" "[I") (List.mem_of_getElem? (i := 5) rfl)
  have k6 := hts (.fieldLink RX3 15 "LastWord$Findings" "subject" "[I") (List.mem_of_getElem? (i := 6) rfl)
  have k7 := hts (.fieldLink RX3 18 "LastWord$Findings" "answerer" "[I") (List.mem_of_getElem? (i := 7) rfl)
  have iX3 : ∀ w ∈ u_ws RX3 TX3 4, w ∈ wsX3_init := fun _ h => (List.mem_cons_of_mem _ (List.mem_append_right _ h))
  refine lv_aload_n hx hb dX3_init_0 rfl (lv_at hl 0 rfl) ?_
  refine W.objInit hx hb hown k1 k2 k3 rfl (by rw [hml]; exact hl.1) rfl dX3_init_1 (Nat.le_of_ble_eq_true rfl) (Nat.le_of_ble_eq_true rfl) ?_
  refine W.eq (g2 := F0 mm 4 ls []) rfl ?_
  refine lv_aload_n hx hb dX3_init_4 rfl (lv_at hl 0 rfl) ?_
  refine lv_iconst (v := 5) hx hb dX3_init_5 (by decide) ?_
  refine wk_newa (cl := c) hx hb k4 hK hP hD hS hA 5 (by omega) rfl (Nat.le_of_ble_eq_true rfl) (Nat.le_of_ble_eq_true rfl) dX3_init_6 (fun q1 H hP hD hS => ?_)
  have hP : va_P D vwCl ([(h0, .inr (3, [.int 0, .null, .null, .null]))] ++ [(q1, .inl (c 0, 5, .inl (fun _ => 0)))]) H := hP
  have hD : va_D A ([(h0, .inr (3, [.int 0, .null, .null, .null]))] ++ [(q1, .inl (c 0, 5, .inl (fun _ => 0)))]) := hD
  refine W.widen (k := 1) (n := 5) (Nat.le_of_ble_eq_true rfl) (Nat.le_of_ble_eq_true rfl) ?_
  refine va_putF (D := D) (ci := 3) (v := .ref q1) (ty := .array .int) (C := RX3) (T := TX3) (N := 4) hx hb hts iX3 tyX3 tyX3_ok nmX3 hown hK hP hD hS 0 rfl rfl 1 (by decide) k5 (fun _ h9 => h9) rfl hin rfl (by decide +kernel) rfl rfl (Nat.le_of_ble_eq_true rfl) dX3_init_8 (fun H locs hP hD hS => ?_)
  have hP : va_P D vwCl ([(h0, .inr (3, [.int 0, .ref q1, .null, .null]))] ++ [(q1, .inl (c 0, 5, .inl (fun _ => 0)))]) H := hP
  have hD : va_D A ([(h0, .inr (3, [.int 0, .ref q1, .null, .null]))] ++ [(q1, .inl (c 0, 5, .inl (fun _ => 0)))]) := hD
  refine lv_aload_n hx hb dX3_init_11 rfl (lv_at hl 0 rfl) ?_
  refine lv_iconst (v := 5) hx hb dX3_init_12 (by decide) ?_
  refine wk_newa (cl := c) hx hb k4 hK hP hD hS hA 5 (by omega) rfl (Nat.le_of_ble_eq_true rfl) (Nat.le_of_ble_eq_true rfl) dX3_init_13 (fun q2 H hP hD hS => ?_)
  have hP : va_P D vwCl ([(h0, .inr (3, [.int 0, .ref q1, .null, .null]))] ++ [(q1, .inl (c 0, 5, .inl (fun _ => 0)))] ++ [(q2, .inl (c 0, 5, .inl (fun _ => 0)))]) H := hP
  have hD : va_D A ([(h0, .inr (3, [.int 0, .ref q1, .null, .null]))] ++ [(q1, .inl (c 0, 5, .inl (fun _ => 0)))] ++ [(q2, .inl (c 0, 5, .inl (fun _ => 0)))]) := hD
  refine W.widen (k := 2) (n := 10) (Nat.le_of_ble_eq_true rfl) (Nat.le_of_ble_eq_true rfl) ?_
  refine va_putF (D := D) (ci := 3) (v := .ref q2) (ty := .array .int) (C := RX3) (T := TX3) (N := 4) hx hb hts iX3 tyX3 tyX3_ok nmX3 hown hK hP hD hS 0 rfl rfl 2 (by decide) k6 (fun _ h9 => h9) rfl hin rfl (by decide +kernel) rfl rfl (Nat.le_of_ble_eq_true rfl) dX3_init_15 (fun H locs hP hD hS => ?_)
  have hP : va_P D vwCl ([(h0, .inr (3, [.int 0, .ref q1, .ref q2, .null]))] ++ [(q1, .inl (c 0, 5, .inl (fun _ => 0)))] ++ [(q2, .inl (c 0, 5, .inl (fun _ => 0)))]) H := hP
  have hD : va_D A ([(h0, .inr (3, [.int 0, .ref q1, .ref q2, .null]))] ++ [(q1, .inl (c 0, 5, .inl (fun _ => 0)))] ++ [(q2, .inl (c 0, 5, .inl (fun _ => 0)))]) := hD
  refine lv_aload_n hx hb dX3_init_18 rfl (lv_at hl 0 rfl) ?_
  refine lv_iconst (v := 5) hx hb dX3_init_19 (by decide) ?_
  refine wk_newa (cl := c) hx hb k4 hK hP hD hS hA 5 (by omega) rfl (Nat.le_of_ble_eq_true rfl) (Nat.le_of_ble_eq_true rfl) dX3_init_20 (fun q3 H hP hD hS => ?_)
  have hP : va_P D vwCl ([(h0, .inr (3, [.int 0, .ref q1, .ref q2, .null]))] ++ [(q1, .inl (c 0, 5, .inl (fun _ => 0)))] ++ [(q2, .inl (c 0, 5, .inl (fun _ => 0)))] ++ [(q3, .inl (c 0, 5, .inl (fun _ => 0)))]) H := hP
  have hD : va_D A ([(h0, .inr (3, [.int 0, .ref q1, .ref q2, .null]))] ++ [(q1, .inl (c 0, 5, .inl (fun _ => 0)))] ++ [(q2, .inl (c 0, 5, .inl (fun _ => 0)))] ++ [(q3, .inl (c 0, 5, .inl (fun _ => 0)))]) := hD
  refine W.widen (k := 3) (n := 15) (Nat.le_of_ble_eq_true rfl) (Nat.le_of_ble_eq_true rfl) ?_
  refine va_putF (D := D) (ci := 3) (v := .ref q3) (ty := .array .int) (C := RX3) (T := TX3) (N := 4) hx hb hts iX3 tyX3 tyX3_ok nmX3 hown hK hP hD hS 0 rfl rfl 3 (by decide) k7 (fun _ h9 => h9) rfl hin rfl (by decide +kernel) rfl rfl (Nat.le_of_ble_eq_true rfl) dX3_init_22 (fun H locs hP hD hS => ?_)
  have hP : va_P D vwCl ([(h0, .inr (3, [.int 0, .ref q1, .ref q2, .ref q3]))] ++ [(q1, .inl (c 0, 5, .inl (fun _ => 0)))] ++ [(q2, .inl (c 0, 5, .inl (fun _ => 0)))] ++ [(q3, .inl (c 0, 5, .inl (fun _ => 0)))]) H := hP
  have hD : va_D A ([(h0, .inr (3, [.int 0, .ref q1, .ref q2, .ref q3]))] ++ [(q1, .inl (c 0, 5, .inl (fun _ => 0)))] ++ [(q2, .inl (c 0, 5, .inl (fun _ => 0)))] ++ [(q3, .inl (c 0, 5, .inl (fun _ => 0)))]) := hD
  exact ret 25 ls _ _ (fun k => if k = 0 then h0 else if k = 1 then q1 else if k = 2 then q2 else if k = 3 then q3 else 0) rfl hP hD hS dX3_init_25

abbrev rmX2_init : Room := { frames := 1, cells := 0, slots := 0, locals := 12 }
theorem hdi_X2 : yX2_init.cls ≠ "java/lang/invoke/MethodHandle" ∧ yX2_init.cls ≠ "java/lang/invoke/VarHandle" ∧ (parseMethodDescriptor yX2_init.desc).map (fun d => d.parameters.length) = some 0 := by decide +kernel
set_option maxHeartbeats 4000000 in
set_option maxRecDepth 100000 in
theorem c_X2_init (l : Launch) (D : va_G) (c : Nat → ClassId) (h0 : Nat) : wk_Ini l yX2_init wsX2_init rmX2_init D (tysL c) [.ref h0] [(h0, .inr (2, [.int 0, .int 0]))] (fun _ => True) (fun u : Nat → Nat => u 0 = h0) (fun u => courseW c u wz) 0 0 := by
  refine wk_mkI (cc := cX2_init) (maxL := 1) (by decide) rfl rfl (Nat.le_of_ble_eq_true rfl) ?_
  intro A pr ev ss mm args below meth cd ls Q hst hin hE hP hK hD hS hA hl ret
  obtain ⟨hx, hb, hml, hown, hts, -⟩ := hst
  have hown : ss.vm.findClass RX2 = some mm.cls := hown
  have hl : lv_has ls 1 [(0, .ref h0)] := hl
  have k1 := hts (.methodLink RX2 3 objectInit) (List.mem_of_getElem? (i := 1) rfl)
  have k2 := hts (.instanceMethod objectInit) (List.mem_of_getElem? (i := 2) rfl)
  have k3 := hts (.code objectInit ⟨#[0xb1]⟩ 1 none) (List.mem_of_getElem? (i := 3) rfl)
  refine lv_aload_n hx hb dX2_init_0 rfl (lv_at hl 0 rfl) ?_
  refine W.objInit hx hb hown k1 k2 k3 rfl (by rw [hml]; exact hl.1) rfl dX2_init_1 (Nat.le_of_ble_eq_true rfl) (Nat.le_of_ble_eq_true rfl) ?_
  refine W.eq (g2 := F0 mm 4 ls []) rfl ?_
  exact ret 4 ls _ _ (fun k => if k = 0 then h0 else 0) rfl hP hD hS dX2_init_4

abbrev pz : wRec := va_up wz 1 (fun _ => 9)
abbrev rmX5_init : Room := { frames := 1, cells := 9, slots := 48, locals := 12 }
theorem hdi_X5 : yX5_init.cls ≠ "java/lang/invoke/MethodHandle" ∧ yX5_init.cls ≠ "java/lang/invoke/VarHandle" ∧ (parseMethodDescriptor yX5_init.desc).map (fun d => d.parameters.length) = some 0 := by decide +kernel
set_option maxHeartbeats 4000000 in
set_option maxRecDepth 100000 in
theorem c_X5_init (l : Launch) (D : va_G) (c : Nat → ClassId) (h0 : Nat) : wk_Ini l yX5_init wsX5_init rmX5_init D (tysL c) [.ref h0] [(h0, .inr (5, [.int 0, .int 0, .null, .null, .null]))] (fun U => va_AOA .int U) (fun u : Nat → Nat => u 0 = h0) (fun u => pageW c u pz) 9 48 := by
  refine wk_mkI (cc := cX5_init) (maxL := 1) (by decide) rfl rfl (Nat.le_of_ble_eq_true rfl) ?_
  intro A pr ev ss mm args below meth cd ls Q hst hin hE hP hK hD hS hA hl ret
  obtain ⟨hx, hb, hml, hown, hts, -⟩ := hst
  have hown : ss.vm.findClass RX5 = some mm.cls := hown
  have hl : lv_has ls 1 [(0, .ref h0)] := hl
  have k1 := hts (.methodLink RX5 3 objectInit) (List.mem_of_getElem? (i := 1) rfl)
  have k2 := hts (.instanceMethod objectInit) (List.mem_of_getElem? (i := 2) rfl)
  have k3 := hts (.code objectInit ⟨#[0xb1]⟩ 1 none) (List.mem_of_getElem? (i := 3) rfl)
  have k4 := hts (.fieldLink RX5 9 "LastWord$Page" "term" "I") (List.mem_of_getElem? (i := 4) rfl)
  have k5 := hts (.arrayClass .int) (List.mem_of_getElem? (i := 5) rfl)
  have k6 := hts (.fieldLink RX5 15 "LastWord$Page" "pen" "[I") (List.mem_of_getElem? (i := 6) rfl)
  have k7 := hts (.fieldLink RX5 19 "LastWord$Page" "hobby" "[I") (List.mem_of_getElem? (i := 7) rfl)
  have k8 := hts (.classLink RX5 22 "[[I") (List.mem_of_getElem? (i := 8) rfl)
  have k9 := hts (.fieldLink RX5 24 "LastWord$Page" "near" "[[I") (List.mem_of_getElem? (i := 9) rfl)
  have iX5 : ∀ w ∈ u_ws RX5 TX5 5, w ∈ wsX5_init := fun _ h => (List.mem_cons_of_mem _ (List.mem_append_right _ h))
  refine lv_aload_n hx hb dX5_init_0 rfl (lv_at hl 0 rfl) ?_
  refine W.objInit hx hb hown k1 k2 k3 rfl (by rw [hml]; exact hl.1) rfl dX5_init_1 (Nat.le_of_ble_eq_true rfl) (Nat.le_of_ble_eq_true rfl) ?_
  refine W.eq (g2 := F0 mm 4 ls []) rfl ?_
  refine lv_aload_n hx hb dX5_init_4 rfl (lv_at hl 0 rfl) ?_
  refine lv_bipush (v := 9) hx hb dX5_init_5 (by decide) ?_
  refine va_put (D := D) (ci := 5) (v := .int 9) (ty := .int) (C := RX5) (T := TX5) (N := 5) hx hb hts iX5 tyX5 tyX5_ok nmX5 hown hK hP hD hS 0 rfl rfl 1 (by decide) k4 (fun _ h9 => h9) rfl (by decide +kernel) rfl rfl (Nat.le_of_ble_eq_true rfl) dX5_init_7 (fun H locs hP hD hS => ?_)
  have hP : va_P D vwCl ([(h0, .inr (5, [.int 0, .int 9, .null, .null, .null]))]) H := hP
  have hD : va_D A ([(h0, .inr (5, [.int 0, .int 9, .null, .null, .null]))]) := hD
  refine lv_aload_n hx hb dX5_init_10 rfl (lv_at hl 0 rfl) ?_
  refine lv_bipush (v := 6) hx hb dX5_init_11 (by decide) ?_
  refine wk_newa (cl := c) hx hb k5 hK hP hD hS hA 6 (by omega) rfl (Nat.le_of_ble_eq_true rfl) (Nat.le_of_ble_eq_true rfl) dX5_init_13 (fun q1 H hP hD hS => ?_)
  have hP : va_P D vwCl ([(h0, .inr (5, [.int 0, .int 9, .null, .null, .null]))] ++ [(q1, .inl (c 0, 6, .inl (fun _ => 0)))]) H := hP
  have hD : va_D A ([(h0, .inr (5, [.int 0, .int 9, .null, .null, .null]))] ++ [(q1, .inl (c 0, 6, .inl (fun _ => 0)))]) := hD
  refine W.widen (k := 1) (n := 6) (Nat.le_of_ble_eq_true rfl) (Nat.le_of_ble_eq_true rfl) ?_
  refine va_putF (D := D) (ci := 5) (v := .ref q1) (ty := .array .int) (C := RX5) (T := TX5) (N := 5) hx hb hts iX5 tyX5 tyX5_ok nmX5 hown hK hP hD hS 0 rfl rfl 2 (by decide) k6 (fun _ h9 => h9) rfl hin rfl (by decide +kernel) rfl rfl (Nat.le_of_ble_eq_true rfl) dX5_init_15 (fun H locs hP hD hS => ?_)
  have hP : va_P D vwCl ([(h0, .inr (5, [.int 0, .int 9, .ref q1, .null, .null]))] ++ [(q1, .inl (c 0, 6, .inl (fun _ => 0)))]) H := hP
  have hD : va_D A ([(h0, .inr (5, [.int 0, .int 9, .ref q1, .null, .null]))] ++ [(q1, .inl (c 0, 6, .inl (fun _ => 0)))]) := hD
  refine lv_aload_n hx hb dX5_init_18 rfl (lv_at hl 0 rfl) ?_
  refine lv_bipush (v := 6) hx hb dX5_init_19 (by decide) ?_
  refine wk_newa (cl := c) hx hb k5 hK hP hD hS hA 6 (by omega) rfl (Nat.le_of_ble_eq_true rfl) (Nat.le_of_ble_eq_true rfl) dX5_init_21 (fun q2 H hP hD hS => ?_)
  have hP : va_P D vwCl ([(h0, .inr (5, [.int 0, .int 9, .ref q1, .null, .null]))] ++ [(q1, .inl (c 0, 6, .inl (fun _ => 0)))] ++ [(q2, .inl (c 0, 6, .inl (fun _ => 0)))]) H := hP
  have hD : va_D A ([(h0, .inr (5, [.int 0, .int 9, .ref q1, .null, .null]))] ++ [(q1, .inl (c 0, 6, .inl (fun _ => 0)))] ++ [(q2, .inl (c 0, 6, .inl (fun _ => 0)))]) := hD
  refine W.widen (k := 2) (n := 12) (Nat.le_of_ble_eq_true rfl) (Nat.le_of_ble_eq_true rfl) ?_
  refine va_putF (D := D) (ci := 5) (v := .ref q2) (ty := .array .int) (C := RX5) (T := TX5) (N := 5) hx hb hts iX5 tyX5 tyX5_ok nmX5 hown hK hP hD hS 0 rfl rfl 3 (by decide) k7 (fun _ h9 => h9) rfl hin rfl (by decide +kernel) rfl rfl (Nat.le_of_ble_eq_true rfl) dX5_init_23 (fun H locs hP hD hS => ?_)
  have hP : va_P D vwCl ([(h0, .inr (5, [.int 0, .int 9, .ref q1, .ref q2, .null]))] ++ [(q1, .inl (c 0, 6, .inl (fun _ => 0)))] ++ [(q2, .inl (c 0, 6, .inl (fun _ => 0)))]) H := hP
  have hD : va_D A ([(h0, .inr (5, [.int 0, .int 9, .ref q1, .ref q2, .null]))] ++ [(q1, .inl (c 0, 6, .inl (fun _ => 0)))] ++ [(q2, .inl (c 0, 6, .inl (fun _ => 0)))]) := hD
  refine lv_aload_n hx hb dX5_init_26 rfl (lv_at hl 0 rfl) ?_
  refine lv_bipush (v := 6) hx hb dX5_init_27 (by decide) ?_
  refine lv_iconst (v := 5) hx hb dX5_init_29 (by decide) ?_
  refine wk_mna (cl := c) hx hb hown (by rw [show "[" ++ (FieldType.array .int).toString = "[[I" from by decide]; exact k8) hE k5 hK hP hD hS hA (Nat.le_of_ble_eq_true rfl) (Nat.le_of_ble_eq_true rfl) dX5_init_30 (fun q3 r H hP hD hS => ?_)
  have hP : va_P D vwCl ([(h0, .inr (5, [.int 0, .int 9, .ref q1, .ref q2, .null]))] ++ [(q1, .inl (c 0, 6, .inl (fun _ => 0)))] ++ [(q2, .inl (c 0, 6, .inl (fun _ => 0)))] ++ [(q3, .inl (c 2, 6, .inr (.inr (.inr (.inr (fun i => some (r i)))))))] ++ [(r 0, .inl (c 0, 5, .inl (fun _ => 0))), (r 1, .inl (c 0, 5, .inl (fun _ => 0))), (r 2, .inl (c 0, 5, .inl (fun _ => 0))), (r 3, .inl (c 0, 5, .inl (fun _ => 0))), (r 4, .inl (c 0, 5, .inl (fun _ => 0))), (r 5, .inl (c 0, 5, .inl (fun _ => 0)))]) H := hP
  have hD : va_D A ([(h0, .inr (5, [.int 0, .int 9, .ref q1, .ref q2, .null]))] ++ [(q1, .inl (c 0, 6, .inl (fun _ => 0)))] ++ [(q2, .inl (c 0, 6, .inl (fun _ => 0)))] ++ [(q3, .inl (c 2, 6, .inr (.inr (.inr (.inr (fun i => some (r i)))))))] ++ [(r 0, .inl (c 0, 5, .inl (fun _ => 0))), (r 1, .inl (c 0, 5, .inl (fun _ => 0))), (r 2, .inl (c 0, 5, .inl (fun _ => 0))), (r 3, .inl (c 0, 5, .inl (fun _ => 0))), (r 4, .inl (c 0, 5, .inl (fun _ => 0))), (r 5, .inl (c 0, 5, .inl (fun _ => 0)))]) := hD
  refine W.widen (k := 9) (n := 48) (Nat.le_of_ble_eq_true rfl) (Nat.le_of_ble_eq_true rfl) ?_
  refine va_putF (D := D) (ci := 5) (v := .ref q3) (ty := .array (.array .int)) (C := RX5) (T := TX5) (N := 5) hx hb hts iX5 tyX5 tyX5_ok nmX5 hown hK hP hD hS 0 rfl rfl 4 (by decide) k9 (fun _ h9 => h9) rfl hin rfl (by decide +kernel) rfl rfl (Nat.le_of_ble_eq_true rfl) dX5_init_34 (fun H locs hP hD hS => ?_)
  have hP : va_P D vwCl ([(h0, .inr (5, [.int 0, .int 9, .ref q1, .ref q2, .ref q3]))] ++ [(q1, .inl (c 0, 6, .inl (fun _ => 0)))] ++ [(q2, .inl (c 0, 6, .inl (fun _ => 0)))] ++ [(q3, .inl (c 2, 6, .inr (.inr (.inr (.inr (fun i => some (r i)))))))] ++ [(r 0, .inl (c 0, 5, .inl (fun _ => 0))), (r 1, .inl (c 0, 5, .inl (fun _ => 0))), (r 2, .inl (c 0, 5, .inl (fun _ => 0))), (r 3, .inl (c 0, 5, .inl (fun _ => 0))), (r 4, .inl (c 0, 5, .inl (fun _ => 0))), (r 5, .inl (c 0, 5, .inl (fun _ => 0)))]) H := hP
  have hD : va_D A ([(h0, .inr (5, [.int 0, .int 9, .ref q1, .ref q2, .ref q3]))] ++ [(q1, .inl (c 0, 6, .inl (fun _ => 0)))] ++ [(q2, .inl (c 0, 6, .inl (fun _ => 0)))] ++ [(q3, .inl (c 2, 6, .inr (.inr (.inr (.inr (fun i => some (r i)))))))] ++ [(r 0, .inl (c 0, 5, .inl (fun _ => 0))), (r 1, .inl (c 0, 5, .inl (fun _ => 0))), (r 2, .inl (c 0, 5, .inl (fun _ => 0))), (r 3, .inl (c 0, 5, .inl (fun _ => 0))), (r 4, .inl (c 0, 5, .inl (fun _ => 0))), (r 5, .inl (c 0, 5, .inl (fun _ => 0)))]) := hD
  obtain ⟨pp, epp⟩ : ∃ f : Nat → Nat, f = (fun k => if k = 0 then h0 else if k = 2 then q1 else if k = 3 then q2 else if k = 4 then q3 else r (k - 5)) := ⟨_, rfl⟩
  have hq : ∀ j, j < 6 → (fun i => some (r i)) j = (fun i => some (pp (5 + i))) j := fun j hj => by rcases (show j = 0 ∨ j = 1 ∨ j = 2 ∨ j = 3 ∨ j = 4 ∨ j = 5 by omega) with rfl | rfl | rfl | rfl | rfl | rfl <;> (rw [epp]; rfl)
  have hP : va_P D vwCl ([(h0, .inr (5, [.int 0, .int 9, .ref q1, .ref q2, .ref q3]))] ++ [(q1, .inl (c 0, 6, .inl (fun _ => 0)))] ++ [(q2, .inl (c 0, 6, .inl (fun _ => 0)))] ++ [(q3, .inl (c 2, 6, .inr (.inr (.inr (.inr (fun i => some (pp (5 + i))))))))] ++ [(r 0, .inl (c 0, 5, .inl (fun _ => 0))), (r 1, .inl (c 0, 5, .inl (fun _ => 0))), (r 2, .inl (c 0, 5, .inl (fun _ => 0))), (r 3, .inl (c 0, 5, .inl (fun _ => 0))), (r 4, .inl (c 0, 5, .inl (fun _ => 0))), (r 5, .inl (c 0, 5, .inl (fun _ => 0)))]) H := wk_P_ext (ws := [(h0, .inr (5, [.int 0, .int 9, .ref q1, .ref q2, .ref q3]))] ++ [(q1, .inl (c 0, 6, .inl (fun _ => 0)))] ++ [(q2, .inl (c 0, 6, .inl (fun _ => 0)))] ++ [(q3, .inl (c 2, 6, .inr (.inr (.inr (.inr (fun i => some (r i)))))))] ++ [(r 0, .inl (c 0, 5, .inl (fun _ => 0))), (r 1, .inl (c 0, 5, .inl (fun _ => 0))), (r 2, .inl (c 0, 5, .inl (fun _ => 0))), (r 3, .inl (c 0, 5, .inl (fun _ => 0))), (r 4, .inl (c 0, 5, .inl (fun _ => 0))), (r 5, .inl (c 0, 5, .inl (fun _ => 0)))]) (q := 3) (a := q3) (e1 := .inl (c 2, 6, .inr (.inr (.inr (.inr (fun i => some (r i))))))) (e2 := .inl (c 2, 6, .inr (.inr (.inr (.inr (fun i => some (pp (5 + i)))))))) (wk_qext hq) hP
  have hD : va_D A ([(h0, .inr (5, [.int 0, .int 9, .ref q1, .ref q2, .ref q3]))] ++ [(q1, .inl (c 0, 6, .inl (fun _ => 0)))] ++ [(q2, .inl (c 0, 6, .inl (fun _ => 0)))] ++ [(q3, .inl (c 2, 6, .inr (.inr (.inr (.inr (fun i => some (pp (5 + i))))))))] ++ [(r 0, .inl (c 0, 5, .inl (fun _ => 0))), (r 1, .inl (c 0, 5, .inl (fun _ => 0))), (r 2, .inl (c 0, 5, .inl (fun _ => 0))), (r 3, .inl (c 0, 5, .inl (fun _ => 0))), (r 4, .inl (c 0, 5, .inl (fun _ => 0))), (r 5, .inl (c 0, 5, .inl (fun _ => 0)))]) := wk_D_ext (ws := [(h0, .inr (5, [.int 0, .int 9, .ref q1, .ref q2, .ref q3]))] ++ [(q1, .inl (c 0, 6, .inl (fun _ => 0)))] ++ [(q2, .inl (c 0, 6, .inl (fun _ => 0)))] ++ [(q3, .inl (c 2, 6, .inr (.inr (.inr (.inr (fun i => some (r i)))))))] ++ [(r 0, .inl (c 0, 5, .inl (fun _ => 0))), (r 1, .inl (c 0, 5, .inl (fun _ => 0))), (r 2, .inl (c 0, 5, .inl (fun _ => 0))), (r 3, .inl (c 0, 5, .inl (fun _ => 0))), (r 4, .inl (c 0, 5, .inl (fun _ => 0))), (r 5, .inl (c 0, 5, .inl (fun _ => 0)))]) (q := 3) (a := q3) (e1 := .inl (c 2, 6, .inr (.inr (.inr (.inr (fun i => some (r i))))))) (e2 := .inl (c 2, 6, .inr (.inr (.inr (.inr (fun i => some (pp (5 + i)))))))) hD
  subst epp
  exact ret 37 ls H _ (fun k => if k = 0 then h0 else if k = 2 then q1 else if k = 3 then q2 else if k = 4 then q3 else r (k - 5)) rfl hP hD hS dX5_init_37

def eX1 (U : State) : Prop := va_AO RX0 U ∧ va_Nw (.methodLinkNest RX1 17 yX0_init RX7) U
theorem eX1_ok : eOK eX1 := eOK_and (eOK_O RX0) (eOK_M _ _ _ _)
abbrev rmX1_init : Room := { frames := 2, cells := 17, slots := 108, locals := 32 }
theorem hdi_X1 : yX1_init.cls ≠ "java/lang/invoke/MethodHandle" ∧ yX1_init.cls ≠ "java/lang/invoke/VarHandle" ∧ (parseMethodDescriptor yX1_init.desc).map (fun d => d.parameters.length) = some 0 := by decide +kernel
set_option maxHeartbeats 4000000 in
set_option maxRecDepth 100000 in
theorem c_X1_init (l : Launch) (D : va_G) (c : Nat → ClassId) (h0 : Nat) : wk_Ini l yX1_init wsX1_init rmX1_init D (tysL c) [.ref h0] [(h0, .inr (1, [.null, .int 0]))] (eX1) (fun u : Nat → Nat => u 0 = h0) (fun u => albumW c u wz ++ affW c (subA u 0) wz ++ affW c (subA u 1) wz) 17 108 := by
  refine wk_mkI (cc := cX1_init) (maxL := 2) (by decide) rfl rfl (Nat.le_of_ble_eq_true rfl) ?_
  intro A pr ev ss mm args below meth cd ls Q hst hin hE hP hK hD hS hA hl ret
  obtain ⟨hx, hb, hml, hown, hts, -⟩ := hst
  have hown : ss.vm.findClass RX1 = some mm.cls := hown
  have hl : lv_has ls 2 [(0, .ref h0)] := hl
  have k1 := hts (.methodLink RX1 3 objectInit) (List.mem_of_getElem? (i := 1) rfl)
  have k2 := hts (.instanceMethod objectInit) (List.mem_of_getElem? (i := 2) rfl)
  have k3 := hts (.code objectInit ⟨#[0xb1]⟩ 1 none) (List.mem_of_getElem? (i := 3) rfl)
  have k4 := hts (.classLink RX1 9 RX0) (List.mem_of_getElem? (i := 4) rfl)
  have k5 := hts (.fieldLink RX1 11 "LastWord$Album" "images" "[LLastWord$Affairs;") (List.mem_of_getElem? (i := 5) rfl)
  have k6 := hts (.instantiable RX0 11) (List.mem_of_getElem? (i := 6) rfl)
  have k7 := hts (.initialized RX0) (List.mem_of_getElem? (i := 7) rfl)
  have k8 := hts (.instanceMethod yX0_init) (List.mem_of_getElem? (i := 8) rfl)
  have iX0 : ∀ w ∈ u_ws RX0 TX0 11, w ∈ wsX1_init := fun _ h => (List.mem_cons_of_mem _ (List.mem_append_right _ h))
  have iX1 : ∀ w ∈ u_ws RX1 TX1 2, w ∈ wsX1_init := fun _ h => (List.mem_cons_of_mem _ (List.mem_append_left _ (List.mem_append_right _ h)))
  refine lv_aload_n hx hb dX1_init_0 rfl (lv_at hl 0 rfl) ?_
  refine W.objInit hx hb hown k1 k2 k3 rfl (by rw [hml]; exact hl.1) rfl dX1_init_1 (Nat.le_of_ble_eq_true rfl) (Nat.le_of_ble_eq_true rfl) ?_
  refine W.eq (g2 := F0 mm 4 ls []) rfl ?_
  refine lv_aload_n hx hb dX1_init_4 rfl (lv_at hl 0 rfl) ?_
  refine lv_iconst (v := 2) hx hb dX1_init_5 (by decide) ?_
  refine wk_newq (cl := c) hx hb hown k4 hE.1 hK hP hD hS hA 2 (by omega) rfl (Nat.le_of_ble_eq_true rfl) (Nat.le_of_ble_eq_true rfl) dX1_init_6 (fun q1 H hP hD hS => ?_)
  have hP : va_P D vwCl ([(h0, .inr (1, [.null, .int 0]))] ++ [(q1, .inl (c 1, 2, .inr (.inr (.inr (.inr (fun _ => none))))))]) H := hP
  have hD : va_D A ([(h0, .inr (1, [.null, .int 0]))] ++ [(q1, .inl (c 1, 2, .inr (.inr (.inr (.inr (fun _ => none))))))]) := hD
  refine W.widen (k := 1) (n := 2) (Nat.le_of_ble_eq_true rfl) (Nat.le_of_ble_eq_true rfl) ?_
  refine va_putF (D := D) (ci := 1) (v := .ref q1) (ty := .array (.object "LastWord$Affairs")) (C := RX1) (T := TX1) (N := 2) hx hb hts iX1 tyX1 tyX1_ok nmX1 hown hK hP hD hS 0 rfl rfl 0 (by decide) k5 (fun _ h9 => h9) rfl hin rfl (by decide +kernel) rfl rfl (Nat.le_of_ble_eq_true rfl) dX1_init_9 (fun H locs hP hD hS => ?_)
  have hP : va_P D vwCl ([(h0, .inr (1, [.ref q1, .int 0]))] ++ [(q1, .inl (c 1, 2, .inr (.inr (.inr (.inr (fun _ => none))))))]) H := hP
  have hD : va_D A ([(h0, .inr (1, [.ref q1, .int 0]))] ++ [(q1, .inl (c 1, 2, .inr (.inr (.inr (.inr (fun _ => none))))))]) := hD
  refine lv_iconst (v := 0) hx hb dX1_init_12 (by decide) ?_
  refine wk_eqi (y := nI 0) rfl ?_
  refine lv_istore_n (lv' := [(1, .int (nI 0)), (0, .ref h0)]) hx hb dX1_init_13 rfl hl (by decide) rfl (fun ls hl => ?_)
  refine lv_iload_n hx hb dX1_init_14 rfl (lv_at hl 0 rfl) ?_
  refine lv_iconst (v := 2) hx hb dX1_init_15 (by decide) ?_
  refine wk_ge (tgt := 38) hx hb 0 2 rfl rfl (by omega) (by omega) dX1_init_16 (by decide) (fun q => absurd q (by omega)) (fun _ => ?_)
  refine lv_aload_n hx hb dX1_init_19 rfl (lv_at hl 1 rfl) ?_
  refine wg_X1_0 hx hb hts iX1 hown hK hP 0 rfl k5 (v := .ref q1) rfl dX1_init_20 ?_
  refine lv_iload_n hx hb dX1_init_23 rfl (lv_at hl 0 rfl) ?_
  refine va_new (D := D) (ci := 0) (fs := [.int 0, .int 0, .int 0, .int 0, .null, .null, .null, .null, .null, .null, .null]) (C := RX0) (T := TX0) (N := 11) hx hb hts iX0 tyX0 tyX0_ok hown k4 k6 k7 hK hP hD hS hA rfl (fun j hj => by rcases (show j = 0 ∨ j = 1 ∨ j = 2 ∨ j = 3 ∨ j = 4 ∨ j = 5 ∨ j = 6 ∨ j = 7 ∨ j = 8 ∨ j = 9 ∨ j = 10 by omega) with rfl | rfl | rfl | rfl | rfl | rfl | rfl | rfl | rfl | rfl | rfl <;> rfl) (Nat.le_of_ble_eq_true rfl) (Nat.le_of_ble_eq_true rfl) dX1_init_24 (fun q2 H hP hD hS => ?_)
  have hP : va_P D vwCl ([(h0, .inr (1, [.ref q1, .int 0]))] ++ [(q1, .inl (c 1, 2, .inr (.inr (.inr (.inr (fun _ => none))))))] ++ [(q2, .inr (0, [.int 0, .int 0, .int 0, .int 0, .null, .null, .null, .null, .null, .null, .null]))]) H := hP
  have hD : va_D A ([(h0, .inr (1, [.ref q1, .int 0]))] ++ [(q1, .inl (c 1, 2, .inr (.inr (.inr (.inr (fun _ => none))))))] ++ [(q2, .inr (0, [.int 0, .int 0, .int 0, .int 0, .null, .null, .null, .null, .null, .null, .null]))]) := hD
  refine W.widen (k := 2) (n := 13) (Nat.le_of_ble_eq_true rfl) (Nat.le_of_ble_eq_true rfl) ?_
  refine lv_dup hx hb dX1_init_27 rfl ?_
  refine wk_callIN (rest := [.ref q2, .int (nI 0), .ref q1]) ⟨hx, hb, hml, hown, hts⟩ (c_X0_init l D c q2) (⟨va_cnB 0 hts gX1_init_X0_init_n17 rfl rfl rfl hE.2 k7 hdi_X0 ⟨Nat.le_of_ble_eq_true rfl, Nat.le_of_ble_eq_true rfl⟩, rfl, k8⟩) eOK_T trivial hK hP hD hS hA hl.1 (Nat.le_of_ble_eq_true rfl) dX1_init_28 ⟨Nat.le_of_ble_eq_true rfl, Nat.le_of_ble_eq_true rfl⟩ (fun a3 H locs hu hP2 hD2 hS2 => ?_)
  subst hu
  have hP := hP2
  have hD := hD2
  have hS := hS2
  clear hP2 hD2 hS2
  have hP : va_P D vwCl ([(h0, .inr (1, [.ref q1, .int 0]))] ++ [(q1, .inl (c 1, 2, .inr (.inr (.inr (.inr (fun _ => none))))))] ++ affW c a3 wz) H := hP
  have hD : va_D A ([(h0, .inr (1, [.ref q1, .int 0]))] ++ [(q1, .inl (c 1, 2, .inr (.inr (.inr (.inr (fun _ => none))))))] ++ affW c a3 wz) := hD
  refine W.widen (k := 9) (n := 55) (Nat.le_of_ble_eq_true rfl) (Nat.le_of_ble_eq_true rfl) ?_
  refine va_astq hx hb hK hP hD hS 1 1 2 0 rfl rfl rfl (r := (RX0, TX0, 11)) rfl (vp_in_nI (n := 0) (N := 2) (by omega) (by omega)) dX1_init_31 (fun H locs hP hD hS => ?_)
  have hP : va_P D vwCl ([(h0, .inr (1, [.ref q1, .int 0]))] ++ [(q1, .inl (c 1, 2, .inr (.inr (.inr (.inr (va_up (fun _ => none) 0 (some (a3 0))))))))] ++ affW c a3 wz) H := hP
  have hD : va_D A ([(h0, .inr (1, [.ref q1, .int 0]))] ++ [(q1, .inl (c 1, 2, .inr (.inr (.inr (.inr (va_up (fun _ => none) 0 (some (a3 0))))))))] ++ affW c a3 wz) := hD
  refine lv_iinc (v := nI 1) (lv' := [(1, .int (nI 1)), (0, .ref h0)]) hx hb dX1_init_32 hl (k := 0) rfl (nI_inc 0 1) (by decide) rfl (fun ls hl => ?_)
  refine lv_goto (tgt := 14) hx hb dX1_init_35 (by decide) ?_
  refine lv_iload_n hx hb dX1_init_14 rfl (lv_at hl 0 rfl) ?_
  refine lv_iconst (v := 2) hx hb dX1_init_15 (by decide) ?_
  refine wk_ge (tgt := 38) hx hb 1 2 rfl rfl (by omega) (by omega) dX1_init_16 (by decide) (fun q => absurd q (by omega)) (fun _ => ?_)
  refine lv_aload_n hx hb dX1_init_19 rfl (lv_at hl 1 rfl) ?_
  refine wg_X1_0 hx hb hts iX1 hown hK hP 0 rfl k5 (v := .ref q1) rfl dX1_init_20 ?_
  refine lv_iload_n hx hb dX1_init_23 rfl (lv_at hl 0 rfl) ?_
  refine va_new (D := D) (ci := 0) (fs := [.int 0, .int 0, .int 0, .int 0, .null, .null, .null, .null, .null, .null, .null]) (C := RX0) (T := TX0) (N := 11) hx hb hts iX0 tyX0 tyX0_ok hown k4 k6 k7 hK hP hD hS hA rfl (fun j hj => by rcases (show j = 0 ∨ j = 1 ∨ j = 2 ∨ j = 3 ∨ j = 4 ∨ j = 5 ∨ j = 6 ∨ j = 7 ∨ j = 8 ∨ j = 9 ∨ j = 10 by omega) with rfl | rfl | rfl | rfl | rfl | rfl | rfl | rfl | rfl | rfl | rfl <;> rfl) (Nat.le_of_ble_eq_true rfl) (Nat.le_of_ble_eq_true rfl) dX1_init_24 (fun q4 H hP hD hS => ?_)
  have hP : va_P D vwCl ([(h0, .inr (1, [.ref q1, .int 0]))] ++ [(q1, .inl (c 1, 2, .inr (.inr (.inr (.inr (va_up (fun _ => none) 0 (some (a3 0))))))))] ++ affW c a3 wz ++ [(q4, .inr (0, [.int 0, .int 0, .int 0, .int 0, .null, .null, .null, .null, .null, .null, .null]))]) H := hP
  have hD : va_D A ([(h0, .inr (1, [.ref q1, .int 0]))] ++ [(q1, .inl (c 1, 2, .inr (.inr (.inr (.inr (va_up (fun _ => none) 0 (some (a3 0))))))))] ++ affW c a3 wz ++ [(q4, .inr (0, [.int 0, .int 0, .int 0, .int 0, .null, .null, .null, .null, .null, .null, .null]))]) := hD
  refine W.widen (k := 10) (n := 66) (Nat.le_of_ble_eq_true rfl) (Nat.le_of_ble_eq_true rfl) ?_
  refine lv_dup hx hb dX1_init_27 rfl ?_
  refine wk_callIN (rest := [.ref q4, .int (nI 1), .ref q1]) ⟨hx, hb, hml, hown, hts⟩ (c_X0_init l D c q4) (⟨va_cnB 0 hts gX1_init_X0_init_n17 rfl rfl rfl hE.2 k7 hdi_X0 ⟨Nat.le_of_ble_eq_true rfl, Nat.le_of_ble_eq_true rfl⟩, rfl, k8⟩) eOK_T trivial hK hP hD hS hA hl.1 (Nat.le_of_ble_eq_true rfl) dX1_init_28 ⟨Nat.le_of_ble_eq_true rfl, Nat.le_of_ble_eq_true rfl⟩ (fun a5 H locs hu hP2 hD2 hS2 => ?_)
  subst hu
  have hP := hP2
  have hD := hD2
  have hS := hS2
  clear hP2 hD2 hS2
  have hP : va_P D vwCl ([(h0, .inr (1, [.ref q1, .int 0]))] ++ [(q1, .inl (c 1, 2, .inr (.inr (.inr (.inr (va_up (fun _ => none) 0 (some (a3 0))))))))] ++ affW c a3 wz ++ affW c a5 wz) H := hP
  have hD : va_D A ([(h0, .inr (1, [.ref q1, .int 0]))] ++ [(q1, .inl (c 1, 2, .inr (.inr (.inr (.inr (va_up (fun _ => none) 0 (some (a3 0))))))))] ++ affW c a3 wz ++ affW c a5 wz) := hD
  refine W.widen (k := 17) (n := 108) (Nat.le_of_ble_eq_true rfl) (Nat.le_of_ble_eq_true rfl) ?_
  refine va_astq hx hb hK hP hD hS 1 1 10 0 rfl rfl rfl (r := (RX0, TX0, 11)) rfl (vp_in_nI (n := 1) (N := 2) (by omega) (by omega)) dX1_init_31 (fun H locs hP hD hS => ?_)
  have hP : va_P D vwCl ([(h0, .inr (1, [.ref q1, .int 0]))] ++ [(q1, .inl (c 1, 2, .inr (.inr (.inr (.inr (va_up (va_up (fun _ => none) 0 (some (a3 0))) 1 (some (a5 0))))))))] ++ affW c a3 wz ++ affW c a5 wz) H := hP
  have hD : va_D A ([(h0, .inr (1, [.ref q1, .int 0]))] ++ [(q1, .inl (c 1, 2, .inr (.inr (.inr (.inr (va_up (va_up (fun _ => none) 0 (some (a3 0))) 1 (some (a5 0))))))))] ++ affW c a3 wz ++ affW c a5 wz) := hD
  refine lv_iinc (v := nI 2) (lv' := [(1, .int (nI 2)), (0, .ref h0)]) hx hb dX1_init_32 hl (k := 0) rfl (nI_inc 1 1) (by decide) rfl (fun ls hl => ?_)
  refine lv_goto (tgt := 14) hx hb dX1_init_35 (by decide) ?_
  refine lv_iload_n hx hb dX1_init_14 rfl (lv_at hl 0 rfl) ?_
  refine lv_iconst (v := 2) hx hb dX1_init_15 (by decide) ?_
  refine wk_ge (tgt := 38) hx hb 2 2 rfl rfl (by omega) (by omega) dX1_init_16 (by decide) (fun _ => ?_) (fun q => absurd q (by omega))
  obtain ⟨hh, ehh⟩ : ∃ f : Nat → Nat, f = (fun k => if k = 0 then h0 else if k = 3 then q1 else if k < 120 then a3 (k - 100) else if k < 140 then a5 (k - 120) else 0) := ⟨_, rfl⟩
  have hq : ∀ j, j < 2 → (va_up (va_up (fun _ => none) 0 (some (a3 0))) 1 (some (a5 0))) j = some (subA hh j 0) := fun j hj => by rcases (show j = 0 ∨ j = 1 by omega) with rfl | rfl <;> (rw [ehh]; rfl)
  have hP : va_P D vwCl ([(h0, .inr (1, [.ref q1, .int 0]))] ++ [(q1, .inl (c 1, 2, .inr (.inr (.inr (.inr (fun i => some (subA hh i 0)))))))] ++ affW c a3 wz ++ affW c a5 wz) H := wk_P_ext (ws := [(h0, .inr (1, [.ref q1, .int 0]))] ++ [(q1, .inl (c 1, 2, .inr (.inr (.inr (.inr (va_up (va_up (fun _ => none) 0 (some (a3 0))) 1 (some (a5 0))))))))] ++ affW c a3 wz ++ affW c a5 wz) (q := 1) (a := q1) (e1 := .inl (c 1, 2, .inr (.inr (.inr (.inr (va_up (va_up (fun _ => none) 0 (some (a3 0))) 1 (some (a5 0)))))))) (e2 := .inl (c 1, 2, .inr (.inr (.inr (.inr (fun i => some (subA hh i 0))))))) (wk_qext hq) hP
  have hD : va_D A ([(h0, .inr (1, [.ref q1, .int 0]))] ++ [(q1, .inl (c 1, 2, .inr (.inr (.inr (.inr (fun i => some (subA hh i 0)))))))] ++ affW c a3 wz ++ affW c a5 wz) := wk_D_ext (ws := [(h0, .inr (1, [.ref q1, .int 0]))] ++ [(q1, .inl (c 1, 2, .inr (.inr (.inr (.inr (va_up (va_up (fun _ => none) 0 (some (a3 0))) 1 (some (a5 0))))))))] ++ affW c a3 wz ++ affW c a5 wz) (q := 1) (a := q1) (e1 := .inl (c 1, 2, .inr (.inr (.inr (.inr (va_up (va_up (fun _ => none) 0 (some (a3 0))) 1 (some (a5 0)))))))) (e2 := .inl (c 1, 2, .inr (.inr (.inr (.inr (fun i => some (subA hh i 0))))))) hD
  subst ehh
  exact ret 38 ls H _ (fun k => if k = 0 then h0 else if k = 3 then q1 else if k < 120 then a3 (k - 100) else if k < 140 then a5 (k - 120) else 0) rfl hP hD hS dX1_init_38

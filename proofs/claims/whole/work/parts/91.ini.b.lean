def eX4 (U : State) : Prop := va_AO RX0 U ∧ va_Nw (.methodLinkNest RX4 17 yX0_init RX7) U
theorem eX4_ok : eOK eX4 := eOK_and (eOK_O RX0) (eOK_M _ _ _ _)
abbrev rmX4_init : Room := { frames := 2, cells := 81, slots := 540, locals := 32 }
theorem hdi_X4 : yX4_init.cls ≠ "java/lang/invoke/MethodHandle" ∧ yX4_init.cls ≠ "java/lang/invoke/VarHandle" ∧ (parseMethodDescriptor yX4_init.desc).map (fun d => d.parameters.length) = some 0 := by decide +kernel
set_option maxHeartbeats 4000000 in
set_option maxRecDepth 100000 in
theorem c_X4_init (l : Launch) (D : va_G) (c : Nat → ClassId) (h0 : Nat) : wk_Ini l yX4_init wsX4_init rmX4_init D (tysL c) [.ref h0] [(h0, .inr (4, [.null, .int 0, .int 0]))] (eX4) (fun u : Nat → Nat => u 0 = h0) (fun u => histW c u wz ++ affW c (subA u 0) wz ++ affW c (subA u 1) wz ++ affW c (subA u 2) wz ++ affW c (subA u 3) wz ++ affW c (subA u 4) wz ++ affW c (subA u 5) wz ++ affW c (subA u 6) wz ++ affW c (subA u 7) wz ++ affW c (subA u 8) wz ++ affW c (subA u 9) wz) 81 540 := by
  refine wk_mkI (cc := cX4_init) (maxL := 2) (by decide) rfl rfl (Nat.le_of_ble_eq_true rfl) ?_
  intro A pr ev ss mm args below meth cd ls Q hst hin hE hP hK hD hS hA hl ret
  obtain ⟨hx, hb, hml, hown, hts, -⟩ := hst
  have hown : ss.vm.findClass RX4 = some mm.cls := hown
  have hl : lv_has ls 2 [(0, .ref h0)] := hl
  have k1 := hts (.methodLink RX4 3 objectInit) (List.mem_of_getElem? (i := 1) rfl)
  have k2 := hts (.instanceMethod objectInit) (List.mem_of_getElem? (i := 2) rfl)
  have k3 := hts (.code objectInit ⟨#[0xb1]⟩ 1 none) (List.mem_of_getElem? (i := 3) rfl)
  have k4 := hts (.classLink RX4 9 RX0) (List.mem_of_getElem? (i := 4) rfl)
  have k5 := hts (.fieldLink RX4 11 "LastWord$History" "ring" "[LLastWord$Affairs;") (List.mem_of_getElem? (i := 5) rfl)
  have k6 := hts (.instantiable RX0 11) (List.mem_of_getElem? (i := 6) rfl)
  have k7 := hts (.initialized RX0) (List.mem_of_getElem? (i := 7) rfl)
  have k8 := hts (.instanceMethod yX0_init) (List.mem_of_getElem? (i := 8) rfl)
  have iX0 : ∀ w ∈ u_ws RX0 TX0 11, w ∈ wsX4_init := fun _ h => (List.mem_cons_of_mem _ (List.mem_append_right _ h))
  have iX4 : ∀ w ∈ u_ws RX4 TX4 3, w ∈ wsX4_init := fun _ h => (List.mem_cons_of_mem _ (List.mem_append_left _ (List.mem_append_right _ h)))
  refine lv_aload_n hx hb dX4_init_0 rfl (lv_at hl 0 rfl) ?_
  refine W.objInit hx hb hown k1 k2 k3 rfl (by rw [hml]; exact hl.1) rfl dX4_init_1 (Nat.le_of_ble_eq_true rfl) (Nat.le_of_ble_eq_true rfl) ?_
  refine W.eq (g2 := F0 mm 4 ls []) rfl ?_
  refine lv_aload_n hx hb dX4_init_4 rfl (lv_at hl 0 rfl) ?_
  refine lv_bipush (v := 10) hx hb dX4_init_5 (by decide) ?_
  refine wk_newq (cl := c) hx hb hown k4 hE.1 hK hP hD hS hA 10 (by omega) rfl (Nat.le_of_ble_eq_true rfl) (Nat.le_of_ble_eq_true rfl) dX4_init_7 (fun q1 H hP hD hS => ?_)
  have hP : va_P D vwCl ([(h0, .inr (4, [.null, .int 0, .int 0]))] ++ [(q1, .inl (c 1, 10, .inr (.inr (.inr (.inr (fun _ => none))))))]) H := hP
  have hD : va_D A ([(h0, .inr (4, [.null, .int 0, .int 0]))] ++ [(q1, .inl (c 1, 10, .inr (.inr (.inr (.inr (fun _ => none))))))]) := hD
  refine W.widen (k := 1) (n := 10) (Nat.le_of_ble_eq_true rfl) (Nat.le_of_ble_eq_true rfl) ?_
  refine va_putF (D := D) (ci := 4) (v := .ref q1) (ty := .array (.object "LastWord$Affairs")) (C := RX4) (T := TX4) (N := 3) hx hb hts iX4 tyX4 tyX4_ok nmX4 hown hK hP hD hS 0 rfl rfl 0 (by decide) k5 (fun _ h9 => h9) rfl hin rfl (tyX4_ok 0 (by decide)) rfl rfl (Nat.le_of_ble_eq_true rfl) dX4_init_10 (fun H locs hP hD hS => ?_)
  have hP : va_P D vwCl ([(h0, .inr (4, [.ref q1, .int 0, .int 0]))] ++ [(q1, .inl (c 1, 10, .inr (.inr (.inr (.inr (fun _ => none))))))]) H := hP
  have hD : va_D A ([(h0, .inr (4, [.ref q1, .int 0, .int 0]))] ++ [(q1, .inl (c 1, 10, .inr (.inr (.inr (.inr (fun _ => none))))))]) := hD
  refine lv_iconst (v := 0) hx hb dX4_init_13 (by decide) ?_
  refine wk_eqi (y := nI 0) rfl ?_
  refine lv_istore_n (lv' := [(1, .int (nI 0)), (0, .ref h0)]) hx hb dX4_init_14 rfl hl (by decide) rfl (fun ls hl => ?_)
  refine lv_iload_n hx hb dX4_init_15 rfl (lv_at hl 0 rfl) ?_
  refine lv_bipush (v := 10) hx hb dX4_init_16 (by decide) ?_
  refine wk_ge (tgt := 40) hx hb 0 10 rfl rfl (by omega) (by omega) dX4_init_18 (by decide) (fun q => absurd q (by omega)) (fun _ => ?_)
  refine lv_aload_n hx hb dX4_init_21 rfl (lv_at hl 1 rfl) ?_
  refine wg_X4_0 hx hb hts iX4 hown hK hP 0 rfl k5 (v := .ref q1) rfl dX4_init_22 ?_
  refine lv_iload_n hx hb dX4_init_25 rfl (lv_at hl 0 rfl) ?_
  refine va_new (D := D) (ci := 0) (fs := [.int 0, .int 0, .int 0, .int 0, .null, .null, .null, .null, .null, .null, .null]) (C := RX0) (T := TX0) (N := 11) hx hb hts iX0 tyX0 tyX0_ok hown k4 k6 k7 hK hP hD hS hA rfl (fun j hj => by rcases (show j = 0 ∨ j = 1 ∨ j = 2 ∨ j = 3 ∨ j = 4 ∨ j = 5 ∨ j = 6 ∨ j = 7 ∨ j = 8 ∨ j = 9 ∨ j = 10 by omega) with rfl | rfl | rfl | rfl | rfl | rfl | rfl | rfl | rfl | rfl | rfl <;> rfl) (Nat.le_of_ble_eq_true rfl) (Nat.le_of_ble_eq_true rfl) dX4_init_26 (fun q2 H hP hD hS => ?_)
  have hP : va_P D vwCl ([(h0, .inr (4, [.ref q1, .int 0, .int 0]))] ++ [(q1, .inl (c 1, 10, .inr (.inr (.inr (.inr (fun _ => none))))))] ++ [(q2, .inr (0, [.int 0, .int 0, .int 0, .int 0, .null, .null, .null, .null, .null, .null, .null]))]) H := hP
  have hD : va_D A ([(h0, .inr (4, [.ref q1, .int 0, .int 0]))] ++ [(q1, .inl (c 1, 10, .inr (.inr (.inr (.inr (fun _ => none))))))] ++ [(q2, .inr (0, [.int 0, .int 0, .int 0, .int 0, .null, .null, .null, .null, .null, .null, .null]))]) := hD
  refine W.widen (k := 2) (n := 21) (Nat.le_of_ble_eq_true rfl) (Nat.le_of_ble_eq_true rfl) ?_
  refine lv_dup hx hb dX4_init_29 rfl ?_
  refine wk_callIN (rest := [.ref q2, .int (nI 0), .ref q1]) ⟨hx, hb, hml, hown, hts⟩ (c_X0_init l D c q2) (⟨va_cnB 0 hts gX4_init_X0_init_n17 rfl rfl rfl hE.2 k7 hdi_X0 ⟨Nat.le_of_ble_eq_true rfl, Nat.le_of_ble_eq_true rfl⟩, rfl, k8⟩) eOK_T trivial hK hP hD hS hA hl.1 (Nat.le_of_ble_eq_true rfl) dX4_init_30 ⟨Nat.le_of_ble_eq_true rfl, Nat.le_of_ble_eq_true rfl⟩ (fun a3 H locs hu hP2 hD2 hS2 => ?_)
  subst hu
  have hP := hP2
  have hD := hD2
  have hS := hS2
  clear hP2 hD2 hS2
  have hP : va_P D vwCl ([(h0, .inr (4, [.ref q1, .int 0, .int 0]))] ++ [(q1, .inl (c 1, 10, .inr (.inr (.inr (.inr (fun _ => none))))))] ++ affW c a3 wz) H := hP
  have hD : va_D A ([(h0, .inr (4, [.ref q1, .int 0, .int 0]))] ++ [(q1, .inl (c 1, 10, .inr (.inr (.inr (.inr (fun _ => none))))))] ++ affW c a3 wz) := hD
  refine W.widen (k := 9) (n := 63) (Nat.le_of_ble_eq_true rfl) (Nat.le_of_ble_eq_true rfl) ?_
  refine va_astq hx hb hK hP hD hS 1 1 2 0 rfl rfl rfl (r := (RX0, TX0, 11)) rfl (vp_in_nI (n := 0) (N := 10) (by omega) (by omega)) dX4_init_33 (fun H locs hP hD hS => ?_)
  have hP : va_P D vwCl ([(h0, .inr (4, [.ref q1, .int 0, .int 0]))] ++ [(q1, .inl (c 1, 10, .inr (.inr (.inr (.inr (va_up (fun _ => none) 0 (some (a3 0))))))))] ++ affW c a3 wz) H := hP
  have hD : va_D A ([(h0, .inr (4, [.ref q1, .int 0, .int 0]))] ++ [(q1, .inl (c 1, 10, .inr (.inr (.inr (.inr (va_up (fun _ => none) 0 (some (a3 0))))))))] ++ affW c a3 wz) := hD
  refine lv_iinc (v := nI 1) (lv' := [(1, .int (nI 1)), (0, .ref h0)]) hx hb dX4_init_34 hl (k := 0) rfl (nI_inc 0 1) (by decide) rfl (fun ls hl => ?_)
  refine lv_goto (tgt := 15) hx hb dX4_init_37 (by decide) ?_
  refine lv_iload_n hx hb dX4_init_15 rfl (lv_at hl 0 rfl) ?_
  refine lv_bipush (v := 10) hx hb dX4_init_16 (by decide) ?_
  refine wk_ge (tgt := 40) hx hb 1 10 rfl rfl (by omega) (by omega) dX4_init_18 (by decide) (fun q => absurd q (by omega)) (fun _ => ?_)
  refine lv_aload_n hx hb dX4_init_21 rfl (lv_at hl 1 rfl) ?_
  refine wg_X4_0 hx hb hts iX4 hown hK hP 0 rfl k5 (v := .ref q1) rfl dX4_init_22 ?_
  refine lv_iload_n hx hb dX4_init_25 rfl (lv_at hl 0 rfl) ?_
  refine va_new (D := D) (ci := 0) (fs := [.int 0, .int 0, .int 0, .int 0, .null, .null, .null, .null, .null, .null, .null]) (C := RX0) (T := TX0) (N := 11) hx hb hts iX0 tyX0 tyX0_ok hown k4 k6 k7 hK hP hD hS hA rfl (fun j hj => by rcases (show j = 0 ∨ j = 1 ∨ j = 2 ∨ j = 3 ∨ j = 4 ∨ j = 5 ∨ j = 6 ∨ j = 7 ∨ j = 8 ∨ j = 9 ∨ j = 10 by omega) with rfl | rfl | rfl | rfl | rfl | rfl | rfl | rfl | rfl | rfl | rfl <;> rfl) (Nat.le_of_ble_eq_true rfl) (Nat.le_of_ble_eq_true rfl) dX4_init_26 (fun q4 H hP hD hS => ?_)
  have hP : va_P D vwCl ([(h0, .inr (4, [.ref q1, .int 0, .int 0]))] ++ [(q1, .inl (c 1, 10, .inr (.inr (.inr (.inr (va_up (fun _ => none) 0 (some (a3 0))))))))] ++ affW c a3 wz ++ [(q4, .inr (0, [.int 0, .int 0, .int 0, .int 0, .null, .null, .null, .null, .null, .null, .null]))]) H := hP
  have hD : va_D A ([(h0, .inr (4, [.ref q1, .int 0, .int 0]))] ++ [(q1, .inl (c 1, 10, .inr (.inr (.inr (.inr (va_up (fun _ => none) 0 (some (a3 0))))))))] ++ affW c a3 wz ++ [(q4, .inr (0, [.int 0, .int 0, .int 0, .int 0, .null, .null, .null, .null, .null, .null, .null]))]) := hD
  refine W.widen (k := 10) (n := 74) (Nat.le_of_ble_eq_true rfl) (Nat.le_of_ble_eq_true rfl) ?_
  refine lv_dup hx hb dX4_init_29 rfl ?_
  refine wk_callIN (rest := [.ref q4, .int (nI 1), .ref q1]) ⟨hx, hb, hml, hown, hts⟩ (c_X0_init l D c q4) (⟨va_cnB 0 hts gX4_init_X0_init_n17 rfl rfl rfl hE.2 k7 hdi_X0 ⟨Nat.le_of_ble_eq_true rfl, Nat.le_of_ble_eq_true rfl⟩, rfl, k8⟩) eOK_T trivial hK hP hD hS hA hl.1 (Nat.le_of_ble_eq_true rfl) dX4_init_30 ⟨Nat.le_of_ble_eq_true rfl, Nat.le_of_ble_eq_true rfl⟩ (fun a5 H locs hu hP2 hD2 hS2 => ?_)
  subst hu
  have hP := hP2
  have hD := hD2
  have hS := hS2
  clear hP2 hD2 hS2
  have hP : va_P D vwCl ([(h0, .inr (4, [.ref q1, .int 0, .int 0]))] ++ [(q1, .inl (c 1, 10, .inr (.inr (.inr (.inr (va_up (fun _ => none) 0 (some (a3 0))))))))] ++ affW c a3 wz ++ affW c a5 wz) H := hP
  have hD : va_D A ([(h0, .inr (4, [.ref q1, .int 0, .int 0]))] ++ [(q1, .inl (c 1, 10, .inr (.inr (.inr (.inr (va_up (fun _ => none) 0 (some (a3 0))))))))] ++ affW c a3 wz ++ affW c a5 wz) := hD
  refine W.widen (k := 17) (n := 116) (Nat.le_of_ble_eq_true rfl) (Nat.le_of_ble_eq_true rfl) ?_
  refine va_astq hx hb hK hP hD hS 1 1 10 0 rfl rfl rfl (r := (RX0, TX0, 11)) rfl (vp_in_nI (n := 1) (N := 10) (by omega) (by omega)) dX4_init_33 (fun H locs hP hD hS => ?_)
  have hP : va_P D vwCl ([(h0, .inr (4, [.ref q1, .int 0, .int 0]))] ++ [(q1, .inl (c 1, 10, .inr (.inr (.inr (.inr (va_up (va_up (fun _ => none) 0 (some (a3 0))) 1 (some (a5 0))))))))] ++ affW c a3 wz ++ affW c a5 wz) H := hP
  have hD : va_D A ([(h0, .inr (4, [.ref q1, .int 0, .int 0]))] ++ [(q1, .inl (c 1, 10, .inr (.inr (.inr (.inr (va_up (va_up (fun _ => none) 0 (some (a3 0))) 1 (some (a5 0))))))))] ++ affW c a3 wz ++ affW c a5 wz) := hD
  refine lv_iinc (v := nI 2) (lv' := [(1, .int (nI 2)), (0, .ref h0)]) hx hb dX4_init_34 hl (k := 0) rfl (nI_inc 1 1) (by decide) rfl (fun ls hl => ?_)
  refine lv_goto (tgt := 15) hx hb dX4_init_37 (by decide) ?_
  refine lv_iload_n hx hb dX4_init_15 rfl (lv_at hl 0 rfl) ?_
  refine lv_bipush (v := 10) hx hb dX4_init_16 (by decide) ?_
  refine wk_ge (tgt := 40) hx hb 2 10 rfl rfl (by omega) (by omega) dX4_init_18 (by decide) (fun q => absurd q (by omega)) (fun _ => ?_)
  refine lv_aload_n hx hb dX4_init_21 rfl (lv_at hl 1 rfl) ?_
  refine wg_X4_0 hx hb hts iX4 hown hK hP 0 rfl k5 (v := .ref q1) rfl dX4_init_22 ?_
  refine lv_iload_n hx hb dX4_init_25 rfl (lv_at hl 0 rfl) ?_
  refine va_new (D := D) (ci := 0) (fs := [.int 0, .int 0, .int 0, .int 0, .null, .null, .null, .null, .null, .null, .null]) (C := RX0) (T := TX0) (N := 11) hx hb hts iX0 tyX0 tyX0_ok hown k4 k6 k7 hK hP hD hS hA rfl (fun j hj => by rcases (show j = 0 ∨ j = 1 ∨ j = 2 ∨ j = 3 ∨ j = 4 ∨ j = 5 ∨ j = 6 ∨ j = 7 ∨ j = 8 ∨ j = 9 ∨ j = 10 by omega) with rfl | rfl | rfl | rfl | rfl | rfl | rfl | rfl | rfl | rfl | rfl <;> rfl) (Nat.le_of_ble_eq_true rfl) (Nat.le_of_ble_eq_true rfl) dX4_init_26 (fun q6 H hP hD hS => ?_)
  have hP : va_P D vwCl ([(h0, .inr (4, [.ref q1, .int 0, .int 0]))] ++ [(q1, .inl (c 1, 10, .inr (.inr (.inr (.inr (va_up (va_up (fun _ => none) 0 (some (a3 0))) 1 (some (a5 0))))))))] ++ affW c a3 wz ++ affW c a5 wz ++ [(q6, .inr (0, [.int 0, .int 0, .int 0, .int 0, .null, .null, .null, .null, .null, .null, .null]))]) H := hP
  have hD : va_D A ([(h0, .inr (4, [.ref q1, .int 0, .int 0]))] ++ [(q1, .inl (c 1, 10, .inr (.inr (.inr (.inr (va_up (va_up (fun _ => none) 0 (some (a3 0))) 1 (some (a5 0))))))))] ++ affW c a3 wz ++ affW c a5 wz ++ [(q6, .inr (0, [.int 0, .int 0, .int 0, .int 0, .null, .null, .null, .null, .null, .null, .null]))]) := hD
  refine W.widen (k := 18) (n := 127) (Nat.le_of_ble_eq_true rfl) (Nat.le_of_ble_eq_true rfl) ?_
  refine lv_dup hx hb dX4_init_29 rfl ?_
  refine wk_callIN (rest := [.ref q6, .int (nI 2), .ref q1]) ⟨hx, hb, hml, hown, hts⟩ (c_X0_init l D c q6) (⟨va_cnB 0 hts gX4_init_X0_init_n17 rfl rfl rfl hE.2 k7 hdi_X0 ⟨Nat.le_of_ble_eq_true rfl, Nat.le_of_ble_eq_true rfl⟩, rfl, k8⟩) eOK_T trivial hK hP hD hS hA hl.1 (Nat.le_of_ble_eq_true rfl) dX4_init_30 ⟨Nat.le_of_ble_eq_true rfl, Nat.le_of_ble_eq_true rfl⟩ (fun a7 H locs hu hP2 hD2 hS2 => ?_)
  subst hu
  have hP := hP2
  have hD := hD2
  have hS := hS2
  clear hP2 hD2 hS2
  have hP : va_P D vwCl ([(h0, .inr (4, [.ref q1, .int 0, .int 0]))] ++ [(q1, .inl (c 1, 10, .inr (.inr (.inr (.inr (va_up (va_up (fun _ => none) 0 (some (a3 0))) 1 (some (a5 0))))))))] ++ affW c a3 wz ++ affW c a5 wz ++ affW c a7 wz) H := hP
  have hD : va_D A ([(h0, .inr (4, [.ref q1, .int 0, .int 0]))] ++ [(q1, .inl (c 1, 10, .inr (.inr (.inr (.inr (va_up (va_up (fun _ => none) 0 (some (a3 0))) 1 (some (a5 0))))))))] ++ affW c a3 wz ++ affW c a5 wz ++ affW c a7 wz) := hD
  refine W.widen (k := 25) (n := 169) (Nat.le_of_ble_eq_true rfl) (Nat.le_of_ble_eq_true rfl) ?_
  refine va_astq hx hb hK hP hD hS 1 1 18 0 rfl rfl rfl (r := (RX0, TX0, 11)) rfl (vp_in_nI (n := 2) (N := 10) (by omega) (by omega)) dX4_init_33 (fun H locs hP hD hS => ?_)
  have hP : va_P D vwCl ([(h0, .inr (4, [.ref q1, .int 0, .int 0]))] ++ [(q1, .inl (c 1, 10, .inr (.inr (.inr (.inr (va_up (va_up (va_up (fun _ => none) 0 (some (a3 0))) 1 (some (a5 0))) 2 (some (a7 0))))))))] ++ affW c a3 wz ++ affW c a5 wz ++ affW c a7 wz) H := hP
  have hD : va_D A ([(h0, .inr (4, [.ref q1, .int 0, .int 0]))] ++ [(q1, .inl (c 1, 10, .inr (.inr (.inr (.inr (va_up (va_up (va_up (fun _ => none) 0 (some (a3 0))) 1 (some (a5 0))) 2 (some (a7 0))))))))] ++ affW c a3 wz ++ affW c a5 wz ++ affW c a7 wz) := hD
  refine lv_iinc (v := nI 3) (lv' := [(1, .int (nI 3)), (0, .ref h0)]) hx hb dX4_init_34 hl (k := 0) rfl (nI_inc 2 1) (by decide) rfl (fun ls hl => ?_)
  refine lv_goto (tgt := 15) hx hb dX4_init_37 (by decide) ?_
  refine lv_iload_n hx hb dX4_init_15 rfl (lv_at hl 0 rfl) ?_
  refine lv_bipush (v := 10) hx hb dX4_init_16 (by decide) ?_
  refine wk_ge (tgt := 40) hx hb 3 10 rfl rfl (by omega) (by omega) dX4_init_18 (by decide) (fun q => absurd q (by omega)) (fun _ => ?_)
  refine lv_aload_n hx hb dX4_init_21 rfl (lv_at hl 1 rfl) ?_
  refine wg_X4_0 hx hb hts iX4 hown hK hP 0 rfl k5 (v := .ref q1) rfl dX4_init_22 ?_
  refine lv_iload_n hx hb dX4_init_25 rfl (lv_at hl 0 rfl) ?_
  refine va_new (D := D) (ci := 0) (fs := [.int 0, .int 0, .int 0, .int 0, .null, .null, .null, .null, .null, .null, .null]) (C := RX0) (T := TX0) (N := 11) hx hb hts iX0 tyX0 tyX0_ok hown k4 k6 k7 hK hP hD hS hA rfl (fun j hj => by rcases (show j = 0 ∨ j = 1 ∨ j = 2 ∨ j = 3 ∨ j = 4 ∨ j = 5 ∨ j = 6 ∨ j = 7 ∨ j = 8 ∨ j = 9 ∨ j = 10 by omega) with rfl | rfl | rfl | rfl | rfl | rfl | rfl | rfl | rfl | rfl | rfl <;> rfl) (Nat.le_of_ble_eq_true rfl) (Nat.le_of_ble_eq_true rfl) dX4_init_26 (fun q8 H hP hD hS => ?_)
  have hP : va_P D vwCl ([(h0, .inr (4, [.ref q1, .int 0, .int 0]))] ++ [(q1, .inl (c 1, 10, .inr (.inr (.inr (.inr (va_up (va_up (va_up (fun _ => none) 0 (some (a3 0))) 1 (some (a5 0))) 2 (some (a7 0))))))))] ++ affW c a3 wz ++ affW c a5 wz ++ affW c a7 wz ++ [(q8, .inr (0, [.int 0, .int 0, .int 0, .int 0, .null, .null, .null, .null, .null, .null, .null]))]) H := hP
  have hD : va_D A ([(h0, .inr (4, [.ref q1, .int 0, .int 0]))] ++ [(q1, .inl (c 1, 10, .inr (.inr (.inr (.inr (va_up (va_up (va_up (fun _ => none) 0 (some (a3 0))) 1 (some (a5 0))) 2 (some (a7 0))))))))] ++ affW c a3 wz ++ affW c a5 wz ++ affW c a7 wz ++ [(q8, .inr (0, [.int 0, .int 0, .int 0, .int 0, .null, .null, .null, .null, .null, .null, .null]))]) := hD
  refine W.widen (k := 26) (n := 180) (Nat.le_of_ble_eq_true rfl) (Nat.le_of_ble_eq_true rfl) ?_
  refine lv_dup hx hb dX4_init_29 rfl ?_
  refine wk_callIN (rest := [.ref q8, .int (nI 3), .ref q1]) ⟨hx, hb, hml, hown, hts⟩ (c_X0_init l D c q8) (⟨va_cnB 0 hts gX4_init_X0_init_n17 rfl rfl rfl hE.2 k7 hdi_X0 ⟨Nat.le_of_ble_eq_true rfl, Nat.le_of_ble_eq_true rfl⟩, rfl, k8⟩) eOK_T trivial hK hP hD hS hA hl.1 (Nat.le_of_ble_eq_true rfl) dX4_init_30 ⟨Nat.le_of_ble_eq_true rfl, Nat.le_of_ble_eq_true rfl⟩ (fun a9 H locs hu hP2 hD2 hS2 => ?_)
  subst hu
  have hP := hP2
  have hD := hD2
  have hS := hS2
  clear hP2 hD2 hS2
  have hP : va_P D vwCl ([(h0, .inr (4, [.ref q1, .int 0, .int 0]))] ++ [(q1, .inl (c 1, 10, .inr (.inr (.inr (.inr (va_up (va_up (va_up (fun _ => none) 0 (some (a3 0))) 1 (some (a5 0))) 2 (some (a7 0))))))))] ++ affW c a3 wz ++ affW c a5 wz ++ affW c a7 wz ++ affW c a9 wz) H := hP
  have hD : va_D A ([(h0, .inr (4, [.ref q1, .int 0, .int 0]))] ++ [(q1, .inl (c 1, 10, .inr (.inr (.inr (.inr (va_up (va_up (va_up (fun _ => none) 0 (some (a3 0))) 1 (some (a5 0))) 2 (some (a7 0))))))))] ++ affW c a3 wz ++ affW c a5 wz ++ affW c a7 wz ++ affW c a9 wz) := hD
  refine W.widen (k := 33) (n := 222) (Nat.le_of_ble_eq_true rfl) (Nat.le_of_ble_eq_true rfl) ?_
  refine va_astq hx hb hK hP hD hS 1 1 26 0 rfl rfl rfl (r := (RX0, TX0, 11)) rfl (vp_in_nI (n := 3) (N := 10) (by omega) (by omega)) dX4_init_33 (fun H locs hP hD hS => ?_)
  have hP : va_P D vwCl ([(h0, .inr (4, [.ref q1, .int 0, .int 0]))] ++ [(q1, .inl (c 1, 10, .inr (.inr (.inr (.inr (va_up (va_up (va_up (va_up (fun _ => none) 0 (some (a3 0))) 1 (some (a5 0))) 2 (some (a7 0))) 3 (some (a9 0))))))))] ++ affW c a3 wz ++ affW c a5 wz ++ affW c a7 wz ++ affW c a9 wz) H := hP
  have hD : va_D A ([(h0, .inr (4, [.ref q1, .int 0, .int 0]))] ++ [(q1, .inl (c 1, 10, .inr (.inr (.inr (.inr (va_up (va_up (va_up (va_up (fun _ => none) 0 (some (a3 0))) 1 (some (a5 0))) 2 (some (a7 0))) 3 (some (a9 0))))))))] ++ affW c a3 wz ++ affW c a5 wz ++ affW c a7 wz ++ affW c a9 wz) := hD
  refine lv_iinc (v := nI 4) (lv' := [(1, .int (nI 4)), (0, .ref h0)]) hx hb dX4_init_34 hl (k := 0) rfl (nI_inc 3 1) (by decide) rfl (fun ls hl => ?_)
  refine lv_goto (tgt := 15) hx hb dX4_init_37 (by decide) ?_
  refine lv_iload_n hx hb dX4_init_15 rfl (lv_at hl 0 rfl) ?_
  refine lv_bipush (v := 10) hx hb dX4_init_16 (by decide) ?_
  refine wk_ge (tgt := 40) hx hb 4 10 rfl rfl (by omega) (by omega) dX4_init_18 (by decide) (fun q => absurd q (by omega)) (fun _ => ?_)
  refine lv_aload_n hx hb dX4_init_21 rfl (lv_at hl 1 rfl) ?_
  refine wg_X4_0 hx hb hts iX4 hown hK hP 0 rfl k5 (v := .ref q1) rfl dX4_init_22 ?_
  refine lv_iload_n hx hb dX4_init_25 rfl (lv_at hl 0 rfl) ?_
  refine va_new (D := D) (ci := 0) (fs := [.int 0, .int 0, .int 0, .int 0, .null, .null, .null, .null, .null, .null, .null]) (C := RX0) (T := TX0) (N := 11) hx hb hts iX0 tyX0 tyX0_ok hown k4 k6 k7 hK hP hD hS hA rfl (fun j hj => by rcases (show j = 0 ∨ j = 1 ∨ j = 2 ∨ j = 3 ∨ j = 4 ∨ j = 5 ∨ j = 6 ∨ j = 7 ∨ j = 8 ∨ j = 9 ∨ j = 10 by omega) with rfl | rfl | rfl | rfl | rfl | rfl | rfl | rfl | rfl | rfl | rfl <;> rfl) (Nat.le_of_ble_eq_true rfl) (Nat.le_of_ble_eq_true rfl) dX4_init_26 (fun q10 H hP hD hS => ?_)
  have hP : va_P D vwCl ([(h0, .inr (4, [.ref q1, .int 0, .int 0]))] ++ [(q1, .inl (c 1, 10, .inr (.inr (.inr (.inr (va_up (va_up (va_up (va_up (fun _ => none) 0 (some (a3 0))) 1 (some (a5 0))) 2 (some (a7 0))) 3 (some (a9 0))))))))] ++ affW c a3 wz ++ affW c a5 wz ++ affW c a7 wz ++ affW c a9 wz ++ [(q10, .inr (0, [.int 0, .int 0, .int 0, .int 0, .null, .null, .null, .null, .null, .null, .null]))]) H := hP
  have hD : va_D A ([(h0, .inr (4, [.ref q1, .int 0, .int 0]))] ++ [(q1, .inl (c 1, 10, .inr (.inr (.inr (.inr (va_up (va_up (va_up (va_up (fun _ => none) 0 (some (a3 0))) 1 (some (a5 0))) 2 (some (a7 0))) 3 (some (a9 0))))))))] ++ affW c a3 wz ++ affW c a5 wz ++ affW c a7 wz ++ affW c a9 wz ++ [(q10, .inr (0, [.int 0, .int 0, .int 0, .int 0, .null, .null, .null, .null, .null, .null, .null]))]) := hD
  refine W.widen (k := 34) (n := 233) (Nat.le_of_ble_eq_true rfl) (Nat.le_of_ble_eq_true rfl) ?_
  refine lv_dup hx hb dX4_init_29 rfl ?_
  refine wk_callIN (rest := [.ref q10, .int (nI 4), .ref q1]) ⟨hx, hb, hml, hown, hts⟩ (c_X0_init l D c q10) (⟨va_cnB 0 hts gX4_init_X0_init_n17 rfl rfl rfl hE.2 k7 hdi_X0 ⟨Nat.le_of_ble_eq_true rfl, Nat.le_of_ble_eq_true rfl⟩, rfl, k8⟩) eOK_T trivial hK hP hD hS hA hl.1 (Nat.le_of_ble_eq_true rfl) dX4_init_30 ⟨Nat.le_of_ble_eq_true rfl, Nat.le_of_ble_eq_true rfl⟩ (fun a11 H locs hu hP2 hD2 hS2 => ?_)
  subst hu
  have hP := hP2
  have hD := hD2
  have hS := hS2
  clear hP2 hD2 hS2
  have hP : va_P D vwCl ([(h0, .inr (4, [.ref q1, .int 0, .int 0]))] ++ [(q1, .inl (c 1, 10, .inr (.inr (.inr (.inr (va_up (va_up (va_up (va_up (fun _ => none) 0 (some (a3 0))) 1 (some (a5 0))) 2 (some (a7 0))) 3 (some (a9 0))))))))] ++ affW c a3 wz ++ affW c a5 wz ++ affW c a7 wz ++ affW c a9 wz ++ affW c a11 wz) H := hP
  have hD : va_D A ([(h0, .inr (4, [.ref q1, .int 0, .int 0]))] ++ [(q1, .inl (c 1, 10, .inr (.inr (.inr (.inr (va_up (va_up (va_up (va_up (fun _ => none) 0 (some (a3 0))) 1 (some (a5 0))) 2 (some (a7 0))) 3 (some (a9 0))))))))] ++ affW c a3 wz ++ affW c a5 wz ++ affW c a7 wz ++ affW c a9 wz ++ affW c a11 wz) := hD
  refine W.widen (k := 41) (n := 275) (Nat.le_of_ble_eq_true rfl) (Nat.le_of_ble_eq_true rfl) ?_
  refine va_astq hx hb hK hP hD hS 1 1 34 0 rfl rfl rfl (r := (RX0, TX0, 11)) rfl (vp_in_nI (n := 4) (N := 10) (by omega) (by omega)) dX4_init_33 (fun H locs hP hD hS => ?_)
  have hP : va_P D vwCl ([(h0, .inr (4, [.ref q1, .int 0, .int 0]))] ++ [(q1, .inl (c 1, 10, .inr (.inr (.inr (.inr (va_up (va_up (va_up (va_up (va_up (fun _ => none) 0 (some (a3 0))) 1 (some (a5 0))) 2 (some (a7 0))) 3 (some (a9 0))) 4 (some (a11 0))))))))] ++ affW c a3 wz ++ affW c a5 wz ++ affW c a7 wz ++ affW c a9 wz ++ affW c a11 wz) H := hP
  have hD : va_D A ([(h0, .inr (4, [.ref q1, .int 0, .int 0]))] ++ [(q1, .inl (c 1, 10, .inr (.inr (.inr (.inr (va_up (va_up (va_up (va_up (va_up (fun _ => none) 0 (some (a3 0))) 1 (some (a5 0))) 2 (some (a7 0))) 3 (some (a9 0))) 4 (some (a11 0))))))))] ++ affW c a3 wz ++ affW c a5 wz ++ affW c a7 wz ++ affW c a9 wz ++ affW c a11 wz) := hD
  refine lv_iinc (v := nI 5) (lv' := [(1, .int (nI 5)), (0, .ref h0)]) hx hb dX4_init_34 hl (k := 0) rfl (nI_inc 4 1) (by decide) rfl (fun ls hl => ?_)
  refine lv_goto (tgt := 15) hx hb dX4_init_37 (by decide) ?_
  refine lv_iload_n hx hb dX4_init_15 rfl (lv_at hl 0 rfl) ?_
  refine lv_bipush (v := 10) hx hb dX4_init_16 (by decide) ?_
  refine wk_ge (tgt := 40) hx hb 5 10 rfl rfl (by omega) (by omega) dX4_init_18 (by decide) (fun q => absurd q (by omega)) (fun _ => ?_)
  refine lv_aload_n hx hb dX4_init_21 rfl (lv_at hl 1 rfl) ?_
  refine wg_X4_0 hx hb hts iX4 hown hK hP 0 rfl k5 (v := .ref q1) rfl dX4_init_22 ?_
  refine lv_iload_n hx hb dX4_init_25 rfl (lv_at hl 0 rfl) ?_
  refine va_new (D := D) (ci := 0) (fs := [.int 0, .int 0, .int 0, .int 0, .null, .null, .null, .null, .null, .null, .null]) (C := RX0) (T := TX0) (N := 11) hx hb hts iX0 tyX0 tyX0_ok hown k4 k6 k7 hK hP hD hS hA rfl (fun j hj => by rcases (show j = 0 ∨ j = 1 ∨ j = 2 ∨ j = 3 ∨ j = 4 ∨ j = 5 ∨ j = 6 ∨ j = 7 ∨ j = 8 ∨ j = 9 ∨ j = 10 by omega) with rfl | rfl | rfl | rfl | rfl | rfl | rfl | rfl | rfl | rfl | rfl <;> rfl) (Nat.le_of_ble_eq_true rfl) (Nat.le_of_ble_eq_true rfl) dX4_init_26 (fun q12 H hP hD hS => ?_)
  have hP : va_P D vwCl ([(h0, .inr (4, [.ref q1, .int 0, .int 0]))] ++ [(q1, .inl (c 1, 10, .inr (.inr (.inr (.inr (va_up (va_up (va_up (va_up (va_up (fun _ => none) 0 (some (a3 0))) 1 (some (a5 0))) 2 (some (a7 0))) 3 (some (a9 0))) 4 (some (a11 0))))))))] ++ affW c a3 wz ++ affW c a5 wz ++ affW c a7 wz ++ affW c a9 wz ++ affW c a11 wz ++ [(q12, .inr (0, [.int 0, .int 0, .int 0, .int 0, .null, .null, .null, .null, .null, .null, .null]))]) H := hP
  have hD : va_D A ([(h0, .inr (4, [.ref q1, .int 0, .int 0]))] ++ [(q1, .inl (c 1, 10, .inr (.inr (.inr (.inr (va_up (va_up (va_up (va_up (va_up (fun _ => none) 0 (some (a3 0))) 1 (some (a5 0))) 2 (some (a7 0))) 3 (some (a9 0))) 4 (some (a11 0))))))))] ++ affW c a3 wz ++ affW c a5 wz ++ affW c a7 wz ++ affW c a9 wz ++ affW c a11 wz ++ [(q12, .inr (0, [.int 0, .int 0, .int 0, .int 0, .null, .null, .null, .null, .null, .null, .null]))]) := hD
  refine W.widen (k := 42) (n := 286) (Nat.le_of_ble_eq_true rfl) (Nat.le_of_ble_eq_true rfl) ?_
  refine lv_dup hx hb dX4_init_29 rfl ?_
  refine wk_callIN (rest := [.ref q12, .int (nI 5), .ref q1]) ⟨hx, hb, hml, hown, hts⟩ (c_X0_init l D c q12) (⟨va_cnB 0 hts gX4_init_X0_init_n17 rfl rfl rfl hE.2 k7 hdi_X0 ⟨Nat.le_of_ble_eq_true rfl, Nat.le_of_ble_eq_true rfl⟩, rfl, k8⟩) eOK_T trivial hK hP hD hS hA hl.1 (Nat.le_of_ble_eq_true rfl) dX4_init_30 ⟨Nat.le_of_ble_eq_true rfl, Nat.le_of_ble_eq_true rfl⟩ (fun a13 H locs hu hP2 hD2 hS2 => ?_)
  subst hu
  have hP := hP2
  have hD := hD2
  have hS := hS2
  clear hP2 hD2 hS2
  have hP : va_P D vwCl ([(h0, .inr (4, [.ref q1, .int 0, .int 0]))] ++ [(q1, .inl (c 1, 10, .inr (.inr (.inr (.inr (va_up (va_up (va_up (va_up (va_up (fun _ => none) 0 (some (a3 0))) 1 (some (a5 0))) 2 (some (a7 0))) 3 (some (a9 0))) 4 (some (a11 0))))))))] ++ affW c a3 wz ++ affW c a5 wz ++ affW c a7 wz ++ affW c a9 wz ++ affW c a11 wz ++ affW c a13 wz) H := hP
  have hD : va_D A ([(h0, .inr (4, [.ref q1, .int 0, .int 0]))] ++ [(q1, .inl (c 1, 10, .inr (.inr (.inr (.inr (va_up (va_up (va_up (va_up (va_up (fun _ => none) 0 (some (a3 0))) 1 (some (a5 0))) 2 (some (a7 0))) 3 (some (a9 0))) 4 (some (a11 0))))))))] ++ affW c a3 wz ++ affW c a5 wz ++ affW c a7 wz ++ affW c a9 wz ++ affW c a11 wz ++ affW c a13 wz) := hD
  refine W.widen (k := 49) (n := 328) (Nat.le_of_ble_eq_true rfl) (Nat.le_of_ble_eq_true rfl) ?_
  refine va_astq hx hb hK hP hD hS 1 1 42 0 rfl rfl rfl (r := (RX0, TX0, 11)) rfl (vp_in_nI (n := 5) (N := 10) (by omega) (by omega)) dX4_init_33 (fun H locs hP hD hS => ?_)
  have hP : va_P D vwCl ([(h0, .inr (4, [.ref q1, .int 0, .int 0]))] ++ [(q1, .inl (c 1, 10, .inr (.inr (.inr (.inr (va_up (va_up (va_up (va_up (va_up (va_up (fun _ => none) 0 (some (a3 0))) 1 (some (a5 0))) 2 (some (a7 0))) 3 (some (a9 0))) 4 (some (a11 0))) 5 (some (a13 0))))))))] ++ affW c a3 wz ++ affW c a5 wz ++ affW c a7 wz ++ affW c a9 wz ++ affW c a11 wz ++ affW c a13 wz) H := hP
  have hD : va_D A ([(h0, .inr (4, [.ref q1, .int 0, .int 0]))] ++ [(q1, .inl (c 1, 10, .inr (.inr (.inr (.inr (va_up (va_up (va_up (va_up (va_up (va_up (fun _ => none) 0 (some (a3 0))) 1 (some (a5 0))) 2 (some (a7 0))) 3 (some (a9 0))) 4 (some (a11 0))) 5 (some (a13 0))))))))] ++ affW c a3 wz ++ affW c a5 wz ++ affW c a7 wz ++ affW c a9 wz ++ affW c a11 wz ++ affW c a13 wz) := hD
  refine lv_iinc (v := nI 6) (lv' := [(1, .int (nI 6)), (0, .ref h0)]) hx hb dX4_init_34 hl (k := 0) rfl (nI_inc 5 1) (by decide) rfl (fun ls hl => ?_)
  refine lv_goto (tgt := 15) hx hb dX4_init_37 (by decide) ?_
  refine lv_iload_n hx hb dX4_init_15 rfl (lv_at hl 0 rfl) ?_
  refine lv_bipush (v := 10) hx hb dX4_init_16 (by decide) ?_
  refine wk_ge (tgt := 40) hx hb 6 10 rfl rfl (by omega) (by omega) dX4_init_18 (by decide) (fun q => absurd q (by omega)) (fun _ => ?_)
  refine lv_aload_n hx hb dX4_init_21 rfl (lv_at hl 1 rfl) ?_
  refine wg_X4_0 hx hb hts iX4 hown hK hP 0 rfl k5 (v := .ref q1) rfl dX4_init_22 ?_
  refine lv_iload_n hx hb dX4_init_25 rfl (lv_at hl 0 rfl) ?_
  refine va_new (D := D) (ci := 0) (fs := [.int 0, .int 0, .int 0, .int 0, .null, .null, .null, .null, .null, .null, .null]) (C := RX0) (T := TX0) (N := 11) hx hb hts iX0 tyX0 tyX0_ok hown k4 k6 k7 hK hP hD hS hA rfl (fun j hj => by rcases (show j = 0 ∨ j = 1 ∨ j = 2 ∨ j = 3 ∨ j = 4 ∨ j = 5 ∨ j = 6 ∨ j = 7 ∨ j = 8 ∨ j = 9 ∨ j = 10 by omega) with rfl | rfl | rfl | rfl | rfl | rfl | rfl | rfl | rfl | rfl | rfl <;> rfl) (Nat.le_of_ble_eq_true rfl) (Nat.le_of_ble_eq_true rfl) dX4_init_26 (fun q14 H hP hD hS => ?_)
  have hP : va_P D vwCl ([(h0, .inr (4, [.ref q1, .int 0, .int 0]))] ++ [(q1, .inl (c 1, 10, .inr (.inr (.inr (.inr (va_up (va_up (va_up (va_up (va_up (va_up (fun _ => none) 0 (some (a3 0))) 1 (some (a5 0))) 2 (some (a7 0))) 3 (some (a9 0))) 4 (some (a11 0))) 5 (some (a13 0))))))))] ++ affW c a3 wz ++ affW c a5 wz ++ affW c a7 wz ++ affW c a9 wz ++ affW c a11 wz ++ affW c a13 wz ++ [(q14, .inr (0, [.int 0, .int 0, .int 0, .int 0, .null, .null, .null, .null, .null, .null, .null]))]) H := hP
  have hD : va_D A ([(h0, .inr (4, [.ref q1, .int 0, .int 0]))] ++ [(q1, .inl (c 1, 10, .inr (.inr (.inr (.inr (va_up (va_up (va_up (va_up (va_up (va_up (fun _ => none) 0 (some (a3 0))) 1 (some (a5 0))) 2 (some (a7 0))) 3 (some (a9 0))) 4 (some (a11 0))) 5 (some (a13 0))))))))] ++ affW c a3 wz ++ affW c a5 wz ++ affW c a7 wz ++ affW c a9 wz ++ affW c a11 wz ++ affW c a13 wz ++ [(q14, .inr (0, [.int 0, .int 0, .int 0, .int 0, .null, .null, .null, .null, .null, .null, .null]))]) := hD
  refine W.widen (k := 50) (n := 339) (Nat.le_of_ble_eq_true rfl) (Nat.le_of_ble_eq_true rfl) ?_
  refine lv_dup hx hb dX4_init_29 rfl ?_
  refine wk_callIN (rest := [.ref q14, .int (nI 6), .ref q1]) ⟨hx, hb, hml, hown, hts⟩ (c_X0_init l D c q14) (⟨va_cnB 0 hts gX4_init_X0_init_n17 rfl rfl rfl hE.2 k7 hdi_X0 ⟨Nat.le_of_ble_eq_true rfl, Nat.le_of_ble_eq_true rfl⟩, rfl, k8⟩) eOK_T trivial hK hP hD hS hA hl.1 (Nat.le_of_ble_eq_true rfl) dX4_init_30 ⟨Nat.le_of_ble_eq_true rfl, Nat.le_of_ble_eq_true rfl⟩ (fun a15 H locs hu hP2 hD2 hS2 => ?_)
  subst hu
  have hP := hP2
  have hD := hD2
  have hS := hS2
  clear hP2 hD2 hS2
  have hP : va_P D vwCl ([(h0, .inr (4, [.ref q1, .int 0, .int 0]))] ++ [(q1, .inl (c 1, 10, .inr (.inr (.inr (.inr (va_up (va_up (va_up (va_up (va_up (va_up (fun _ => none) 0 (some (a3 0))) 1 (some (a5 0))) 2 (some (a7 0))) 3 (some (a9 0))) 4 (some (a11 0))) 5 (some (a13 0))))))))] ++ affW c a3 wz ++ affW c a5 wz ++ affW c a7 wz ++ affW c a9 wz ++ affW c a11 wz ++ affW c a13 wz ++ affW c a15 wz) H := hP
  have hD : va_D A ([(h0, .inr (4, [.ref q1, .int 0, .int 0]))] ++ [(q1, .inl (c 1, 10, .inr (.inr (.inr (.inr (va_up (va_up (va_up (va_up (va_up (va_up (fun _ => none) 0 (some (a3 0))) 1 (some (a5 0))) 2 (some (a7 0))) 3 (some (a9 0))) 4 (some (a11 0))) 5 (some (a13 0))))))))] ++ affW c a3 wz ++ affW c a5 wz ++ affW c a7 wz ++ affW c a9 wz ++ affW c a11 wz ++ affW c a13 wz ++ affW c a15 wz) := hD
  refine W.widen (k := 57) (n := 381) (Nat.le_of_ble_eq_true rfl) (Nat.le_of_ble_eq_true rfl) ?_
  refine va_astq hx hb hK hP hD hS 1 1 50 0 rfl rfl rfl (r := (RX0, TX0, 11)) rfl (vp_in_nI (n := 6) (N := 10) (by omega) (by omega)) dX4_init_33 (fun H locs hP hD hS => ?_)
  have hP : va_P D vwCl ([(h0, .inr (4, [.ref q1, .int 0, .int 0]))] ++ [(q1, .inl (c 1, 10, .inr (.inr (.inr (.inr (va_up (va_up (va_up (va_up (va_up (va_up (va_up (fun _ => none) 0 (some (a3 0))) 1 (some (a5 0))) 2 (some (a7 0))) 3 (some (a9 0))) 4 (some (a11 0))) 5 (some (a13 0))) 6 (some (a15 0))))))))] ++ affW c a3 wz ++ affW c a5 wz ++ affW c a7 wz ++ affW c a9 wz ++ affW c a11 wz ++ affW c a13 wz ++ affW c a15 wz) H := hP
  have hD : va_D A ([(h0, .inr (4, [.ref q1, .int 0, .int 0]))] ++ [(q1, .inl (c 1, 10, .inr (.inr (.inr (.inr (va_up (va_up (va_up (va_up (va_up (va_up (va_up (fun _ => none) 0 (some (a3 0))) 1 (some (a5 0))) 2 (some (a7 0))) 3 (some (a9 0))) 4 (some (a11 0))) 5 (some (a13 0))) 6 (some (a15 0))))))))] ++ affW c a3 wz ++ affW c a5 wz ++ affW c a7 wz ++ affW c a9 wz ++ affW c a11 wz ++ affW c a13 wz ++ affW c a15 wz) := hD
  refine lv_iinc (v := nI 7) (lv' := [(1, .int (nI 7)), (0, .ref h0)]) hx hb dX4_init_34 hl (k := 0) rfl (nI_inc 6 1) (by decide) rfl (fun ls hl => ?_)
  refine lv_goto (tgt := 15) hx hb dX4_init_37 (by decide) ?_
  refine lv_iload_n hx hb dX4_init_15 rfl (lv_at hl 0 rfl) ?_
  refine lv_bipush (v := 10) hx hb dX4_init_16 (by decide) ?_
  refine wk_ge (tgt := 40) hx hb 7 10 rfl rfl (by omega) (by omega) dX4_init_18 (by decide) (fun q => absurd q (by omega)) (fun _ => ?_)
  refine lv_aload_n hx hb dX4_init_21 rfl (lv_at hl 1 rfl) ?_
  refine wg_X4_0 hx hb hts iX4 hown hK hP 0 rfl k5 (v := .ref q1) rfl dX4_init_22 ?_
  refine lv_iload_n hx hb dX4_init_25 rfl (lv_at hl 0 rfl) ?_
  refine va_new (D := D) (ci := 0) (fs := [.int 0, .int 0, .int 0, .int 0, .null, .null, .null, .null, .null, .null, .null]) (C := RX0) (T := TX0) (N := 11) hx hb hts iX0 tyX0 tyX0_ok hown k4 k6 k7 hK hP hD hS hA rfl (fun j hj => by rcases (show j = 0 ∨ j = 1 ∨ j = 2 ∨ j = 3 ∨ j = 4 ∨ j = 5 ∨ j = 6 ∨ j = 7 ∨ j = 8 ∨ j = 9 ∨ j = 10 by omega) with rfl | rfl | rfl | rfl | rfl | rfl | rfl | rfl | rfl | rfl | rfl <;> rfl) (Nat.le_of_ble_eq_true rfl) (Nat.le_of_ble_eq_true rfl) dX4_init_26 (fun q16 H hP hD hS => ?_)
  have hP : va_P D vwCl ([(h0, .inr (4, [.ref q1, .int 0, .int 0]))] ++ [(q1, .inl (c 1, 10, .inr (.inr (.inr (.inr (va_up (va_up (va_up (va_up (va_up (va_up (va_up (fun _ => none) 0 (some (a3 0))) 1 (some (a5 0))) 2 (some (a7 0))) 3 (some (a9 0))) 4 (some (a11 0))) 5 (some (a13 0))) 6 (some (a15 0))))))))] ++ affW c a3 wz ++ affW c a5 wz ++ affW c a7 wz ++ affW c a9 wz ++ affW c a11 wz ++ affW c a13 wz ++ affW c a15 wz ++ [(q16, .inr (0, [.int 0, .int 0, .int 0, .int 0, .null, .null, .null, .null, .null, .null, .null]))]) H := hP
  have hD : va_D A ([(h0, .inr (4, [.ref q1, .int 0, .int 0]))] ++ [(q1, .inl (c 1, 10, .inr (.inr (.inr (.inr (va_up (va_up (va_up (va_up (va_up (va_up (va_up (fun _ => none) 0 (some (a3 0))) 1 (some (a5 0))) 2 (some (a7 0))) 3 (some (a9 0))) 4 (some (a11 0))) 5 (some (a13 0))) 6 (some (a15 0))))))))] ++ affW c a3 wz ++ affW c a5 wz ++ affW c a7 wz ++ affW c a9 wz ++ affW c a11 wz ++ affW c a13 wz ++ affW c a15 wz ++ [(q16, .inr (0, [.int 0, .int 0, .int 0, .int 0, .null, .null, .null, .null, .null, .null, .null]))]) := hD
  refine W.widen (k := 58) (n := 392) (Nat.le_of_ble_eq_true rfl) (Nat.le_of_ble_eq_true rfl) ?_
  refine lv_dup hx hb dX4_init_29 rfl ?_
  refine wk_callIN (rest := [.ref q16, .int (nI 7), .ref q1]) ⟨hx, hb, hml, hown, hts⟩ (c_X0_init l D c q16) (⟨va_cnB 0 hts gX4_init_X0_init_n17 rfl rfl rfl hE.2 k7 hdi_X0 ⟨Nat.le_of_ble_eq_true rfl, Nat.le_of_ble_eq_true rfl⟩, rfl, k8⟩) eOK_T trivial hK hP hD hS hA hl.1 (Nat.le_of_ble_eq_true rfl) dX4_init_30 ⟨Nat.le_of_ble_eq_true rfl, Nat.le_of_ble_eq_true rfl⟩ (fun a17 H locs hu hP2 hD2 hS2 => ?_)
  subst hu
  have hP := hP2
  have hD := hD2
  have hS := hS2
  clear hP2 hD2 hS2
  have hP : va_P D vwCl ([(h0, .inr (4, [.ref q1, .int 0, .int 0]))] ++ [(q1, .inl (c 1, 10, .inr (.inr (.inr (.inr (va_up (va_up (va_up (va_up (va_up (va_up (va_up (fun _ => none) 0 (some (a3 0))) 1 (some (a5 0))) 2 (some (a7 0))) 3 (some (a9 0))) 4 (some (a11 0))) 5 (some (a13 0))) 6 (some (a15 0))))))))] ++ affW c a3 wz ++ affW c a5 wz ++ affW c a7 wz ++ affW c a9 wz ++ affW c a11 wz ++ affW c a13 wz ++ affW c a15 wz ++ affW c a17 wz) H := hP
  have hD : va_D A ([(h0, .inr (4, [.ref q1, .int 0, .int 0]))] ++ [(q1, .inl (c 1, 10, .inr (.inr (.inr (.inr (va_up (va_up (va_up (va_up (va_up (va_up (va_up (fun _ => none) 0 (some (a3 0))) 1 (some (a5 0))) 2 (some (a7 0))) 3 (some (a9 0))) 4 (some (a11 0))) 5 (some (a13 0))) 6 (some (a15 0))))))))] ++ affW c a3 wz ++ affW c a5 wz ++ affW c a7 wz ++ affW c a9 wz ++ affW c a11 wz ++ affW c a13 wz ++ affW c a15 wz ++ affW c a17 wz) := hD
  refine W.widen (k := 65) (n := 434) (Nat.le_of_ble_eq_true rfl) (Nat.le_of_ble_eq_true rfl) ?_
  refine va_astq hx hb hK hP hD hS 1 1 58 0 rfl rfl rfl (r := (RX0, TX0, 11)) rfl (vp_in_nI (n := 7) (N := 10) (by omega) (by omega)) dX4_init_33 (fun H locs hP hD hS => ?_)
  have hP : va_P D vwCl ([(h0, .inr (4, [.ref q1, .int 0, .int 0]))] ++ [(q1, .inl (c 1, 10, .inr (.inr (.inr (.inr (va_up (va_up (va_up (va_up (va_up (va_up (va_up (va_up (fun _ => none) 0 (some (a3 0))) 1 (some (a5 0))) 2 (some (a7 0))) 3 (some (a9 0))) 4 (some (a11 0))) 5 (some (a13 0))) 6 (some (a15 0))) 7 (some (a17 0))))))))] ++ affW c a3 wz ++ affW c a5 wz ++ affW c a7 wz ++ affW c a9 wz ++ affW c a11 wz ++ affW c a13 wz ++ affW c a15 wz ++ affW c a17 wz) H := hP
  have hD : va_D A ([(h0, .inr (4, [.ref q1, .int 0, .int 0]))] ++ [(q1, .inl (c 1, 10, .inr (.inr (.inr (.inr (va_up (va_up (va_up (va_up (va_up (va_up (va_up (va_up (fun _ => none) 0 (some (a3 0))) 1 (some (a5 0))) 2 (some (a7 0))) 3 (some (a9 0))) 4 (some (a11 0))) 5 (some (a13 0))) 6 (some (a15 0))) 7 (some (a17 0))))))))] ++ affW c a3 wz ++ affW c a5 wz ++ affW c a7 wz ++ affW c a9 wz ++ affW c a11 wz ++ affW c a13 wz ++ affW c a15 wz ++ affW c a17 wz) := hD
  refine lv_iinc (v := nI 8) (lv' := [(1, .int (nI 8)), (0, .ref h0)]) hx hb dX4_init_34 hl (k := 0) rfl (nI_inc 7 1) (by decide) rfl (fun ls hl => ?_)
  refine lv_goto (tgt := 15) hx hb dX4_init_37 (by decide) ?_
  refine lv_iload_n hx hb dX4_init_15 rfl (lv_at hl 0 rfl) ?_
  refine lv_bipush (v := 10) hx hb dX4_init_16 (by decide) ?_
  refine wk_ge (tgt := 40) hx hb 8 10 rfl rfl (by omega) (by omega) dX4_init_18 (by decide) (fun q => absurd q (by omega)) (fun _ => ?_)
  refine lv_aload_n hx hb dX4_init_21 rfl (lv_at hl 1 rfl) ?_
  refine wg_X4_0 hx hb hts iX4 hown hK hP 0 rfl k5 (v := .ref q1) rfl dX4_init_22 ?_
  refine lv_iload_n hx hb dX4_init_25 rfl (lv_at hl 0 rfl) ?_
  refine va_new (D := D) (ci := 0) (fs := [.int 0, .int 0, .int 0, .int 0, .null, .null, .null, .null, .null, .null, .null]) (C := RX0) (T := TX0) (N := 11) hx hb hts iX0 tyX0 tyX0_ok hown k4 k6 k7 hK hP hD hS hA rfl (fun j hj => by rcases (show j = 0 ∨ j = 1 ∨ j = 2 ∨ j = 3 ∨ j = 4 ∨ j = 5 ∨ j = 6 ∨ j = 7 ∨ j = 8 ∨ j = 9 ∨ j = 10 by omega) with rfl | rfl | rfl | rfl | rfl | rfl | rfl | rfl | rfl | rfl | rfl <;> rfl) (Nat.le_of_ble_eq_true rfl) (Nat.le_of_ble_eq_true rfl) dX4_init_26 (fun q18 H hP hD hS => ?_)
  have hP : va_P D vwCl ([(h0, .inr (4, [.ref q1, .int 0, .int 0]))] ++ [(q1, .inl (c 1, 10, .inr (.inr (.inr (.inr (va_up (va_up (va_up (va_up (va_up (va_up (va_up (va_up (fun _ => none) 0 (some (a3 0))) 1 (some (a5 0))) 2 (some (a7 0))) 3 (some (a9 0))) 4 (some (a11 0))) 5 (some (a13 0))) 6 (some (a15 0))) 7 (some (a17 0))))))))] ++ affW c a3 wz ++ affW c a5 wz ++ affW c a7 wz ++ affW c a9 wz ++ affW c a11 wz ++ affW c a13 wz ++ affW c a15 wz ++ affW c a17 wz ++ [(q18, .inr (0, [.int 0, .int 0, .int 0, .int 0, .null, .null, .null, .null, .null, .null, .null]))]) H := hP
  have hD : va_D A ([(h0, .inr (4, [.ref q1, .int 0, .int 0]))] ++ [(q1, .inl (c 1, 10, .inr (.inr (.inr (.inr (va_up (va_up (va_up (va_up (va_up (va_up (va_up (va_up (fun _ => none) 0 (some (a3 0))) 1 (some (a5 0))) 2 (some (a7 0))) 3 (some (a9 0))) 4 (some (a11 0))) 5 (some (a13 0))) 6 (some (a15 0))) 7 (some (a17 0))))))))] ++ affW c a3 wz ++ affW c a5 wz ++ affW c a7 wz ++ affW c a9 wz ++ affW c a11 wz ++ affW c a13 wz ++ affW c a15 wz ++ affW c a17 wz ++ [(q18, .inr (0, [.int 0, .int 0, .int 0, .int 0, .null, .null, .null, .null, .null, .null, .null]))]) := hD
  refine W.widen (k := 66) (n := 445) (Nat.le_of_ble_eq_true rfl) (Nat.le_of_ble_eq_true rfl) ?_
  refine lv_dup hx hb dX4_init_29 rfl ?_
  refine wk_callIN (rest := [.ref q18, .int (nI 8), .ref q1]) ⟨hx, hb, hml, hown, hts⟩ (c_X0_init l D c q18) (⟨va_cnB 0 hts gX4_init_X0_init_n17 rfl rfl rfl hE.2 k7 hdi_X0 ⟨Nat.le_of_ble_eq_true rfl, Nat.le_of_ble_eq_true rfl⟩, rfl, k8⟩) eOK_T trivial hK hP hD hS hA hl.1 (Nat.le_of_ble_eq_true rfl) dX4_init_30 ⟨Nat.le_of_ble_eq_true rfl, Nat.le_of_ble_eq_true rfl⟩ (fun a19 H locs hu hP2 hD2 hS2 => ?_)
  subst hu
  have hP := hP2
  have hD := hD2
  have hS := hS2
  clear hP2 hD2 hS2
  have hP : va_P D vwCl ([(h0, .inr (4, [.ref q1, .int 0, .int 0]))] ++ [(q1, .inl (c 1, 10, .inr (.inr (.inr (.inr (va_up (va_up (va_up (va_up (va_up (va_up (va_up (va_up (fun _ => none) 0 (some (a3 0))) 1 (some (a5 0))) 2 (some (a7 0))) 3 (some (a9 0))) 4 (some (a11 0))) 5 (some (a13 0))) 6 (some (a15 0))) 7 (some (a17 0))))))))] ++ affW c a3 wz ++ affW c a5 wz ++ affW c a7 wz ++ affW c a9 wz ++ affW c a11 wz ++ affW c a13 wz ++ affW c a15 wz ++ affW c a17 wz ++ affW c a19 wz) H := hP
  have hD : va_D A ([(h0, .inr (4, [.ref q1, .int 0, .int 0]))] ++ [(q1, .inl (c 1, 10, .inr (.inr (.inr (.inr (va_up (va_up (va_up (va_up (va_up (va_up (va_up (va_up (fun _ => none) 0 (some (a3 0))) 1 (some (a5 0))) 2 (some (a7 0))) 3 (some (a9 0))) 4 (some (a11 0))) 5 (some (a13 0))) 6 (some (a15 0))) 7 (some (a17 0))))))))] ++ affW c a3 wz ++ affW c a5 wz ++ affW c a7 wz ++ affW c a9 wz ++ affW c a11 wz ++ affW c a13 wz ++ affW c a15 wz ++ affW c a17 wz ++ affW c a19 wz) := hD
  refine W.widen (k := 73) (n := 487) (Nat.le_of_ble_eq_true rfl) (Nat.le_of_ble_eq_true rfl) ?_
  refine va_astq hx hb hK hP hD hS 1 1 66 0 rfl rfl rfl (r := (RX0, TX0, 11)) rfl (vp_in_nI (n := 8) (N := 10) (by omega) (by omega)) dX4_init_33 (fun H locs hP hD hS => ?_)
  have hP : va_P D vwCl ([(h0, .inr (4, [.ref q1, .int 0, .int 0]))] ++ [(q1, .inl (c 1, 10, .inr (.inr (.inr (.inr (va_up (va_up (va_up (va_up (va_up (va_up (va_up (va_up (va_up (fun _ => none) 0 (some (a3 0))) 1 (some (a5 0))) 2 (some (a7 0))) 3 (some (a9 0))) 4 (some (a11 0))) 5 (some (a13 0))) 6 (some (a15 0))) 7 (some (a17 0))) 8 (some (a19 0))))))))] ++ affW c a3 wz ++ affW c a5 wz ++ affW c a7 wz ++ affW c a9 wz ++ affW c a11 wz ++ affW c a13 wz ++ affW c a15 wz ++ affW c a17 wz ++ affW c a19 wz) H := hP
  have hD : va_D A ([(h0, .inr (4, [.ref q1, .int 0, .int 0]))] ++ [(q1, .inl (c 1, 10, .inr (.inr (.inr (.inr (va_up (va_up (va_up (va_up (va_up (va_up (va_up (va_up (va_up (fun _ => none) 0 (some (a3 0))) 1 (some (a5 0))) 2 (some (a7 0))) 3 (some (a9 0))) 4 (some (a11 0))) 5 (some (a13 0))) 6 (some (a15 0))) 7 (some (a17 0))) 8 (some (a19 0))))))))] ++ affW c a3 wz ++ affW c a5 wz ++ affW c a7 wz ++ affW c a9 wz ++ affW c a11 wz ++ affW c a13 wz ++ affW c a15 wz ++ affW c a17 wz ++ affW c a19 wz) := hD
  refine lv_iinc (v := nI 9) (lv' := [(1, .int (nI 9)), (0, .ref h0)]) hx hb dX4_init_34 hl (k := 0) rfl (nI_inc 8 1) (by decide) rfl (fun ls hl => ?_)
  refine lv_goto (tgt := 15) hx hb dX4_init_37 (by decide) ?_
  refine lv_iload_n hx hb dX4_init_15 rfl (lv_at hl 0 rfl) ?_
  refine lv_bipush (v := 10) hx hb dX4_init_16 (by decide) ?_
  refine wk_ge (tgt := 40) hx hb 9 10 rfl rfl (by omega) (by omega) dX4_init_18 (by decide) (fun q => absurd q (by omega)) (fun _ => ?_)
  refine lv_aload_n hx hb dX4_init_21 rfl (lv_at hl 1 rfl) ?_
  refine wg_X4_0 hx hb hts iX4 hown hK hP 0 rfl k5 (v := .ref q1) rfl dX4_init_22 ?_
  refine lv_iload_n hx hb dX4_init_25 rfl (lv_at hl 0 rfl) ?_
  refine va_new (D := D) (ci := 0) (fs := [.int 0, .int 0, .int 0, .int 0, .null, .null, .null, .null, .null, .null, .null]) (C := RX0) (T := TX0) (N := 11) hx hb hts iX0 tyX0 tyX0_ok hown k4 k6 k7 hK hP hD hS hA rfl (fun j hj => by rcases (show j = 0 ∨ j = 1 ∨ j = 2 ∨ j = 3 ∨ j = 4 ∨ j = 5 ∨ j = 6 ∨ j = 7 ∨ j = 8 ∨ j = 9 ∨ j = 10 by omega) with rfl | rfl | rfl | rfl | rfl | rfl | rfl | rfl | rfl | rfl | rfl <;> rfl) (Nat.le_of_ble_eq_true rfl) (Nat.le_of_ble_eq_true rfl) dX4_init_26 (fun q20 H hP hD hS => ?_)
  have hP : va_P D vwCl ([(h0, .inr (4, [.ref q1, .int 0, .int 0]))] ++ [(q1, .inl (c 1, 10, .inr (.inr (.inr (.inr (va_up (va_up (va_up (va_up (va_up (va_up (va_up (va_up (va_up (fun _ => none) 0 (some (a3 0))) 1 (some (a5 0))) 2 (some (a7 0))) 3 (some (a9 0))) 4 (some (a11 0))) 5 (some (a13 0))) 6 (some (a15 0))) 7 (some (a17 0))) 8 (some (a19 0))))))))] ++ affW c a3 wz ++ affW c a5 wz ++ affW c a7 wz ++ affW c a9 wz ++ affW c a11 wz ++ affW c a13 wz ++ affW c a15 wz ++ affW c a17 wz ++ affW c a19 wz ++ [(q20, .inr (0, [.int 0, .int 0, .int 0, .int 0, .null, .null, .null, .null, .null, .null, .null]))]) H := hP
  have hD : va_D A ([(h0, .inr (4, [.ref q1, .int 0, .int 0]))] ++ [(q1, .inl (c 1, 10, .inr (.inr (.inr (.inr (va_up (va_up (va_up (va_up (va_up (va_up (va_up (va_up (va_up (fun _ => none) 0 (some (a3 0))) 1 (some (a5 0))) 2 (some (a7 0))) 3 (some (a9 0))) 4 (some (a11 0))) 5 (some (a13 0))) 6 (some (a15 0))) 7 (some (a17 0))) 8 (some (a19 0))))))))] ++ affW c a3 wz ++ affW c a5 wz ++ affW c a7 wz ++ affW c a9 wz ++ affW c a11 wz ++ affW c a13 wz ++ affW c a15 wz ++ affW c a17 wz ++ affW c a19 wz ++ [(q20, .inr (0, [.int 0, .int 0, .int 0, .int 0, .null, .null, .null, .null, .null, .null, .null]))]) := hD
  refine W.widen (k := 74) (n := 498) (Nat.le_of_ble_eq_true rfl) (Nat.le_of_ble_eq_true rfl) ?_
  refine lv_dup hx hb dX4_init_29 rfl ?_
  refine wk_callIN (rest := [.ref q20, .int (nI 9), .ref q1]) ⟨hx, hb, hml, hown, hts⟩ (c_X0_init l D c q20) (⟨va_cnB 0 hts gX4_init_X0_init_n17 rfl rfl rfl hE.2 k7 hdi_X0 ⟨Nat.le_of_ble_eq_true rfl, Nat.le_of_ble_eq_true rfl⟩, rfl, k8⟩) eOK_T trivial hK hP hD hS hA hl.1 (Nat.le_of_ble_eq_true rfl) dX4_init_30 ⟨Nat.le_of_ble_eq_true rfl, Nat.le_of_ble_eq_true rfl⟩ (fun a21 H locs hu hP2 hD2 hS2 => ?_)
  subst hu
  have hP := hP2
  have hD := hD2
  have hS := hS2
  clear hP2 hD2 hS2
  have hP : va_P D vwCl ([(h0, .inr (4, [.ref q1, .int 0, .int 0]))] ++ [(q1, .inl (c 1, 10, .inr (.inr (.inr (.inr (va_up (va_up (va_up (va_up (va_up (va_up (va_up (va_up (va_up (fun _ => none) 0 (some (a3 0))) 1 (some (a5 0))) 2 (some (a7 0))) 3 (some (a9 0))) 4 (some (a11 0))) 5 (some (a13 0))) 6 (some (a15 0))) 7 (some (a17 0))) 8 (some (a19 0))))))))] ++ affW c a3 wz ++ affW c a5 wz ++ affW c a7 wz ++ affW c a9 wz ++ affW c a11 wz ++ affW c a13 wz ++ affW c a15 wz ++ affW c a17 wz ++ affW c a19 wz ++ affW c a21 wz) H := hP
  have hD : va_D A ([(h0, .inr (4, [.ref q1, .int 0, .int 0]))] ++ [(q1, .inl (c 1, 10, .inr (.inr (.inr (.inr (va_up (va_up (va_up (va_up (va_up (va_up (va_up (va_up (va_up (fun _ => none) 0 (some (a3 0))) 1 (some (a5 0))) 2 (some (a7 0))) 3 (some (a9 0))) 4 (some (a11 0))) 5 (some (a13 0))) 6 (some (a15 0))) 7 (some (a17 0))) 8 (some (a19 0))))))))] ++ affW c a3 wz ++ affW c a5 wz ++ affW c a7 wz ++ affW c a9 wz ++ affW c a11 wz ++ affW c a13 wz ++ affW c a15 wz ++ affW c a17 wz ++ affW c a19 wz ++ affW c a21 wz) := hD
  refine W.widen (k := 81) (n := 540) (Nat.le_of_ble_eq_true rfl) (Nat.le_of_ble_eq_true rfl) ?_
  refine va_astq hx hb hK hP hD hS 1 1 74 0 rfl rfl rfl (r := (RX0, TX0, 11)) rfl (vp_in_nI (n := 9) (N := 10) (by omega) (by omega)) dX4_init_33 (fun H locs hP hD hS => ?_)
  have hP : va_P D vwCl ([(h0, .inr (4, [.ref q1, .int 0, .int 0]))] ++ [(q1, .inl (c 1, 10, .inr (.inr (.inr (.inr (va_up (va_up (va_up (va_up (va_up (va_up (va_up (va_up (va_up (va_up (fun _ => none) 0 (some (a3 0))) 1 (some (a5 0))) 2 (some (a7 0))) 3 (some (a9 0))) 4 (some (a11 0))) 5 (some (a13 0))) 6 (some (a15 0))) 7 (some (a17 0))) 8 (some (a19 0))) 9 (some (a21 0))))))))] ++ affW c a3 wz ++ affW c a5 wz ++ affW c a7 wz ++ affW c a9 wz ++ affW c a11 wz ++ affW c a13 wz ++ affW c a15 wz ++ affW c a17 wz ++ affW c a19 wz ++ affW c a21 wz) H := hP
  have hD : va_D A ([(h0, .inr (4, [.ref q1, .int 0, .int 0]))] ++ [(q1, .inl (c 1, 10, .inr (.inr (.inr (.inr (va_up (va_up (va_up (va_up (va_up (va_up (va_up (va_up (va_up (va_up (fun _ => none) 0 (some (a3 0))) 1 (some (a5 0))) 2 (some (a7 0))) 3 (some (a9 0))) 4 (some (a11 0))) 5 (some (a13 0))) 6 (some (a15 0))) 7 (some (a17 0))) 8 (some (a19 0))) 9 (some (a21 0))))))))] ++ affW c a3 wz ++ affW c a5 wz ++ affW c a7 wz ++ affW c a9 wz ++ affW c a11 wz ++ affW c a13 wz ++ affW c a15 wz ++ affW c a17 wz ++ affW c a19 wz ++ affW c a21 wz) := hD
  refine lv_iinc (v := nI 10) (lv' := [(1, .int (nI 10)), (0, .ref h0)]) hx hb dX4_init_34 hl (k := 0) rfl (nI_inc 9 1) (by decide) rfl (fun ls hl => ?_)
  refine lv_goto (tgt := 15) hx hb dX4_init_37 (by decide) ?_
  refine lv_iload_n hx hb dX4_init_15 rfl (lv_at hl 0 rfl) ?_
  refine lv_bipush (v := 10) hx hb dX4_init_16 (by decide) ?_
  refine wk_ge (tgt := 40) hx hb 10 10 rfl rfl (by omega) (by omega) dX4_init_18 (by decide) (fun _ => ?_) (fun q => absurd q (by omega))
  obtain ⟨hh, ehh⟩ : ∃ f : Nat → Nat, f = (fun k => if k = 0 then h0 else if k = 3 then q1 else if k < 120 then a3 (k - 100) else if k < 140 then a5 (k - 120) else if k < 160 then a7 (k - 140) else if k < 180 then a9 (k - 160) else if k < 200 then a11 (k - 180) else if k < 220 then a13 (k - 200) else if k < 240 then a15 (k - 220) else if k < 260 then a17 (k - 240) else if k < 280 then a19 (k - 260) else if k < 300 then a21 (k - 280) else 0) := ⟨_, rfl⟩
  have hq : ∀ j, j < 10 → (va_up (va_up (va_up (va_up (va_up (va_up (va_up (va_up (va_up (va_up (fun _ => none) 0 (some (a3 0))) 1 (some (a5 0))) 2 (some (a7 0))) 3 (some (a9 0))) 4 (some (a11 0))) 5 (some (a13 0))) 6 (some (a15 0))) 7 (some (a17 0))) 8 (some (a19 0))) 9 (some (a21 0))) j = some (subA hh j 0) := fun j hj => by rcases (show j = 0 ∨ j = 1 ∨ j = 2 ∨ j = 3 ∨ j = 4 ∨ j = 5 ∨ j = 6 ∨ j = 7 ∨ j = 8 ∨ j = 9 by omega) with rfl | rfl | rfl | rfl | rfl | rfl | rfl | rfl | rfl | rfl <;> (rw [ehh]; rfl)
  have hP : va_P D vwCl ([(h0, .inr (4, [.ref q1, .int 0, .int 0]))] ++ [(q1, .inl (c 1, 10, .inr (.inr (.inr (.inr (fun i => some (subA hh i 0)))))))] ++ affW c a3 wz ++ affW c a5 wz ++ affW c a7 wz ++ affW c a9 wz ++ affW c a11 wz ++ affW c a13 wz ++ affW c a15 wz ++ affW c a17 wz ++ affW c a19 wz ++ affW c a21 wz) H := wk_P_ext (ws := [(h0, .inr (4, [.ref q1, .int 0, .int 0]))] ++ [(q1, .inl (c 1, 10, .inr (.inr (.inr (.inr (va_up (va_up (va_up (va_up (va_up (va_up (va_up (va_up (va_up (va_up (fun _ => none) 0 (some (a3 0))) 1 (some (a5 0))) 2 (some (a7 0))) 3 (some (a9 0))) 4 (some (a11 0))) 5 (some (a13 0))) 6 (some (a15 0))) 7 (some (a17 0))) 8 (some (a19 0))) 9 (some (a21 0))))))))] ++ affW c a3 wz ++ affW c a5 wz ++ affW c a7 wz ++ affW c a9 wz ++ affW c a11 wz ++ affW c a13 wz ++ affW c a15 wz ++ affW c a17 wz ++ affW c a19 wz ++ affW c a21 wz) (q := 1) (a := q1) (e1 := .inl (c 1, 10, .inr (.inr (.inr (.inr (va_up (va_up (va_up (va_up (va_up (va_up (va_up (va_up (va_up (va_up (fun _ => none) 0 (some (a3 0))) 1 (some (a5 0))) 2 (some (a7 0))) 3 (some (a9 0))) 4 (some (a11 0))) 5 (some (a13 0))) 6 (some (a15 0))) 7 (some (a17 0))) 8 (some (a19 0))) 9 (some (a21 0)))))))) (e2 := .inl (c 1, 10, .inr (.inr (.inr (.inr (fun i => some (subA hh i 0))))))) (wk_qext hq) hP
  have hD : va_D A ([(h0, .inr (4, [.ref q1, .int 0, .int 0]))] ++ [(q1, .inl (c 1, 10, .inr (.inr (.inr (.inr (fun i => some (subA hh i 0)))))))] ++ affW c a3 wz ++ affW c a5 wz ++ affW c a7 wz ++ affW c a9 wz ++ affW c a11 wz ++ affW c a13 wz ++ affW c a15 wz ++ affW c a17 wz ++ affW c a19 wz ++ affW c a21 wz) := wk_D_ext (ws := [(h0, .inr (4, [.ref q1, .int 0, .int 0]))] ++ [(q1, .inl (c 1, 10, .inr (.inr (.inr (.inr (va_up (va_up (va_up (va_up (va_up (va_up (va_up (va_up (va_up (va_up (fun _ => none) 0 (some (a3 0))) 1 (some (a5 0))) 2 (some (a7 0))) 3 (some (a9 0))) 4 (some (a11 0))) 5 (some (a13 0))) 6 (some (a15 0))) 7 (some (a17 0))) 8 (some (a19 0))) 9 (some (a21 0))))))))] ++ affW c a3 wz ++ affW c a5 wz ++ affW c a7 wz ++ affW c a9 wz ++ affW c a11 wz ++ affW c a13 wz ++ affW c a15 wz ++ affW c a17 wz ++ affW c a19 wz ++ affW c a21 wz) (q := 1) (a := q1) (e1 := .inl (c 1, 10, .inr (.inr (.inr (.inr (va_up (va_up (va_up (va_up (va_up (va_up (va_up (va_up (va_up (va_up (fun _ => none) 0 (some (a3 0))) 1 (some (a5 0))) 2 (some (a7 0))) 3 (some (a9 0))) 4 (some (a11 0))) 5 (some (a13 0))) 6 (some (a15 0))) 7 (some (a17 0))) 8 (some (a19 0))) 9 (some (a21 0)))))))) (e2 := .inl (c 1, 10, .inr (.inr (.inr (.inr (fun i => some (subA hh i 0))))))) hD
  subst ehh
  exact ret 40 ls H _ (fun k => if k = 0 then h0 else if k = 3 then q1 else if k < 120 then a3 (k - 100) else if k < 140 then a5 (k - 120) else if k < 160 then a7 (k - 140) else if k < 180 then a9 (k - 160) else if k < 200 then a11 (k - 180) else if k < 220 then a13 (k - 200) else if k < 240 then a15 (k - 220) else if k < 260 then a17 (k - 240) else if k < 280 then a19 (k - 260) else if k < 300 then a21 (k - 280) else 0) rfl hP hD hS dX4_init_40

def eX7 (U : State) : Prop := va_AOA .int U ∧ eX4 U ∧ eX1 U ∧ va_Nw (.methodLinkNest RX7 11 yX6_init RX7) U ∧ va_Nw (.methodLinkNest RX7 18 yX5_init RX7) U ∧ va_Nw (.methodLinkNest RX7 28 yX0_init RX7) U ∧ va_Nw (.methodLinkNest RX7 52 yX3_init RX7) U ∧ va_Nw (.methodLinkNest RX7 59 yX2_init RX7) U
theorem eX7_ok : eOK eX7 := eOK_and (eOK_A .int) (eOK_and eX4_ok (eOK_and eX1_ok (eOK_and (eOK_M _ _ _ _) (eOK_and (eOK_M _ _ _ _) (eOK_and (eOK_M _ _ _ _) (eOK_and (eOK_M _ _ _ _) (eOK_M _ _ _ _)))))))
abbrev rmX0_closedBits : Room := { frames := 1, cells := 0, slots := 0, locals := 23 }
theorem hd_X0_closedBits : yX0_closedBits.cls = RX0 ∧ yX0_closedBits.cls ≠ "java/lang/invoke/MethodHandle" ∧ yX0_closedBits.cls ≠ "java/lang/invoke/VarHandle" ∧ (parseMethodDescriptor yX0_closedBits.desc).map (fun d => d.parameters.length) = some 0 := by decide +kernel
set_option maxHeartbeats 4000000 in
set_option maxRecDepth 100000 in
theorem c_X0_closedBits (l : Launch) (D : va_G) (c : Nat → ClassId) (a : Nat → Nat) (σ : Nat → Nat → Int32) (hq : wfQ σ) : wk_RdI l yX0_closedBits wsX0_closedBits rmX0_closedBits D (tysL c) [.ref (a 0)] (affW c a σ) (obL (σ 8) (-9) (nQ σ)) := by
  refine wk_mkR (cc := cX0_closedBits) (maxL := 1) (rt := .int) (by decide) rfl (Nat.le_of_ble_eq_true rfl) rfl ?_
  intro pr ev ss mm args below meth cd ls H Q hst hP hK hl ret
  obtain ⟨hx, hb, hml, hown, hts, -⟩ := hst
  have hown : ss.vm.findClass RX0 = some mm.cls := hown
  have hl : lv_has ls 1 [(0, .ref (a 0))] := hl
  refine lv_aload_n hx hb dX0_closedBits_0 rfl (lv_at hl 0 rfl) ?_
  refine lv_bipush (v := -9) hx hb dX0_closedBits_1 (by decide) ?_
  refine wk_callRV (As := [.int ((-9))]) (rest := []) ⟨hx, hb, hml, hown, hts⟩ (c_X0_owedBits l D c a σ ((-9)) (by assumption)) (cwV 1 hts gX0_closedBits_X0_owedBits rfl rfl rfl hd_X0_owedBits ⟨Nat.le_of_ble_eq_true rfl, Nat.le_of_ble_eq_true rfl⟩) hK hP [0, 1, 2, 3, 4, 5, 6, 7] rfl 0 rfl rfl rfl hl.1 rfl (Nat.le_of_ble_eq_true rfl) dX0_closedBits_3 (Nat.zero_le _) (Nat.zero_le _) ?_
  exact ret 6 ls (obL (σ 8) ((-9)) (nQ σ)) (by rfl) dX0_closedBits_6

abbrev rmX0_owedBy : Room := { frames := 1, cells := 0, slots := 0, locals := 23 }
theorem hd_X0_owedBy : yX0_owedBy.cls = RX0 ∧ yX0_owedBy.cls ≠ "java/lang/invoke/MethodHandle" ∧ yX0_owedBy.cls ≠ "java/lang/invoke/VarHandle" ∧ (parseMethodDescriptor yX0_owedBy.desc).map (fun d => d.parameters.length) = some 1 := by decide +kernel
set_option maxHeartbeats 4000000 in
set_option maxRecDepth 100000 in
theorem c_X0_owedBy (l : Launch) (D : va_G) (c : Nat → ClassId) (a : Nat → Nat) (σ : Nat → Nat → Int32) (w : Int32) (hq : wfQ σ) : wk_RdI l yX0_owedBy wsX0_owedBy rmX0_owedBy D (tysL c) [.ref (a 0), .int w] (affW c a σ) (bcF (obL (σ 8) w (nQ σ))) := by
  refine wk_mkR (cc := cX0_owedBy) (maxL := 2) (rt := .int) (by decide) rfl (Nat.le_of_ble_eq_true rfl) rfl ?_
  intro pr ev ss mm args below meth cd ls H Q hst hP hK hl ret
  obtain ⟨hx, hb, hml, hown, hts, -⟩ := hst
  have hown : ss.vm.findClass RX0 = some mm.cls := hown
  have hl : lv_has ls 2 [(0, .ref (a 0)), (1, .int w)] := hl
  refine lv_aload_n hx hb dX0_owedBy_0 rfl (lv_at hl 0 rfl) ?_
  refine lv_iload_n hx hb dX0_owedBy_1 rfl (lv_at hl 1 rfl) ?_
  refine wk_callRV (As := [.int w]) (rest := []) ⟨hx, hb, hml, hown, hts⟩ (c_X0_owedBits l D c a σ w (by assumption)) (cwV 1 hts gX0_owedBy_X0_owedBits rfl rfl rfl hd_X0_owedBits ⟨Nat.le_of_ble_eq_true rfl, Nat.le_of_ble_eq_true rfl⟩) hK hP [0, 1, 2, 3, 4, 5, 6, 7] rfl 0 rfl rfl rfl hl.1 rfl (Nat.le_of_ble_eq_true rfl) dX0_owedBy_2 (Nat.zero_le _) (Nat.zero_le _) ?_
  refine wk_callRS (As := [.int (obL (σ 8) w (nQ σ))]) (rest := []) ⟨hx, hb, hml, hown, hts⟩ (c_J6_bitCount_0f7a4 l D c (obL (σ 8) w (nQ σ))) (va_cwS 1 hts gX0_owedBy_J6_bitCount_0f7a4 rfl rfl rfl hd_J6_bitCount_0f7a4 ⟨Nat.le_of_ble_eq_true rfl, Nat.le_of_ble_eq_true rfl⟩) hK hP [] rfl rfl hl.1 rfl (Nat.le_of_ble_eq_true rfl) dX0_owedBy_5 (Nat.zero_le _) (Nat.zero_le _) ?_
  exact ret 8 ls (bcF (obL (σ 8) w (nQ σ))) (by rfl) dX0_owedBy_8

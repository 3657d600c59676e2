abbrev rmX0_hasQuarrel : Room := { frames := 0, cells := 0, slots := 0, locals := 0 }
theorem hd_X0_hasQuarrel : yX0_hasQuarrel.cls = RX0 ∧ yX0_hasQuarrel.cls ≠ "java/lang/invoke/MethodHandle" ∧ yX0_hasQuarrel.cls ≠ "java/lang/invoke/VarHandle" ∧ (parseMethodDescriptor yX0_hasQuarrel.desc).map (fun d => d.parameters.length) = some 1 := by decide +kernel
set_option maxHeartbeats 4000000 in
set_option maxRecDepth 100000 in
theorem c_X0_hasQuarrel (l : Launch) (D : va_G) (c : Nat → ClassId) (a : Nat → Nat) (σ : Nat → Nat → Int32) (q : Int32) : wk_RdI l yX0_hasQuarrel wsX0_hasQuarrel rmX0_hasQuarrel D (tysL c) [.ref (a 0), .int q] (affW c a σ) (if 0 ≤ q ∧ q < σ 2 0 then 1 else 0) := by
  refine wk_mkR (cc := cX0_hasQuarrel) (maxL := 2) (rt := .boolean) (by decide) rfl (Nat.le_of_ble_eq_true rfl) wk_narZ ?_
  intro pr ev ss mm args below meth cd ls H Q hst hP hK hl ret
  obtain ⟨hx, hb, hml, hown, hts, -⟩ := hst
  have hown : ss.vm.findClass RX0 = some mm.cls := hown
  have hl : lv_has ls 2 [(0, .ref (a 0)), (1, .int q)] := hl
  have k1 := hts (.fieldLink RX0 40 "LastWord$Affairs" "quarrels" "I") (List.mem_of_getElem? (i := 1) rfl)
  have iX0 : ∀ w ∈ u_ws RX0 TX0 11, w ∈ wsX0_hasQuarrel := fun _ h => (List.mem_cons_of_mem _ (List.mem_append_right _ h))
  refine lv_iload_n hx hb dX0_hasQuarrel_0 rfl (lv_at hl 1 rfl) ?_
  refine lv_if_lt (tgt := 16) hx hb dX0_hasQuarrel_1 (by decide) (fun h1 => ?_) (fun h1 => ?_)
  · refine lv_iconst (v := 0) hx hb dX0_hasQuarrel_16 (by decide) ?_
    exact ret 17 ls 0 ((if_neg (fun q => absurd h1 (Int32.not_lt.mpr q.1))).symm) dX0_hasQuarrel_17
  refine lv_iload_n hx hb dX0_hasQuarrel_4 rfl (lv_at hl 1 rfl) ?_
  refine lv_aload_n hx hb dX0_hasQuarrel_5 rfl (lv_at hl 0 rfl) ?_
  refine wg_X0_2 hx hb hts iX0 hown hK hP 0 rfl k1 rfl dX0_hasQuarrel_6 ?_
  refine lv_icmp_ge (tgt := 16) hx hb dX0_hasQuarrel_9 (by decide) (fun h2 => ?_) (fun h2 => ?_)
  · refine lv_iconst (v := 0) hx hb dX0_hasQuarrel_16 (by decide) ?_
    exact ret 17 ls 0 ((if_neg (fun q => absurd q.2 (Int32.not_lt.mpr h2))).symm) dX0_hasQuarrel_17
  refine lv_iconst (v := 1) hx hb dX0_hasQuarrel_12 (by decide) ?_
  refine lv_goto (tgt := 17) hx hb dX0_hasQuarrel_13 (by decide) ?_
  exact ret 17 ls 1 ((if_pos ⟨Int32.not_lt.mp h1, Int32.not_le.mp h2⟩).symm) dX0_hasQuarrel_17

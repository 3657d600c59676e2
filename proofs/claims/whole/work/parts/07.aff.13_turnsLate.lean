abbrev rmX0_turnsLate : Room := { frames := 0, cells := 0, slots := 0, locals := 0 }
theorem hd_X0_turnsLate : yX0_turnsLate.cls = RX0 ∧ yX0_turnsLate.cls ≠ "java/lang/invoke/MethodHandle" ∧ yX0_turnsLate.cls ≠ "java/lang/invoke/VarHandle" ∧ (parseMethodDescriptor yX0_turnsLate.desc).map (fun d => d.parameters.length) = some 2 := by decide +kernel
set_option maxHeartbeats 4000000 in
set_option maxRecDepth 100000 in
theorem c_X0_turnsLate (l : Launch) (D : va_G) (c : Nat → ClassId) (a : Nat → Nat) (σ : Nat → Nat → Int32) (q : Nat) (term : Int32) (hq : q < 6) : wk_RdI l yX0_turnsLate wsX0_turnsLate rmX0_turnsLate D (tysL c) [.ref (a 0), .int (nI q), .int term] (affW c a σ) (if σ 0 0 - σ 7 q = term then 1 else 0) := by
  refine wk_mkR (cc := cX0_turnsLate) (maxL := 3) (rt := .boolean) (by decide) rfl (Nat.le_of_ble_eq_true rfl) wk_narZ ?_
  intro pr ev ss mm args below meth cd ls H Q hst hP hK hl ret
  obtain ⟨hx, hb, hml, hown, hts, -⟩ := hst
  have hown : ss.vm.findClass RX0 = some mm.cls := hown
  have hl : lv_has ls 3 [(0, .ref (a 0)), (1, .int (nI q)), (2, .int term)] := hl
  have k1 := hts (.fieldLink RX0 33 "LastWord$Affairs" "today" "I") (List.mem_of_getElem? (i := 1) rfl)
  have k2 := hts (.fieldLink RX0 21 "LastWord$Affairs" "printedOn" "[I") (List.mem_of_getElem? (i := 2) rfl)
  have iX0 : ∀ w ∈ u_ws RX0 TX0 11, w ∈ wsX0_turnsLate := fun _ h => (List.mem_cons_of_mem _ (List.mem_append_right _ h))
  refine lv_aload_n hx hb dX0_turnsLate_0 rfl (lv_at hl 0 rfl) ?_
  refine wg_X0_0 hx hb hts iX0 hown hK hP 0 rfl k1 rfl dX0_turnsLate_1 ?_
  refine lv_aload_n hx hb dX0_turnsLate_4 rfl (lv_at hl 0 rfl) ?_
  refine wg_X0_7 hx hb hts iX0 hown hK hP 0 rfl k2 rfl dX0_turnsLate_5 ?_
  refine lv_iload_n hx hb dX0_turnsLate_8 rfl (lv_at hl 1 rfl) ?_
  refine wk_ald hx hb hK hP 4 0 rfl rfl q rfl (by omega) (by decide) dX0_turnsLate_9 ?_
  refine lv_isub hx hb dX0_turnsLate_10 ?_
  refine lv_iload_n hx hb dX0_turnsLate_11 rfl (lv_at hl 2 rfl) ?_
  refine lv_icmp_ne (tgt := 19) hx hb dX0_turnsLate_12 (by decide) (fun h1 => ?_) (fun h1 => ?_)
  · refine lv_iconst (v := 0) hx hb dX0_turnsLate_19 (by decide) ?_
    exact ret 20 ls 0 (by simp [h1]) dX0_turnsLate_20
  refine lv_iconst (v := 1) hx hb dX0_turnsLate_15 (by decide) ?_
  refine lv_goto (tgt := 20) hx hb dX0_turnsLate_16 (by decide) ?_
  exact ret 20 ls 1 (by simp [h1]) dX0_turnsLate_20

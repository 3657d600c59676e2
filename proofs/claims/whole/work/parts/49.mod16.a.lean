/-! ===== LastWordModel, walked: trace ===== -/
abbrev rmX8_trace : Room := { frames := 0, cells := 0, slots := 0, locals := 0 }
theorem hd_X8_trace : yX8_trace.cls = RX8 ∧ yX8_trace.cls ≠ "java/lang/invoke/MethodHandle" ∧ yX8_trace.cls ≠ "java/lang/invoke/VarHandle" ∧ (parseMethodDescriptor yX8_trace.desc).map (fun d => d.parameters.length) = some 0 := by decide +kernel
set_option maxHeartbeats 4000000 in
set_option maxRecDepth 100000 in
theorem c_X8_trace (l : Launch) (D : va_G) (c : Nat → ClassId) (ad : Nat → Nat) (μ : Nat → Nat → Int32) (r : Int64) : wk_RdL l yX8_trace wsX8_trace rmX8_trace D (tysL c) [.ref (ad 0)] (modelW c ad μ r) (r) := by
  refine wk_mkRl (cc := cX8_trace) (maxL := 1) (by decide) rfl (Nat.le_of_ble_eq_true rfl) ?_
  intro pr ev ss mm args below meth cd ls H Q hst hP hK hl ret
  obtain ⟨hx, hb, hml, hown, hts, -⟩ := hst
  have hown : ss.vm.findClass RX8 = some mm.cls := hown
  have hl : lv_has ls 1 [(0, .ref (ad 0))] := hl
  have k1 := hts (.fieldLink RX8 183 "LastWordModel" "trace" "J") (List.mem_of_getElem? (i := 1) rfl)
  have iX8 : ∀ w ∈ u_ws RX8 TX8 18, w ∈ wsX8_trace := fun _ h => (List.mem_cons_of_mem _ (List.mem_append_right _ h))
  refine lv_aload_n hx hb dX8_trace_0 rfl (lv_at hl 0 rfl) ?_
  refine wg_X8_16 hx hb hts iX8 hown hK hP 0 rfl k1 (v := .long r) rfl dX8_trace_1 ?_
  exact ret 4 ls r (by rfl) dX8_trace_4

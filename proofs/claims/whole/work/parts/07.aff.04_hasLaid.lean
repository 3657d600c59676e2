abbrev rmX0_hasLaid : Room := { frames := 0, cells := 0, slots := 0, locals := 0 }
theorem hd_X0_hasLaid : yX0_hasLaid.cls = RX0 ∧ yX0_hasLaid.cls ≠ "java/lang/invoke/MethodHandle" ∧ yX0_hasLaid.cls ≠ "java/lang/invoke/VarHandle" ∧ (parseMethodDescriptor yX0_hasLaid.desc).map (fun d => d.parameters.length) = some 1 := by decide +kernel
set_option maxHeartbeats 4000000 in
set_option maxRecDepth 100000 in
theorem c_X0_hasLaid (l : Launch) (D : va_G) (c : Nat → ClassId) (a : Nat → Nat) (σ : Nat → Nat → Int32) (w : Int32) : wk_RdI l yX0_hasLaid wsX0_hasLaid rmX0_hasLaid D (tysL c) [.ref (a 0), .int w] (affW c a σ) (if (σ 3 0 >>> (w &&& 31)) &&& 1 = 1 then 1 else 0) := by
  refine wk_mkR (cc := cX0_hasLaid) (maxL := 2) (rt := .boolean) (by decide) rfl (Nat.le_of_ble_eq_true rfl) wk_narZ ?_
  intro pr ev ss mm args below meth cd ls H Q hst hP hK hl ret
  obtain ⟨hx, hb, hml, hown, hts, -⟩ := hst
  have hown : ss.vm.findClass RX0 = some mm.cls := hown
  have hl : lv_has ls 2 [(0, .ref (a 0)), (1, .int w)] := hl
  have k1 := hts (.fieldLink RX0 43 "LastWord$Affairs" "laid" "I") (List.mem_of_getElem? (i := 1) rfl)
  have iX0 : ∀ w ∈ u_ws RX0 TX0 11, w ∈ wsX0_hasLaid := fun _ h => (List.mem_cons_of_mem _ (List.mem_append_right _ h))
  refine lv_aload_n hx hb dX0_hasLaid_0 rfl (lv_at hl 0 rfl) ?_
  refine wg_X0_3 hx hb hts iX0 hown hK hP 0 rfl k1 rfl dX0_hasLaid_1 ?_
  refine lv_iload_n hx hb dX0_hasLaid_4 rfl (lv_at hl 1 rfl) ?_
  refine lv_ishr hx hb dX0_hasLaid_5 ?_
  refine lv_iconst (v := 1) hx hb dX0_hasLaid_6 (by decide) ?_
  refine lv_iand hx hb dX0_hasLaid_7 ?_
  refine lv_iconst (v := 1) hx hb dX0_hasLaid_8 (by decide) ?_
  refine lv_icmp_ne (tgt := 16) hx hb dX0_hasLaid_9 (by decide) (fun h1 => ?_) (fun h1 => ?_)
  · refine lv_iconst (v := 0) hx hb dX0_hasLaid_16 (by decide) ?_
    exact ret 17 ls 0 (by simp [h1]) dX0_hasLaid_17
  refine lv_iconst (v := 1) hx hb dX0_hasLaid_12 (by decide) ?_
  refine lv_goto (tgt := 17) hx hb dX0_hasLaid_13 (by decide) ?_
  exact ret 17 ls 1 (by simp [h1]) dX0_hasLaid_17

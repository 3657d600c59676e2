abbrev rmX0_beginAnew : Room := { frames := 0, cells := 0, slots := 0, locals := 0 }
theorem hd_X0_beginAnew : yX0_beginAnew.cls = RX0 ∧ yX0_beginAnew.cls ≠ "java/lang/invoke/MethodHandle" ∧ yX0_beginAnew.cls ≠ "java/lang/invoke/VarHandle" ∧ (parseMethodDescriptor yX0_beginAnew.desc).map (fun d => d.parameters.length) = some 0 := by decide +kernel
set_option maxHeartbeats 4000000 in
set_option maxRecDepth 100000 in
theorem c_X0_beginAnew (l : Launch) (D : va_G) (c : Nat → ClassId) (a : Nat → Nat) (σ : Nat → Nat → Int32) : wk_UpV l yX0_beginAnew wsX0_beginAnew rmX0_beginAnew D (tysL c) [.ref (a 0)] (affW c a σ) (affW c a (anewL σ 6)) := by
  refine wk_mkV (cc := cX0_beginAnew) (maxL := 2) (by decide) rfl (Nat.le_of_ble_eq_true rfl) ?_
  intro A pr ev ss mm args below meth cd ls H H0 Q hst hP hK hD hS hA hl ret
  obtain ⟨hx, hb, hml, hown, hts, -⟩ := hst
  have hown : ss.vm.findClass RX0 = some mm.cls := hown
  have hl : lv_has ls 2 [(0, .ref (a 0))] := hl
  have k1 := hts (.fieldLink RX0 33 "LastWord$Affairs" "today" "I") (List.mem_of_getElem? (i := 1) rfl)
  have k2 := hts (.fieldLink RX0 37 "LastWord$Affairs" "letters" "I") (List.mem_of_getElem? (i := 2) rfl)
  have k3 := hts (.fieldLink RX0 40 "LastWord$Affairs" "quarrels" "I") (List.mem_of_getElem? (i := 3) rfl)
  have k4 := hts (.fieldLink RX0 43 "LastWord$Affairs" "laid" "I") (List.mem_of_getElem? (i := 4) rfl)
  have k5 := hts (.fieldLink RX0 9 "LastWord$Affairs" "lateTimes" "[I") (List.mem_of_getElem? (i := 5) rfl)
  have iX0 : ∀ w ∈ u_ws RX0 TX0 11, w ∈ wsX0_beginAnew := fun _ h => (List.mem_cons_of_mem _ (List.mem_append_right _ h))
  refine lv_aload_n hx hb dX0_beginAnew_0 rfl (lv_at hl 0 rfl) ?_
  refine lv_iconst (v := 0) hx hb dX0_beginAnew_1 (by decide) ?_
  refine wp_X0_0 hx hb hts iX0 hown hK hP hD hS 0 rfl k1 (Nat.le_of_ble_eq_true rfl) dX0_beginAnew_2 (ws' := affW c a (va_up σ 0 (fun _ => 0))) rfl (fun H locs hP hD hS => ?_)
  refine lv_aload_n hx hb dX0_beginAnew_5 rfl (lv_at hl 0 rfl) ?_
  refine lv_iconst (v := 0) hx hb dX0_beginAnew_6 (by decide) ?_
  refine wp_X0_1 hx hb hts iX0 hown hK hP hD hS 0 rfl k2 (Nat.le_of_ble_eq_true rfl) dX0_beginAnew_7 (ws' := affW c a (va_up (va_up σ 0 (fun _ => 0)) 1 (fun _ => 0))) rfl (fun H locs hP hD hS => ?_)
  refine lv_aload_n hx hb dX0_beginAnew_10 rfl (lv_at hl 0 rfl) ?_
  refine lv_iconst (v := 0) hx hb dX0_beginAnew_11 (by decide) ?_
  refine wp_X0_2 hx hb hts iX0 hown hK hP hD hS 0 rfl k3 (Nat.le_of_ble_eq_true rfl) dX0_beginAnew_12 (ws' := affW c a (va_up (va_up (va_up σ 0 (fun _ => 0)) 1 (fun _ => 0)) 2 (fun _ => 0))) rfl (fun H locs hP hD hS => ?_)
  refine lv_aload_n hx hb dX0_beginAnew_15 rfl (lv_at hl 0 rfl) ?_
  refine lv_iconst (v := 0) hx hb dX0_beginAnew_16 (by decide) ?_
  refine wp_X0_3 hx hb hts iX0 hown hK hP hD hS 0 rfl k4 (Nat.le_of_ble_eq_true rfl) dX0_beginAnew_17 (ws' := affW c a (va_up (va_up (va_up (va_up σ 0 (fun _ => 0)) 1 (fun _ => 0)) 2 (fun _ => 0)) 3 (fun _ => 0))) rfl (fun H locs hP hD hS => ?_)
  refine lv_iconst (v := 0) hx hb dX0_beginAnew_20 (by decide) ?_
  refine lv_istore_n (lv' := [(1, .int 0), (0, .ref (a 0))]) hx hb dX0_beginAnew_21 rfl hl (by decide) rfl (fun ls hl => ?_)
  have lp22 : ∀ (n : Nat) (i : Nat), (i ≤ 6) → 6 - i < n → ∀ (H : Heap) (locs : List Loc), va_P D vwCl (affW c a (anewL σ i)) H → va_D A (affW c a (anewL σ i)) → va_S A H0 H locs → ∀ ls : Array Slot, lv_has ls 2 [(0, .ref (a 0)), (1, .int (nI i))] → W pr l ev rmX0_beginAnew ss mm args below meth cd H locs 0 0 Q (F0 mm 22 ls []) := by
    intro n
    induction n with
    | zero => intro i hi hn; exact absurd hn (Nat.not_lt_zero _)
    | succ n ih =>
      intro i hi hn H locs hP hD hS ls hl
      refine lv_iload_n hx hb dX0_beginAnew_22 rfl (lv_at hl 1 rfl) ?_
      refine lv_bipush (v := 6) hx hb dX0_beginAnew_23 (by decide) ?_
      refine wk_ge (tgt := 41) hx hb i 6 rfl rfl (by omega) (by omega) dX0_beginAnew_25 (by decide) (fun h1 => ?_) (fun h1 => ?_)
      · have eg2 : anewL σ i = anewL σ 6 := by rw [show i = 6 by omega]
        have hP : va_P D vwCl (affW c a (anewL σ 6)) H := by rw [← eg2]; exact hP
        have hD : va_D A (affW c a (anewL σ 6)) := by rw [← eg2]; exact hD
        exact ret 41 ls H _ hP hS dX0_beginAnew_41
      refine lv_aload_n hx hb dX0_beginAnew_28 rfl (lv_at hl 0 rfl) ?_
      refine wg_X0_4 hx hb hts iX0 hown hK hP 0 rfl k5 rfl dX0_beginAnew_29 ?_
      refine lv_iload_n hx hb dX0_beginAnew_32 rfl (lv_at hl 1 rfl) ?_
      refine lv_iconst (v := 0) hx hb dX0_beginAnew_33 (by decide) ?_
      refine wk_ast hx hb hK hP hD hS 1 0 rfl rfl i rfl (by omega) (by decide) dX0_beginAnew_34 (ws' := affW c a (va_up (anewL σ i) 4 (upd ((anewL σ i) 4) i 0))) rfl (fun H locs hP hD hS => ?_)
      refine lv_iinc (v := nI (i + 1)) (lv' := [(1, .int (nI (i + 1))), (0, .ref (a 0))]) hx hb dX0_beginAnew_35 hl (k := 1) rfl (nI_inc i 1) (by decide) rfl (fun ls hl => ?_)
      refine lv_goto (tgt := 22) hx hb dX0_beginAnew_38 (by decide) ?_
      have eg3 : va_up (anewL σ i) 4 (upd ((anewL σ i) 4) i 0) = anewL σ (i + 1) := by first | exact anewL_0 σ | exact anewL_s σ i | rfl
      have hP : va_P D vwCl (affW c a (anewL σ (i + 1))) H := by rw [← eg3]; exact hP
      have hD : va_D A (affW c a (anewL σ (i + 1))) := by rw [← eg3]; exact hD
      have hl : lv_has ls 2 [(0, .ref (a 0)), (1, .int (nI (i + 1)))] := lv_sub hl [1, 0] rfl
      exact ih (i + 1) (by omega) (by omega) H _ hP hD hS ls hl
  have eg4 : va_up (va_up (va_up (va_up σ 0 (fun _ => 0)) 1 (fun _ => 0)) 2 (fun _ => 0)) 3 (fun _ => 0) = anewL σ 0 := by first | exact anewL_0 σ | exact anewL_s σ i | rfl
  have hP : va_P D vwCl (affW c a (anewL σ 0)) H := by rw [← eg4]; exact hP
  have hD : va_D A (affW c a (anewL σ 0)) := by rw [← eg4]; exact hD
  have hl : lv_has ls 2 [(0, .ref (a 0)), (1, .int 0)] := lv_sub hl [1, 0] rfl
  have hl := wk_lset (y := nI 0) (lv_sub (l' := [(1, .int 0), (0, .ref (a 0))]) hl [1, 0] rfl) (by first | exact anewL_0 σ | exact anewL_s σ i | rfl)
  have hl : lv_has ls 2 [(0, .ref (a 0)), (1, .int (nI 0))] := lv_sub hl [1, 0] rfl
  exact lp22 _ 0 (by omega) (Nat.lt_succ_self _) H locs hP hD hS ls hl

abbrev rmX0_copy : Room := { frames := 1, cells := 0, slots := 0, locals := 64 }
theorem hd_X0_copy : yX0_copy.cls = RX0 ∧ yX0_copy.cls ≠ "java/lang/invoke/MethodHandle" ∧ yX0_copy.cls ≠ "java/lang/invoke/VarHandle" ∧ (parseMethodDescriptor yX0_copy.desc).map (fun d => d.parameters.length) = some 1 := by decide +kernel
set_option maxHeartbeats 4000000 in
set_option maxRecDepth 100000 in
theorem c_X0_copy (l : Launch) (D : va_G) (c : Nat → ClassId) (a : Nat → Nat) (σ : Nat → Nat → Int32) (b : Nat → Nat) (τ : Nat → Nat → Int32) : wk_UpV l yX0_copy wsX0_copy rmX0_copy D (tysL c) [.ref (a 0), .ref (b 0)] (affW c a σ ++ affW c b τ) (affW c a τ ++ affW c b τ) := by
  refine wk_mkV (cc := cX0_copy) (maxL := 2) (by decide) rfl (Nat.le_of_ble_eq_true rfl) ?_
  intro A pr ev ss mm args below meth cd ls H H0 Q hst hP hK hD hS hA hl ret
  obtain ⟨hx, hb, hml, hown, hts, -⟩ := hst
  have hown : ss.vm.findClass RX0 = some mm.cls := hown
  have hl : lv_has ls 2 [(0, .ref (a 0)), (1, .ref (b 0))] := hl
  have k1 := hts (.fieldLink RX0 33 "LastWord$Affairs" "today" "I") (List.mem_of_getElem? (i := 1) rfl)
  have k2 := hts (.fieldLink RX0 37 "LastWord$Affairs" "letters" "I") (List.mem_of_getElem? (i := 2) rfl)
  have k3 := hts (.fieldLink RX0 40 "LastWord$Affairs" "quarrels" "I") (List.mem_of_getElem? (i := 3) rfl)
  have k4 := hts (.fieldLink RX0 43 "LastWord$Affairs" "laid" "I") (List.mem_of_getElem? (i := 4) rfl)
  have k5 := hts (.fieldLink RX0 9 "LastWord$Affairs" "lateTimes" "[I") (List.mem_of_getElem? (i := 5) rfl)
  have k6 := hts (.methodLink RX0 46 arraycopyName) (List.mem_of_getElem? (i := 6) rfl)
  have k7 := hts (.native arraycopyName) (List.mem_of_getElem? (i := 7) rfl)
  have k8 := hts (.static arraycopyName) (List.mem_of_getElem? (i := 8) rfl)
  have k9 := hts (.initialized "java/lang/System") (List.mem_of_getElem? (i := 9) rfl)
  have k10 := hts (.fieldLink RX0 15 "LastWord$Affairs" "author" "[I") (List.mem_of_getElem? (i := 10) rfl)
  have k11 := hts (.fieldLink RX0 18 "LastWord$Affairs" "subject" "[I") (List.mem_of_getElem? (i := 11) rfl)
  have k12 := hts (.fieldLink RX0 21 "LastWord$Affairs" "printedOn" "[I") (List.mem_of_getElem? (i := 12) rfl)
  have k13 := hts (.fieldLink RX0 24 "LastWord$Affairs" "owes" "[I") (List.mem_of_getElem? (i := 13) rfl)
  have k14 := hts (.fieldLink RX0 27 "LastWord$Affairs" "work" "[I") (List.mem_of_getElem? (i := 14) rfl)
  have k15 := hts (.fieldLink RX0 30 "LastWord$Affairs" "late" "[I") (List.mem_of_getElem? (i := 15) rfl)
  have iX0 : ∀ w ∈ u_ws RX0 TX0 11, w ∈ wsX0_copy := fun _ h => (List.mem_cons_of_mem _ (List.mem_append_right _ h))
  refine lv_aload_n hx hb dX0_copy_0 rfl (lv_at hl 0 rfl) ?_
  refine lv_aload_n hx hb dX0_copy_1 rfl (lv_at hl 1 rfl) ?_
  refine wg_X0_0 hx hb hts iX0 hown hK hP 8 rfl k1 rfl dX0_copy_2 ?_
  refine wp_X0_0 hx hb hts iX0 hown hK hP hD hS 0 rfl k1 (Nat.le_of_ble_eq_true rfl) dX0_copy_5 (ws' := affW c a (va_up σ 0 (fun _ => τ 0 0)) ++ affW c b τ) rfl (fun H locs hP hD hS => ?_)
  refine lv_aload_n hx hb dX0_copy_8 rfl (lv_at hl 0 rfl) ?_
  refine lv_aload_n hx hb dX0_copy_9 rfl (lv_at hl 1 rfl) ?_
  refine wg_X0_1 hx hb hts iX0 hown hK hP 8 rfl k2 rfl dX0_copy_10 ?_
  refine wp_X0_1 hx hb hts iX0 hown hK hP hD hS 0 rfl k2 (Nat.le_of_ble_eq_true rfl) dX0_copy_13 (ws' := affW c a (va_up (va_up σ 0 (fun _ => τ 0 0)) 1 (fun _ => τ 1 0)) ++ affW c b τ) rfl (fun H locs hP hD hS => ?_)
  refine lv_aload_n hx hb dX0_copy_16 rfl (lv_at hl 0 rfl) ?_
  refine lv_aload_n hx hb dX0_copy_17 rfl (lv_at hl 1 rfl) ?_
  refine wg_X0_2 hx hb hts iX0 hown hK hP 8 rfl k3 rfl dX0_copy_18 ?_
  refine wp_X0_2 hx hb hts iX0 hown hK hP hD hS 0 rfl k3 (Nat.le_of_ble_eq_true rfl) dX0_copy_21 (ws' := affW c a (va_up (va_up (va_up σ 0 (fun _ => τ 0 0)) 1 (fun _ => τ 1 0)) 2 (fun _ => τ 2 0)) ++ affW c b τ) rfl (fun H locs hP hD hS => ?_)
  refine lv_aload_n hx hb dX0_copy_24 rfl (lv_at hl 0 rfl) ?_
  refine lv_aload_n hx hb dX0_copy_25 rfl (lv_at hl 1 rfl) ?_
  refine wg_X0_3 hx hb hts iX0 hown hK hP 8 rfl k4 rfl dX0_copy_26 ?_
  refine wp_X0_3 hx hb hts iX0 hown hK hP hD hS 0 rfl k4 (Nat.le_of_ble_eq_true rfl) dX0_copy_29 (ws' := affW c a (va_up (va_up (va_up (va_up σ 0 (fun _ => τ 0 0)) 1 (fun _ => τ 1 0)) 2 (fun _ => τ 2 0)) 3 (fun _ => τ 3 0)) ++ affW c b τ) rfl (fun H locs hP hD hS => ?_)
  refine lv_aload_n hx hb dX0_copy_32 rfl (lv_at hl 1 rfl) ?_
  refine wg_X0_4 hx hb hts iX0 hown hK hP 8 rfl k5 rfl dX0_copy_33 ?_
  refine lv_iconst (v := 0) hx hb dX0_copy_36 (by decide) ?_
  refine lv_aload_n hx hb dX0_copy_37 rfl (lv_at hl 0 rfl) ?_
  refine wg_X0_4 hx hb hts iX0 hown hK hP 0 rfl k5 rfl dX0_copy_38 ?_
  refine lv_iconst (v := 0) hx hb dX0_copy_41 (by decide) ?_
  refine lv_bipush (v := 6) hx hb dX0_copy_42 (by decide) ?_
  refine wk_cpy hx hb (by rw [hml]; exact hl.1.symm) hown k6 k7 k8 k9 hK hP hD hS 9 1 rfl rfl rfl (Nat.le_of_ble_eq_true rfl) (by decide) dX0_copy_44 (ws' := affW c a (va_up (va_up (va_up (va_up (va_up σ 0 (fun _ => τ 0 0)) 1 (fun _ => τ 1 0)) 2 (fun _ => τ 2 0)) 3 (fun _ => τ 3 0)) 4 (τ 4)) ++ affW c b τ) rfl (fun H locs hP hD hS => ?_)
  refine lv_aload_n hx hb dX0_copy_47 rfl (lv_at hl 1 rfl) ?_
  refine wg_X0_5 hx hb hts iX0 hown hK hP 8 rfl k10 rfl dX0_copy_48 ?_
  refine lv_iconst (v := 0) hx hb dX0_copy_51 (by decide) ?_
  refine lv_aload_n hx hb dX0_copy_52 rfl (lv_at hl 0 rfl) ?_
  refine wg_X0_5 hx hb hts iX0 hown hK hP 0 rfl k10 rfl dX0_copy_53 ?_
  refine lv_iconst (v := 0) hx hb dX0_copy_56 (by decide) ?_
  refine lv_bipush (v := 6) hx hb dX0_copy_57 (by decide) ?_
  refine wk_cpy hx hb (by rw [hml]; exact hl.1.symm) hown k6 k7 k8 k9 hK hP hD hS 10 2 rfl rfl rfl (Nat.le_of_ble_eq_true rfl) (by decide) dX0_copy_59 (ws' := affW c a (va_up (va_up (va_up (va_up (va_up (va_up σ 0 (fun _ => τ 0 0)) 1 (fun _ => τ 1 0)) 2 (fun _ => τ 2 0)) 3 (fun _ => τ 3 0)) 4 (τ 4)) 5 (τ 5)) ++ affW c b τ) rfl (fun H locs hP hD hS => ?_)
  refine lv_aload_n hx hb dX0_copy_62 rfl (lv_at hl 1 rfl) ?_
  refine wg_X0_6 hx hb hts iX0 hown hK hP 8 rfl k11 rfl dX0_copy_63 ?_
  refine lv_iconst (v := 0) hx hb dX0_copy_66 (by decide) ?_
  refine lv_aload_n hx hb dX0_copy_67 rfl (lv_at hl 0 rfl) ?_
  refine wg_X0_6 hx hb hts iX0 hown hK hP 0 rfl k11 rfl dX0_copy_68 ?_
  refine lv_iconst (v := 0) hx hb dX0_copy_71 (by decide) ?_
  refine lv_bipush (v := 6) hx hb dX0_copy_72 (by decide) ?_
  refine wk_cpy hx hb (by rw [hml]; exact hl.1.symm) hown k6 k7 k8 k9 hK hP hD hS 11 3 rfl rfl rfl (Nat.le_of_ble_eq_true rfl) (by decide) dX0_copy_74 (ws' := affW c a (va_up (va_up (va_up (va_up (va_up (va_up (va_up σ 0 (fun _ => τ 0 0)) 1 (fun _ => τ 1 0)) 2 (fun _ => τ 2 0)) 3 (fun _ => τ 3 0)) 4 (τ 4)) 5 (τ 5)) 6 (τ 6)) ++ affW c b τ) rfl (fun H locs hP hD hS => ?_)
  refine lv_aload_n hx hb dX0_copy_77 rfl (lv_at hl 1 rfl) ?_
  refine wg_X0_7 hx hb hts iX0 hown hK hP 8 rfl k12 rfl dX0_copy_78 ?_
  refine lv_iconst (v := 0) hx hb dX0_copy_81 (by decide) ?_
  refine lv_aload_n hx hb dX0_copy_82 rfl (lv_at hl 0 rfl) ?_
  refine wg_X0_7 hx hb hts iX0 hown hK hP 0 rfl k12 rfl dX0_copy_83 ?_
  refine lv_iconst (v := 0) hx hb dX0_copy_86 (by decide) ?_
  refine lv_bipush (v := 6) hx hb dX0_copy_87 (by decide) ?_
  refine wk_cpy hx hb (by rw [hml]; exact hl.1.symm) hown k6 k7 k8 k9 hK hP hD hS 12 4 rfl rfl rfl (Nat.le_of_ble_eq_true rfl) (by decide) dX0_copy_89 (ws' := affW c a (va_up (va_up (va_up (va_up (va_up (va_up (va_up (va_up σ 0 (fun _ => τ 0 0)) 1 (fun _ => τ 1 0)) 2 (fun _ => τ 2 0)) 3 (fun _ => τ 3 0)) 4 (τ 4)) 5 (τ 5)) 6 (τ 6)) 7 (τ 7)) ++ affW c b τ) rfl (fun H locs hP hD hS => ?_)
  refine lv_aload_n hx hb dX0_copy_92 rfl (lv_at hl 1 rfl) ?_
  refine wg_X0_8 hx hb hts iX0 hown hK hP 8 rfl k13 rfl dX0_copy_93 ?_
  refine lv_iconst (v := 0) hx hb dX0_copy_96 (by decide) ?_
  refine lv_aload_n hx hb dX0_copy_97 rfl (lv_at hl 0 rfl) ?_
  refine wg_X0_8 hx hb hts iX0 hown hK hP 0 rfl k13 rfl dX0_copy_98 ?_
  refine lv_iconst (v := 0) hx hb dX0_copy_101 (by decide) ?_
  refine lv_bipush (v := 6) hx hb dX0_copy_102 (by decide) ?_
  refine wk_cpy hx hb (by rw [hml]; exact hl.1.symm) hown k6 k7 k8 k9 hK hP hD hS 13 5 rfl rfl rfl (Nat.le_of_ble_eq_true rfl) (by decide) dX0_copy_104 (ws' := affW c a (va_up (va_up (va_up (va_up (va_up (va_up (va_up (va_up (va_up σ 0 (fun _ => τ 0 0)) 1 (fun _ => τ 1 0)) 2 (fun _ => τ 2 0)) 3 (fun _ => τ 3 0)) 4 (τ 4)) 5 (τ 5)) 6 (τ 6)) 7 (τ 7)) 8 (τ 8)) ++ affW c b τ) rfl (fun H locs hP hD hS => ?_)
  refine lv_aload_n hx hb dX0_copy_107 rfl (lv_at hl 1 rfl) ?_
  refine wg_X0_9 hx hb hts iX0 hown hK hP 8 rfl k14 rfl dX0_copy_108 ?_
  refine lv_iconst (v := 0) hx hb dX0_copy_111 (by decide) ?_
  refine lv_aload_n hx hb dX0_copy_112 rfl (lv_at hl 0 rfl) ?_
  refine wg_X0_9 hx hb hts iX0 hown hK hP 0 rfl k14 rfl dX0_copy_113 ?_
  refine lv_iconst (v := 0) hx hb dX0_copy_116 (by decide) ?_
  refine lv_bipush (v := 6) hx hb dX0_copy_117 (by decide) ?_
  refine wk_cpy hx hb (by rw [hml]; exact hl.1.symm) hown k6 k7 k8 k9 hK hP hD hS 14 6 rfl rfl rfl (Nat.le_of_ble_eq_true rfl) (by decide) dX0_copy_119 (ws' := affW c a (va_up (va_up (va_up (va_up (va_up (va_up (va_up (va_up (va_up (va_up σ 0 (fun _ => τ 0 0)) 1 (fun _ => τ 1 0)) 2 (fun _ => τ 2 0)) 3 (fun _ => τ 3 0)) 4 (τ 4)) 5 (τ 5)) 6 (τ 6)) 7 (τ 7)) 8 (τ 8)) 9 (τ 9)) ++ affW c b τ) rfl (fun H locs hP hD hS => ?_)
  refine lv_aload_n hx hb dX0_copy_122 rfl (lv_at hl 1 rfl) ?_
  refine wg_X0_10 hx hb hts iX0 hown hK hP 8 rfl k15 rfl dX0_copy_123 ?_
  refine lv_iconst (v := 0) hx hb dX0_copy_126 (by decide) ?_
  refine lv_aload_n hx hb dX0_copy_127 rfl (lv_at hl 0 rfl) ?_
  refine wg_X0_10 hx hb hts iX0 hown hK hP 0 rfl k15 rfl dX0_copy_128 ?_
  refine lv_iconst (v := 0) hx hb dX0_copy_131 (by decide) ?_
  refine lv_bipush (v := 6) hx hb dX0_copy_132 (by decide) ?_
  refine wk_cpy hx hb (by rw [hml]; exact hl.1.symm) hown k6 k7 k8 k9 hK hP hD hS 15 7 rfl rfl rfl (Nat.le_of_ble_eq_true rfl) (by decide) dX0_copy_134 (ws' := affW c a (va_up (va_up (va_up (va_up (va_up (va_up (va_up (va_up (va_up (va_up (va_up σ 0 (fun _ => τ 0 0)) 1 (fun _ => τ 1 0)) 2 (fun _ => τ 2 0)) 3 (fun _ => τ 3 0)) 4 (τ 4)) 5 (τ 5)) 6 (τ 6)) 7 (τ 7)) 8 (τ 8)) 9 (τ 9)) 10 (τ 10)) ++ affW c b τ) rfl (fun H locs hP hD hS => ?_)
  exact ret 137 ls H _ hP hS dX0_copy_137

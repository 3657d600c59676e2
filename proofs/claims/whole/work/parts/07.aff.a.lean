abbrev rmJ6_bitCount_0f7a4 : Room := { frames := 0, cells := 0, slots := 0, locals := 0 }
theorem hd_J6_bitCount_0f7a4 : yJ6_bitCount_0f7a4.cls ≠ "java/lang/invoke/MethodHandle" ∧ yJ6_bitCount_0f7a4.cls ≠ "java/lang/invoke/VarHandle" ∧ (parseMethodDescriptor yJ6_bitCount_0f7a4.desc).map (fun d => d.parameters.length) = some 1 := by decide +kernel
set_option maxHeartbeats 4000000 in
set_option maxRecDepth 100000 in
theorem c_J6_bitCount_0f7a4 (l : Launch) (D : va_G) (c : Nat → ClassId) (x : Int32) : wk_RdI l yJ6_bitCount_0f7a4 wsJ6_bitCount_0f7a4 rmJ6_bitCount_0f7a4 D (tysL c) [.int x] ([]) (bcF x) := by
  refine wk_mkR (cc := cJ6_bitCount_0f7a4) (maxL := 1) (rt := .int) (by decide) rfl (Nat.le_of_ble_eq_true rfl) rfl ?_
  intro pr ev ss mm args below meth cd ls H Q hst hP hK hl ret
  obtain ⟨hx, hb, hml, hown, hts, -⟩ := hst
  have hown : ss.vm.findClass RJ6 = some mm.cls := hown
  have hl : lv_has ls 1 [(0, .int x)] := hl
  have k1 := hts (.constant RJ6 265 (1431655765)) (List.mem_of_getElem? (i := 1) rfl)
  have k2 := hts (.constant RJ6 266 (858993459)) (List.mem_of_getElem? (i := 2) rfl)
  have k3 := hts (.constant RJ6 267 (252645135)) (List.mem_of_getElem? (i := 3) rfl)
  refine lv_iload_n hx hb dJ6_bitCount_0f7a4_0 rfl (lv_at hl 0 rfl) ?_
  refine lv_iload_n hx hb dJ6_bitCount_0f7a4_1 rfl (lv_at hl 0 rfl) ?_
  refine lv_iconst (v := 1) hx hb dJ6_bitCount_0f7a4_2 (by decide) ?_
  refine lv_iushr (v := ushF x 1) hx hb dJ6_bitCount_0f7a4_3 rfl ?_
  refine lv_ldcw hx hb hown k1 dJ6_bitCount_0f7a4_4 ?_
  refine lv_iand hx hb dJ6_bitCount_0f7a4_7 ?_
  refine lv_isub hx hb dJ6_bitCount_0f7a4_8 ?_
  refine wk_eqi (y := bc1 x) rfl ?_
  refine lv_istore_n (lv' := [(0, .int (bc1 x))]) hx hb dJ6_bitCount_0f7a4_9 rfl hl (by decide) rfl (fun ls hl => ?_)
  refine lv_iload_n hx hb dJ6_bitCount_0f7a4_10 rfl (lv_at hl 0 rfl) ?_
  refine lv_ldcw hx hb hown k2 dJ6_bitCount_0f7a4_11 ?_
  refine lv_iand hx hb dJ6_bitCount_0f7a4_14 ?_
  refine lv_iload_n hx hb dJ6_bitCount_0f7a4_15 rfl (lv_at hl 0 rfl) ?_
  refine lv_iconst (v := 2) hx hb dJ6_bitCount_0f7a4_16 (by decide) ?_
  refine lv_iushr (v := ushF (bc1 x) 2) hx hb dJ6_bitCount_0f7a4_17 rfl ?_
  refine lv_ldcw hx hb hown k2 dJ6_bitCount_0f7a4_18 ?_
  refine lv_iand hx hb dJ6_bitCount_0f7a4_21 ?_
  refine lv_iadd hx hb dJ6_bitCount_0f7a4_22 ?_
  refine wk_eqi (y := bc2 (bc1 x)) rfl ?_
  refine lv_istore_n (lv' := [(0, .int (bc2 (bc1 x)))]) hx hb dJ6_bitCount_0f7a4_23 rfl hl (by decide) rfl (fun ls hl => ?_)
  refine lv_iload_n hx hb dJ6_bitCount_0f7a4_24 rfl (lv_at hl 0 rfl) ?_
  refine lv_iload_n hx hb dJ6_bitCount_0f7a4_25 rfl (lv_at hl 0 rfl) ?_
  refine lv_iconst (v := 4) hx hb dJ6_bitCount_0f7a4_26 (by decide) ?_
  refine lv_iushr (v := ushF (bc2 (bc1 x)) 4) hx hb dJ6_bitCount_0f7a4_27 rfl ?_
  refine lv_iadd hx hb dJ6_bitCount_0f7a4_28 ?_
  refine lv_ldcw hx hb hown k3 dJ6_bitCount_0f7a4_29 ?_
  refine lv_iand hx hb dJ6_bitCount_0f7a4_32 ?_
  refine wk_eqi (y := bc3 (bc2 (bc1 x))) rfl ?_
  refine lv_istore_n (lv' := [(0, .int (bc3 (bc2 (bc1 x))))]) hx hb dJ6_bitCount_0f7a4_33 rfl hl (by decide) rfl (fun ls hl => ?_)
  refine lv_iload_n hx hb dJ6_bitCount_0f7a4_34 rfl (lv_at hl 0 rfl) ?_
  refine lv_iload_n hx hb dJ6_bitCount_0f7a4_35 rfl (lv_at hl 0 rfl) ?_
  refine lv_bipush (v := 8) hx hb dJ6_bitCount_0f7a4_36 (by decide) ?_
  refine lv_iushr (v := ushF (bc3 (bc2 (bc1 x))) 8) hx hb dJ6_bitCount_0f7a4_38 rfl ?_
  refine lv_iadd hx hb dJ6_bitCount_0f7a4_39 ?_
  refine wk_eqi (y := bc4 (bc3 (bc2 (bc1 x)))) rfl ?_
  refine lv_istore_n (lv' := [(0, .int (bc4 (bc3 (bc2 (bc1 x)))))]) hx hb dJ6_bitCount_0f7a4_40 rfl hl (by decide) rfl (fun ls hl => ?_)
  refine lv_iload_n hx hb dJ6_bitCount_0f7a4_41 rfl (lv_at hl 0 rfl) ?_
  refine lv_iload_n hx hb dJ6_bitCount_0f7a4_42 rfl (lv_at hl 0 rfl) ?_
  refine lv_bipush (v := 16) hx hb dJ6_bitCount_0f7a4_43 (by decide) ?_
  refine lv_iushr (v := ushF (bc4 (bc3 (bc2 (bc1 x)))) 16) hx hb dJ6_bitCount_0f7a4_45 rfl ?_
  refine lv_iadd hx hb dJ6_bitCount_0f7a4_46 ?_
  refine wk_eqi (y := bc5 (bc4 (bc3 (bc2 (bc1 x))))) rfl ?_
  refine lv_istore_n (lv' := [(0, .int (bc5 (bc4 (bc3 (bc2 (bc1 x))))))]) hx hb dJ6_bitCount_0f7a4_47 rfl hl (by decide) rfl (fun ls hl => ?_)
  refine lv_iload_n hx hb dJ6_bitCount_0f7a4_48 rfl (lv_at hl 0 rfl) ?_
  refine lv_bipush (v := 63) hx hb dJ6_bitCount_0f7a4_49 (by decide) ?_
  refine lv_iand hx hb dJ6_bitCount_0f7a4_51 ?_
  exact ret 52 ls ((bc5 (bc4 (bc3 (bc2 (bc1 x))))) &&& 63) (by rfl) dJ6_bitCount_0f7a4_52

abbrev rmX0_copy : Room := { frames := 1, cells := 0, slots := 0, locals := 64 }
theorem hd_X0_copy : yX0_copy.cls = RX0 ∧ yX0_copy.cls ≠ "java/lang/invoke/MethodHandle" ∧ yX0_copy.cls ≠ "java/lang/invoke/VarHandle" ∧ (parseMethodDescriptor yX0_copy.desc).map (fun d => d.parameters.length) = some 1 := by decide +kernel
set_option maxHeartbeats 4000000 in
set_option maxRecDepth 100000 in
theorem c_X0_copy (l : Launch) (D : va_G) (c : Nat → ClassId) (a : Nat → Nat) (σ : Nat → Nat → Int32) (b : Nat → Nat) (τ : Nat → Nat → Int32) : wk_UpV l yX0_copy wsX0_copy rmX0_copy D (tysL c) [.ref (a 0), .ref (b 0)] (affW c a σ ++ affW c b τ) (affW c a τ ++ affW c b τ) := by
  refine wk_mkV (cc := cX0_copy) (maxL := 2) (by decide) rfl (Nat.le_of_ble_eq_true rfl) ?_
  intro A pr ev ss mm args below meth cd ls H H0 locs Q hst hP hK hD hS hA hl ret
  obtain ⟨hx, hb, hml, hown, hts, -⟩ := hst
  have hown : ss.vm.findClass RX0 = some mm.cls := hown
  have hl : lv_has ls 2 [(0, .ref (a 0)), (1, .ref (b 0))] := hl
  have k1 := hts (.fieldLink RX0 33 "LastWord$Affairs" "today" "I") (List.mem_of_getElem? (i := 1) rfl)
  have k2 := hts (.fieldLink RX0 37 "LastWord$Affairs" "letters" "I") (List.mem_of_getElem? (i := 2) rfl)
  have k3 := hts (.fieldLink RX0 40 "LastWord$Affairs" "quarrels" "I") (List.mem_of_getElem? (i := 3) rfl)
  have k4 := hts (.fieldLink RX0 43 "LastWord$Affairs" "laid" "I") (List.mem_of_getElem? (i := 4) rfl)
  have k5 := hts (.fieldLink RX0 9 "LastWord$Affairs" "lateTimes" "[I") (List.mem_of_getElem? (i := 5) rfl)
  have k6 := hts (.methodLink RX0 46 arraycopyName) (List.mem_of_getElem? (i := 6) rfl)
  have k7 := hts (.native arraycopyName) (List.mem_of_getElem? (i := 7) rfl)
  have k8 := hts (.static arraycopyName) (List.mem_of_getElem? (i := 8) rfl)
  have k9 := hts (.initialized "java/lang/System") (List.mem_of_getElem? (i := 9) rfl)
  have k10 := hts (.fieldLink RX0 15 "LastWord$Affairs" "author" "[I") (List.mem_of_getElem? (i := 10) rfl)
  have k11 := hts (.fieldLink RX0 18 "LastWord$Affairs" "subject" "[I") (List.mem_of_getElem? (i := 11) rfl)
  have k12 := hts (.fieldLink RX0 21 "LastWord$Affairs" "printedOn" "[I") (List.mem_of_getElem? (i := 12) rfl)
  have k13 := hts (.fieldLink RX0 24 "LastWord$Affairs" "owes" "[I") (List.mem_of_getElem? (i := 13) rfl)
  have k14 := hts (.fieldLink RX0 27 "LastWord$Affairs" "work" "[I") (List.mem_of_getElem? (i := 14) rfl)
  have k15 := hts (.fieldLink RX0 30 "LastWord$Affairs" "late" "[I") (List.mem_of_getElem? (i := 15) rfl)
  have iX0 : ∀ w ∈ u_ws RX0 TX0 11, w ∈ wsX0_copy := fun _ h => (List.mem_cons_of_mem _ (List.mem_append_right _ h))
  refine lv_aload_n hx hb dX0_copy_0 rfl (lv_at hl 0 rfl) ?_
  refine lv_aload_n hx hb dX0_copy_1 rfl (lv_at hl 1 rfl) ?_
  refine wg_X0_0 hx hb hts iX0 hown hK hP 8 rfl k1 (v := .int (τ 0 0)) rfl dX0_copy_2 ?_
  refine wp_X0_0 hx hb hts iX0 hown hK hP hD hS 0 rfl k1 (Nat.le_of_ble_eq_true rfl) dX0_copy_5 (ws' := affW c a (va_up σ 0 (fun _ => τ 0 0)) ++ affW c b τ) rfl (fun H locs hP hD hS => ?_)
  refine lv_aload_n hx hb dX0_copy_8 rfl (lv_at hl 0 rfl) ?_
  refine lv_aload_n hx hb dX0_copy_9 rfl (lv_at hl 1 rfl) ?_
  refine wg_X0_1 hx hb hts iX0 hown hK hP 8 rfl k2 (v := .int (τ 1 0)) rfl dX0_copy_10 ?_
  refine wp_X0_1 hx hb hts iX0 hown hK hP hD hS 0 rfl k2 (Nat.le_of_ble_eq_true rfl) dX0_copy_13 (ws' := affW c a (va_up (va_up σ 0 (fun _ => τ 0 0)) 1 (fun _ => τ 1 0)) ++ affW c b τ) rfl (fun H locs hP hD hS => ?_)
  refine lv_aload_n hx hb dX0_copy_16 rfl (lv_at hl 0 rfl) ?_
  refine lv_aload_n hx hb dX0_copy_17 rfl (lv_at hl 1 rfl) ?_
  refine wg_X0_2 hx hb hts iX0 hown hK hP 8 rfl k3 (v := .int (τ 2 0)) rfl dX0_copy_18 ?_
  refine wp_X0_2 hx hb hts iX0 hown hK hP hD hS 0 rfl k3 (Nat.le_of_ble_eq_true rfl) dX0_copy_21 (ws' := affW c a (va_up (va_up (va_up σ 0 (fun _ => τ 0 0)) 1 (fun _ => τ 1 0)) 2 (fun _ => τ 2 0)) ++ affW c b τ) rfl (fun H locs hP hD hS => ?_)
  refine lv_aload_n hx hb dX0_copy_24 rfl (lv_at hl 0 rfl) ?_
  refine lv_aload_n hx hb dX0_copy_25 rfl (lv_at hl 1 rfl) ?_
  refine wg_X0_3 hx hb hts iX0 hown hK hP 8 rfl k4 (v := .int (τ 3 0)) rfl dX0_copy_26 ?_
  refine wp_X0_3 hx hb hts iX0 hown hK hP hD hS 0 rfl k4 (Nat.le_of_ble_eq_true rfl) dX0_copy_29 (ws' := affW c a (va_up (va_up (va_up (va_up σ 0 (fun _ => τ 0 0)) 1 (fun _ => τ 1 0)) 2 (fun _ => τ 2 0)) 3 (fun _ => τ 3 0)) ++ affW c b τ) rfl (fun H locs hP hD hS => ?_)
  refine lv_aload_n hx hb dX0_copy_32 rfl (lv_at hl 1 rfl) ?_
  refine wg_X0_4 hx hb hts iX0 hown hK hP 8 rfl k5 (v := .ref (b 4)) rfl dX0_copy_33 ?_
  refine lv_iconst (v := 0) hx hb dX0_copy_36 (by decide) ?_
  refine lv_aload_n hx hb dX0_copy_37 rfl (lv_at hl 0 rfl) ?_
  refine wg_X0_4 hx hb hts iX0 hown hK hP 0 rfl k5 (v := .ref (a 4)) rfl dX0_copy_38 ?_
  refine lv_iconst (v := 0) hx hb dX0_copy_41 (by decide) ?_
  refine lv_bipush (v := 6) hx hb dX0_copy_42 (by decide) ?_
  refine wk_cpy hx hb (by rw [hml]; exact hl.1.symm) hown k6 k7 k8 k9 hK hP hD hS 9 1 rfl rfl rfl (Nat.le_of_ble_eq_true rfl) (by decide) dX0_copy_44 (ws' := affW c a (va_up (va_up (va_up (va_up (va_up σ 0 (fun _ => τ 0 0)) 1 (fun _ => τ 1 0)) 2 (fun _ => τ 2 0)) 3 (fun _ => τ 3 0)) 4 (τ 4)) ++ affW c b τ) rfl (fun H locs hP hD hS => ?_)
  refine lv_aload_n hx hb dX0_copy_47 rfl (lv_at hl 1 rfl) ?_
  refine wg_X0_5 hx hb hts iX0 hown hK hP 8 rfl k10 (v := .ref (b 5)) rfl dX0_copy_48 ?_
  refine lv_iconst (v := 0) hx hb dX0_copy_51 (by decide) ?_
  refine lv_aload_n hx hb dX0_copy_52 rfl (lv_at hl 0 rfl) ?_
  refine wg_X0_5 hx hb hts iX0 hown hK hP 0 rfl k10 (v := .ref (a 5)) rfl dX0_copy_53 ?_
  refine lv_iconst (v := 0) hx hb dX0_copy_56 (by decide) ?_
  refine lv_bipush (v := 6) hx hb dX0_copy_57 (by decide) ?_
  refine wk_cpy hx hb (by rw [hml]; exact hl.1.symm) hown k6 k7 k8 k9 hK hP hD hS 10 2 rfl rfl rfl (Nat.le_of_ble_eq_true rfl) (by decide) dX0_copy_59 (ws' := affW c a (va_up (va_up (va_up (va_up (va_up (va_up σ 0 (fun _ => τ 0 0)) 1 (fun _ => τ 1 0)) 2 (fun _ => τ 2 0)) 3 (fun _ => τ 3 0)) 4 (τ 4)) 5 (τ 5)) ++ affW c b τ) rfl (fun H locs hP hD hS => ?_)
  refine lv_aload_n hx hb dX0_copy_62 rfl (lv_at hl 1 rfl) ?_
  refine wg_X0_6 hx hb hts iX0 hown hK hP 8 rfl k11 (v := .ref (b 6)) rfl dX0_copy_63 ?_
  refine lv_iconst (v := 0) hx hb dX0_copy_66 (by decide) ?_
  refine lv_aload_n hx hb dX0_copy_67 rfl (lv_at hl 0 rfl) ?_
  refine wg_X0_6 hx hb hts iX0 hown hK hP 0 rfl k11 (v := .ref (a 6)) rfl dX0_copy_68 ?_
  refine lv_iconst (v := 0) hx hb dX0_copy_71 (by decide) ?_
  refine lv_bipush (v := 6) hx hb dX0_copy_72 (by decide) ?_
  refine wk_cpy hx hb (by rw [hml]; exact hl.1.symm) hown k6 k7 k8 k9 hK hP hD hS 11 3 rfl rfl rfl (Nat.le_of_ble_eq_true rfl) (by decide) dX0_copy_74 (ws' := affW c a (va_up (va_up (va_up (va_up (va_up (va_up (va_up σ 0 (fun _ => τ 0 0)) 1 (fun _ => τ 1 0)) 2 (fun _ => τ 2 0)) 3 (fun _ => τ 3 0)) 4 (τ 4)) 5 (τ 5)) 6 (τ 6)) ++ affW c b τ) rfl (fun H locs hP hD hS => ?_)
  refine lv_aload_n hx hb dX0_copy_77 rfl (lv_at hl 1 rfl) ?_
  refine wg_X0_7 hx hb hts iX0 hown hK hP 8 rfl k12 (v := .ref (b 7)) rfl dX0_copy_78 ?_
  refine lv_iconst (v := 0) hx hb dX0_copy_81 (by decide) ?_
  refine lv_aload_n hx hb dX0_copy_82 rfl (lv_at hl 0 rfl) ?_
  refine wg_X0_7 hx hb hts iX0 hown hK hP 0 rfl k12 (v := .ref (a 7)) rfl dX0_copy_83 ?_
  refine lv_iconst (v := 0) hx hb dX0_copy_86 (by decide) ?_
  refine lv_bipush (v := 6) hx hb dX0_copy_87 (by decide) ?_
  refine wk_cpy hx hb (by rw [hml]; exact hl.1.symm) hown k6 k7 k8 k9 hK hP hD hS 12 4 rfl rfl rfl (Nat.le_of_ble_eq_true rfl) (by decide) dX0_copy_89 (ws' := affW c a (va_up (va_up (va_up (va_up (va_up (va_up (va_up (va_up σ 0 (fun _ => τ 0 0)) 1 (fun _ => τ 1 0)) 2 (fun _ => τ 2 0)) 3 (fun _ => τ 3 0)) 4 (τ 4)) 5 (τ 5)) 6 (τ 6)) 7 (τ 7)) ++ affW c b τ) rfl (fun H locs hP hD hS => ?_)
  refine lv_aload_n hx hb dX0_copy_92 rfl (lv_at hl 1 rfl) ?_
  refine wg_X0_8 hx hb hts iX0 hown hK hP 8 rfl k13 (v := .ref (b 8)) rfl dX0_copy_93 ?_
  refine lv_iconst (v := 0) hx hb dX0_copy_96 (by decide) ?_
  refine lv_aload_n hx hb dX0_copy_97 rfl (lv_at hl 0 rfl) ?_
  refine wg_X0_8 hx hb hts iX0 hown hK hP 0 rfl k13 (v := .ref (a 8)) rfl dX0_copy_98 ?_
  refine lv_iconst (v := 0) hx hb dX0_copy_101 (by decide) ?_
  refine lv_bipush (v := 6) hx hb dX0_copy_102 (by decide) ?_
  refine wk_cpy hx hb (by rw [hml]; exact hl.1.symm) hown k6 k7 k8 k9 hK hP hD hS 13 5 rfl rfl rfl (Nat.le_of_ble_eq_true rfl) (by decide) dX0_copy_104 (ws' := affW c a (va_up (va_up (va_up (va_up (va_up (va_up (va_up (va_up (va_up σ 0 (fun _ => τ 0 0)) 1 (fun _ => τ 1 0)) 2 (fun _ => τ 2 0)) 3 (fun _ => τ 3 0)) 4 (τ 4)) 5 (τ 5)) 6 (τ 6)) 7 (τ 7)) 8 (τ 8)) ++ affW c b τ) rfl (fun H locs hP hD hS => ?_)
  refine lv_aload_n hx hb dX0_copy_107 rfl (lv_at hl 1 rfl) ?_
  refine wg_X0_9 hx hb hts iX0 hown hK hP 8 rfl k14 (v := .ref (b 9)) rfl dX0_copy_108 ?_
  refine lv_iconst (v := 0) hx hb dX0_copy_111 (by decide) ?_
  refine lv_aload_n hx hb dX0_copy_112 rfl (lv_at hl 0 rfl) ?_
  refine wg_X0_9 hx hb hts iX0 hown hK hP 0 rfl k14 (v := .ref (a 9)) rfl dX0_copy_113 ?_
  refine lv_iconst (v := 0) hx hb dX0_copy_116 (by decide) ?_
  refine lv_bipush (v := 6) hx hb dX0_copy_117 (by decide) ?_
  refine wk_cpy hx hb (by rw [hml]; exact hl.1.symm) hown k6 k7 k8 k9 hK hP hD hS 14 6 rfl rfl rfl (Nat.le_of_ble_eq_true rfl) (by decide) dX0_copy_119 (ws' := affW c a (va_up (va_up (va_up (va_up (va_up (va_up (va_up (va_up (va_up (va_up σ 0 (fun _ => τ 0 0)) 1 (fun _ => τ 1 0)) 2 (fun _ => τ 2 0)) 3 (fun _ => τ 3 0)) 4 (τ 4)) 5 (τ 5)) 6 (τ 6)) 7 (τ 7)) 8 (τ 8)) 9 (τ 9)) ++ affW c b τ) rfl (fun H locs hP hD hS => ?_)
  refine lv_aload_n hx hb dX0_copy_122 rfl (lv_at hl 1 rfl) ?_
  refine wg_X0_10 hx hb hts iX0 hown hK hP 8 rfl k15 (v := .ref (b 10)) rfl dX0_copy_123 ?_
  refine lv_iconst (v := 0) hx hb dX0_copy_126 (by decide) ?_
  refine lv_aload_n hx hb dX0_copy_127 rfl (lv_at hl 0 rfl) ?_
  refine wg_X0_10 hx hb hts iX0 hown hK hP 0 rfl k15 (v := .ref (a 10)) rfl dX0_copy_128 ?_
  refine lv_iconst (v := 0) hx hb dX0_copy_131 (by decide) ?_
  refine lv_bipush (v := 6) hx hb dX0_copy_132 (by decide) ?_
  refine wk_cpy hx hb (by rw [hml]; exact hl.1.symm) hown k6 k7 k8 k9 hK hP hD hS 15 7 rfl rfl rfl (Nat.le_of_ble_eq_true rfl) (by decide) dX0_copy_134 (ws' := affW c a (va_up (va_up (va_up (va_up (va_up (va_up (va_up (va_up (va_up (va_up (va_up σ 0 (fun _ => τ 0 0)) 1 (fun _ => τ 1 0)) 2 (fun _ => τ 2 0)) 3 (fun _ => τ 3 0)) 4 (τ 4)) 5 (τ 5)) 6 (τ 6)) 7 (τ 7)) 8 (τ 8)) 9 (τ 9)) 10 (τ 10)) ++ affW c b τ) rfl (fun H locs hP hD hS => ?_)
  exact ret 137 ls H _ hP hS dX0_copy_137

abbrev rmX0_beginAnew : Room := { frames := 0, cells := 0, slots := 0, locals := 0 }
theorem hd_X0_beginAnew : yX0_beginAnew.cls = RX0 ∧ yX0_beginAnew.cls ≠ "java/lang/invoke/MethodHandle" ∧ yX0_beginAnew.cls ≠ "java/lang/invoke/VarHandle" ∧ (parseMethodDescriptor yX0_beginAnew.desc).map (fun d => d.parameters.length) = some 0 := by decide +kernel
set_option maxHeartbeats 4000000 in
set_option maxRecDepth 100000 in
theorem c_X0_beginAnew (l : Launch) (D : va_G) (c : Nat → ClassId) (a : Nat → Nat) (σ : Nat → Nat → Int32) : wk_UpV l yX0_beginAnew wsX0_beginAnew rmX0_beginAnew D (tysL c) [.ref (a 0)] (affW c a σ) (affW c a (anewL σ 6)) := by
  refine wk_mkV (cc := cX0_beginAnew) (maxL := 2) (by decide) rfl (Nat.le_of_ble_eq_true rfl) ?_
  intro A pr ev ss mm args below meth cd ls H H0 locs Q hst hP hK hD hS hA hl ret
  obtain ⟨hx, hb, hml, hown, hts, -⟩ := hst
  have hown : ss.vm.findClass RX0 = some mm.cls := hown
  have hl : lv_has ls 2 [(0, .ref (a 0))] := hl
  have k1 := hts (.fieldLink RX0 33 "LastWord$Affairs" "today" "I") (List.mem_of_getElem? (i := 1) rfl)
  have k2 := hts (.fieldLink RX0 37 "LastWord$Affairs" "letters" "I") (List.mem_of_getElem? (i := 2) rfl)
  have k3 := hts (.fieldLink RX0 40 "LastWord$Affairs" "quarrels" "I") (List.mem_of_getElem? (i := 3) rfl)
  have k4 := hts (.fieldLink RX0 43 "LastWord$Affairs" "laid" "I") (List.mem_of_getElem? (i := 4) rfl)
  have k5 := hts (.fieldLink RX0 9 "LastWord$Affairs" "lateTimes" "[I") (List.mem_of_getElem? (i := 5) rfl)
  have iX0 : ∀ w ∈ u_ws RX0 TX0 11, w ∈ wsX0_beginAnew := fun _ h => (List.mem_cons_of_mem _ (List.mem_append_right _ h))
  refine lv_aload_n hx hb dX0_beginAnew_0 rfl (lv_at hl 0 rfl) ?_
  refine lv_iconst (v := 0) hx hb dX0_beginAnew_1 (by decide) ?_
  refine wp_X0_0 hx hb hts iX0 hown hK hP hD hS 0 rfl k1 (Nat.le_of_ble_eq_true rfl) dX0_beginAnew_2 (ws' := affW c a (va_up σ 0 (fun _ => 0))) rfl (fun H locs hP hD hS => ?_)
  refine lv_aload_n hx hb dX0_beginAnew_5 rfl (lv_at hl 0 rfl) ?_
  refine lv_iconst (v := 0) hx hb dX0_beginAnew_6 (by decide) ?_
  refine wp_X0_1 hx hb hts iX0 hown hK hP hD hS 0 rfl k2 (Nat.le_of_ble_eq_true rfl) dX0_beginAnew_7 (ws' := affW c a (va_up (va_up σ 0 (fun _ => 0)) 1 (fun _ => 0))) rfl (fun H locs hP hD hS => ?_)
  refine lv_aload_n hx hb dX0_beginAnew_10 rfl (lv_at hl 0 rfl) ?_
  refine lv_iconst (v := 0) hx hb dX0_beginAnew_11 (by decide) ?_
  refine wp_X0_2 hx hb hts iX0 hown hK hP hD hS 0 rfl k3 (Nat.le_of_ble_eq_true rfl) dX0_beginAnew_12 (ws' := affW c a (va_up (va_up (va_up σ 0 (fun _ => 0)) 1 (fun _ => 0)) 2 (fun _ => 0))) rfl (fun H locs hP hD hS => ?_)
  refine lv_aload_n hx hb dX0_beginAnew_15 rfl (lv_at hl 0 rfl) ?_
  refine lv_iconst (v := 0) hx hb dX0_beginAnew_16 (by decide) ?_
  refine wp_X0_3 hx hb hts iX0 hown hK hP hD hS 0 rfl k4 (Nat.le_of_ble_eq_true rfl) dX0_beginAnew_17 (ws' := affW c a (va_up (va_up (va_up (va_up σ 0 (fun _ => 0)) 1 (fun _ => 0)) 2 (fun _ => 0)) 3 (fun _ => 0))) rfl (fun H locs hP hD hS => ?_)
  refine lv_iconst (v := 0) hx hb dX0_beginAnew_20 (by decide) ?_
  refine lv_istore_n (lv' := [(1, .int 0), (0, .ref (a 0))]) hx hb dX0_beginAnew_21 rfl hl (by decide) rfl (fun ls hl => ?_)
  have lp22 : ∀ (n : Nat) (i : Nat), (i ≤ 6) → 6 - i < n → ∀ (H : Heap) (locs : List Loc), va_P D vwCl (affW c a (anewL σ i)) H → va_D A (affW c a (anewL σ i)) → va_S A H0 H locs → ∀ ls : Array Slot, lv_has ls 2 [(0, .ref (a 0)), (1, .int (nI i))] → W pr l ev rmX0_beginAnew ss mm args below meth cd H locs 0 0 Q (F0 mm 22 ls []) := by
    intro n
    induction n with
    | zero => intro i hi hn; exact absurd hn (Nat.not_lt_zero _)
    | succ n ih22 =>
      intro i hi hn H locs hP hD hS ls hl
      refine lv_iload_n hx hb dX0_beginAnew_22 rfl (lv_at hl 1 rfl) ?_
      refine lv_bipush (v := 6) hx hb dX0_beginAnew_23 (by decide) ?_
      refine wk_ge (tgt := 41) hx hb i 6 rfl rfl (by omega) (by omega) dX0_beginAnew_25 (by decide) (fun h1 => ?_) (fun h1 => ?_)
      · have eg2 : anewL σ i = anewL σ 6 := by rw [show i = 6 by omega]
        have hP : va_P D vwCl (affW c a (anewL σ 6)) H := by rw [← eg2]; exact hP
        have hD : va_D A (affW c a (anewL σ 6)) := by rw [← eg2]; exact hD
        exact ret 41 ls H _ hP hS dX0_beginAnew_41
      refine lv_aload_n hx hb dX0_beginAnew_28 rfl (lv_at hl 0 rfl) ?_
      refine wg_X0_4 hx hb hts iX0 hown hK hP 0 rfl k5 (v := .ref (a 4)) rfl dX0_beginAnew_29 ?_
      refine lv_iload_n hx hb dX0_beginAnew_32 rfl (lv_at hl 1 rfl) ?_
      refine lv_iconst (v := 0) hx hb dX0_beginAnew_33 (by decide) ?_
      refine wk_ast hx hb hK hP hD hS 1 0 rfl rfl i rfl (by omega) (by decide) dX0_beginAnew_34 (ws' := affW c a (va_up (anewL σ i) 4 (upd ((anewL σ i) 4) i 0))) rfl (fun H locs hP hD hS => ?_)
      refine lv_iinc (v := nI (i + 1)) (lv' := [(1, .int (nI (i + 1))), (0, .ref (a 0))]) hx hb dX0_beginAnew_35 hl (k := 1) rfl (nI_inc i 1) (by decide) rfl (fun ls hl => ?_)
      refine lv_goto (tgt := 22) hx hb dX0_beginAnew_38 (by decide) ?_
      have eg3 : va_up (anewL σ i) 4 (upd ((anewL σ i) 4) i 0) = anewL σ (i + 1) := by first | exact anewL_0 σ | exact anewL_s σ i | rfl
      have hP : va_P D vwCl (affW c a (anewL σ (i + 1))) H := by rw [← eg3]; exact hP
      have hD : va_D A (affW c a (anewL σ (i + 1))) := by rw [← eg3]; exact hD
      have hl : lv_has ls 2 [(0, .ref (a 0)), (1, .int (nI (i + 1)))] := lv_sub hl [1, 0] rfl
      exact ih22 (i + 1) (by omega) (by omega) H _ hP hD hS ls hl
  have eg4 : va_up (va_up (va_up (va_up σ 0 (fun _ => 0)) 1 (fun _ => 0)) 2 (fun _ => 0)) 3 (fun _ => 0) = anewL σ 0 := by first | exact anewL_0 σ | exact anewL_s σ i | rfl
  have hP : va_P D vwCl (affW c a (anewL σ 0)) H := by rw [← eg4]; exact hP
  have hD : va_D A (affW c a (anewL σ 0)) := by rw [← eg4]; exact hD
  have hl : lv_has ls 2 [(0, .ref (a 0)), (1, .int 0)] := lv_sub hl [1, 0] rfl
  have hl := wk_lset (y := nI 0) (lv_sub (l' := [(1, .int 0), (0, .ref (a 0))]) hl [1, 0] rfl) (by first | exact anewL_0 σ | exact anewL_s σ i | rfl)
  have hl : lv_has ls 2 [(0, .ref (a 0)), (1, .int (nI 0))] := lv_sub hl [1, 0] rfl
  exact lp22 _ 0 (by omega) (Nat.lt_succ_self _) H locs hP hD hS ls hl

abbrev rmX0_hasQuarrel : Room := { frames := 0, cells := 0, slots := 0, locals := 0 }
theorem hd_X0_hasQuarrel : yX0_hasQuarrel.cls = RX0 ∧ yX0_hasQuarrel.cls ≠ "java/lang/invoke/MethodHandle" ∧ yX0_hasQuarrel.cls ≠ "java/lang/invoke/VarHandle" ∧ (parseMethodDescriptor yX0_hasQuarrel.desc).map (fun d => d.parameters.length) = some 1 := by decide +kernel
set_option maxHeartbeats 4000000 in
set_option maxRecDepth 100000 in
theorem c_X0_hasQuarrel (l : Launch) (D : va_G) (c : Nat → ClassId) (a : Nat → Nat) (σ : Nat → Nat → Int32) (q : Int32) : wk_RdI l yX0_hasQuarrel wsX0_hasQuarrel rmX0_hasQuarrel D (tysL c) [.ref (a 0), .int q] (affW c a σ) (if 0 ≤ q ∧ q < σ 2 0 then 1 else 0) := by
  refine wk_mkR (cc := cX0_hasQuarrel) (maxL := 2) (rt := .boolean) (by decide) rfl (Nat.le_of_ble_eq_true rfl) wk_narZ ?_
  intro pr ev ss mm args below meth cd ls H Q hst hP hK hl ret
  obtain ⟨hx, hb, hml, hown, hts, -⟩ := hst
  have hown : ss.vm.findClass RX0 = some mm.cls := hown
  have hl : lv_has ls 2 [(0, .ref (a 0)), (1, .int q)] := hl
  have k1 := hts (.fieldLink RX0 40 "LastWord$Affairs" "quarrels" "I") (List.mem_of_getElem? (i := 1) rfl)
  have iX0 : ∀ w ∈ u_ws RX0 TX0 11, w ∈ wsX0_hasQuarrel := fun _ h => (List.mem_cons_of_mem _ (List.mem_append_right _ h))
  refine lv_iload_n hx hb dX0_hasQuarrel_0 rfl (lv_at hl 1 rfl) ?_
  refine lv_if_lt (tgt := 16) hx hb dX0_hasQuarrel_1 (by decide) (fun h1 => ?_) (fun h1 => ?_)
  · refine lv_iconst (v := 0) hx hb dX0_hasQuarrel_16 (by decide) ?_
    exact ret 17 ls 0 ((if_neg (fun q => absurd h1 (Int32.not_lt.mpr q.1))).symm) dX0_hasQuarrel_17
  refine lv_iload_n hx hb dX0_hasQuarrel_4 rfl (lv_at hl 1 rfl) ?_
  refine lv_aload_n hx hb dX0_hasQuarrel_5 rfl (lv_at hl 0 rfl) ?_
  refine wg_X0_2 hx hb hts iX0 hown hK hP 0 rfl k1 (v := .int (σ 2 0)) rfl dX0_hasQuarrel_6 ?_
  refine lv_icmp_ge (tgt := 16) hx hb dX0_hasQuarrel_9 (by decide) (fun h2 => ?_) (fun h2 => ?_)
  · refine lv_iconst (v := 0) hx hb dX0_hasQuarrel_16 (by decide) ?_
    exact ret 17 ls 0 ((if_neg (fun q => absurd q.2 (Int32.not_lt.mpr h2))).symm) dX0_hasQuarrel_17
  refine lv_iconst (v := 1) hx hb dX0_hasQuarrel_12 (by decide) ?_
  refine lv_goto (tgt := 17) hx hb dX0_hasQuarrel_13 (by decide) ?_
  exact ret 17 ls 1 ((if_pos ⟨Int32.not_lt.mp h1, Int32.not_le.mp h2⟩).symm) dX0_hasQuarrel_17

abbrev rmX0_hasLaid : Room := { frames := 0, cells := 0, slots := 0, locals := 0 }
theorem hd_X0_hasLaid : yX0_hasLaid.cls = RX0 ∧ yX0_hasLaid.cls ≠ "java/lang/invoke/MethodHandle" ∧ yX0_hasLaid.cls ≠ "java/lang/invoke/VarHandle" ∧ (parseMethodDescriptor yX0_hasLaid.desc).map (fun d => d.parameters.length) = some 1 := by decide +kernel
set_option maxHeartbeats 4000000 in
set_option maxRecDepth 100000 in
theorem c_X0_hasLaid (l : Launch) (D : va_G) (c : Nat → ClassId) (a : Nat → Nat) (σ : Nat → Nat → Int32) (w : Int32) : wk_RdI l yX0_hasLaid wsX0_hasLaid rmX0_hasLaid D (tysL c) [.ref (a 0), .int w] (affW c a σ) (if (σ 3 0 >>> (w &&& 31)) &&& 1 = 1 then 1 else 0) := by
  refine wk_mkR (cc := cX0_hasLaid) (maxL := 2) (rt := .boolean) (by decide) rfl (Nat.le_of_ble_eq_true rfl) wk_narZ ?_
  intro pr ev ss mm args below meth cd ls H Q hst hP hK hl ret
  obtain ⟨hx, hb, hml, hown, hts, -⟩ := hst
  have hown : ss.vm.findClass RX0 = some mm.cls := hown
  have hl : lv_has ls 2 [(0, .ref (a 0)), (1, .int w)] := hl
  have k1 := hts (.fieldLink RX0 43 "LastWord$Affairs" "laid" "I") (List.mem_of_getElem? (i := 1) rfl)
  have iX0 : ∀ w ∈ u_ws RX0 TX0 11, w ∈ wsX0_hasLaid := fun _ h => (List.mem_cons_of_mem _ (List.mem_append_right _ h))
  refine lv_aload_n hx hb dX0_hasLaid_0 rfl (lv_at hl 0 rfl) ?_
  refine wg_X0_3 hx hb hts iX0 hown hK hP 0 rfl k1 (v := .int (σ 3 0)) rfl dX0_hasLaid_1 ?_
  refine lv_iload_n hx hb dX0_hasLaid_4 rfl (lv_at hl 1 rfl) ?_
  refine lv_ishr hx hb dX0_hasLaid_5 ?_
  refine lv_iconst (v := 1) hx hb dX0_hasLaid_6 (by decide) ?_
  refine lv_iand hx hb dX0_hasLaid_7 ?_
  refine lv_iconst (v := 1) hx hb dX0_hasLaid_8 (by decide) ?_
  refine lv_icmp_ne (tgt := 16) hx hb dX0_hasLaid_9 (by decide) (fun h1 => ?_) (fun h1 => ?_)
  · refine lv_iconst (v := 0) hx hb dX0_hasLaid_16 (by decide) ?_
    exact ret 17 ls 0 (by simp [h1]) dX0_hasLaid_17
  refine lv_iconst (v := 1) hx hb dX0_hasLaid_12 (by decide) ?_
  refine lv_goto (tgt := 17) hx hb dX0_hasLaid_13 (by decide) ?_
  exact ret 17 ls 1 (by simp [h1]) dX0_hasLaid_17

abbrev rmX0_owedBits : Room := { frames := 0, cells := 0, slots := 0, locals := 0 }
theorem hd_X0_owedBits : yX0_owedBits.cls = RX0 ∧ yX0_owedBits.cls ≠ "java/lang/invoke/MethodHandle" ∧ yX0_owedBits.cls ≠ "java/lang/invoke/VarHandle" ∧ (parseMethodDescriptor yX0_owedBits.desc).map (fun d => d.parameters.length) = some 1 := by decide +kernel
set_option maxHeartbeats 4000000 in
set_option maxRecDepth 100000 in
theorem c_X0_owedBits (l : Launch) (D : va_G) (c : Nat → ClassId) (a : Nat → Nat) (σ : Nat → Nat → Int32) (w : Int32) (hq : wfQ σ) : wk_RdI l yX0_owedBits wsX0_owedBits rmX0_owedBits D (tysL c) [.ref (a 0), .int w] (affW c a σ) (obL (σ 8) w (nQ σ)) := by
  refine wk_mkR (cc := cX0_owedBits) (maxL := 4) (rt := .int) (by decide) rfl (Nat.le_of_ble_eq_true rfl) rfl ?_
  intro pr ev ss mm args below meth cd ls H Q hst hP hK hl ret
  obtain ⟨hx, hb, hml, hown, hts, -⟩ := hst
  have hown : ss.vm.findClass RX0 = some mm.cls := hown
  have hl : lv_has ls 4 [(0, .ref (a 0)), (1, .int w)] := hl
  have k1 := hts (.fieldLink RX0 40 "LastWord$Affairs" "quarrels" "I") (List.mem_of_getElem? (i := 1) rfl)
  have k2 := hts (.fieldLink RX0 24 "LastWord$Affairs" "owes" "[I") (List.mem_of_getElem? (i := 2) rfl)
  have iX0 : ∀ w ∈ u_ws RX0 TX0 11, w ∈ wsX0_owedBits := fun _ h => (List.mem_cons_of_mem _ (List.mem_append_right _ h))
  have hq6 := hq.2
  refine lv_iconst (v := 0) hx hb dX0_owedBits_0 (by decide) ?_
  refine lv_istore_n (lv' := [(2, .int 0), (0, .ref (a 0)), (1, .int w)]) hx hb dX0_owedBits_1 rfl hl (by decide) rfl (fun ls hl => ?_)
  refine lv_iconst (v := 0) hx hb dX0_owedBits_2 (by decide) ?_
  refine lv_istore_n (lv' := [(3, .int 0), (2, .int 0), (0, .ref (a 0)), (1, .int w)]) hx hb dX0_owedBits_3 rfl hl (by decide) rfl (fun ls hl => ?_)
  have lp4 : ∀ (n : Nat) (i : Nat), (i ≤ nQ σ) → nQ σ - i < n → ∀ ls : Array Slot, lv_has ls 4 [(0, .ref (a 0)), (1, .int w), (2, .int (obL (σ 8) w i)), (3, .int (nI i))] → W pr l ev rmX0_owedBits ss mm args below meth cd H [] 0 0 Q (F0 mm 4 ls []) := by
    intro n
    induction n with
    | zero => intro i hi hn; exact absurd hn (Nat.not_lt_zero _)
    | succ n ih4 =>
      intro i hi hn ls hl
      refine lv_iload_n hx hb dX0_owedBits_4 rfl (lv_at hl 3 rfl) ?_
      refine lv_aload_n hx hb dX0_owedBits_5 rfl (lv_at hl 0 rfl) ?_
      refine wg_X0_2 hx hb hts iX0 hown hK hP 0 rfl k1 (v := .int (σ 2 0)) rfl dX0_owedBits_6 ?_
      refine wk_eqi (hq.1) ?_
      refine wk_ge (tgt := 34) hx hb i (nQ σ) rfl rfl (by omega) (by omega) dX0_owedBits_9 (by decide) (fun h1 => ?_) (fun h1 => ?_)
      · refine lv_iload_n hx hb dX0_owedBits_34 rfl (lv_at hl 2 rfl) ?_
        exact ret 35 ls (obL (σ 8) w i) (by rw [show i = nQ σ by omega]) dX0_owedBits_35
      refine lv_aload_n hx hb dX0_owedBits_12 rfl (lv_at hl 0 rfl) ?_
      refine wg_X0_8 hx hb hts iX0 hown hK hP 0 rfl k2 (v := .ref (a 8)) rfl dX0_owedBits_13 ?_
      refine lv_iload_n hx hb dX0_owedBits_16 rfl (lv_at hl 3 rfl) ?_
      refine wk_ald (f := σ 8) hx hb hK hP 5 0 rfl rfl i rfl (by omega) (by decide) dX0_owedBits_17 ?_
      refine lv_iload_n hx hb dX0_owedBits_18 rfl (lv_at hl 1 rfl) ?_
      refine lv_icmp_ne (tgt := 28) hx hb dX0_owedBits_19 (by decide) (fun h2 => ?_) (fun h2 => ?_)
      · refine lv_iinc (v := nI (i + 1)) (lv' := [(3, .int (nI (i + 1))), (0, .ref (a 0)), (1, .int w), (2, .int (obL (σ 8) w i))]) hx hb dX0_owedBits_28 hl (k := 3) rfl (nI_inc i 1) (by decide) rfl (fun ls hl => ?_)
        refine lv_goto (tgt := 4) hx hb dX0_owedBits_31 (by decide) ?_
        have hl : lv_has ls 4 [(0, .ref (a 0)), (1, .int w), (2, .int (obL (σ 8) w i)), (3, .int (nI (i + 1)))] := lv_sub hl [1, 2, 3, 0] rfl
        have hl := wk_lset (y := obL (σ 8) w (i + 1)) (lv_sub (l' := [(2, .int (obL (σ 8) w i)), (0, .ref (a 0)), (1, .int w), (3, .int (nI (i + 1)))]) hl [2, 0, 1, 3] rfl) (by first | rfl | (simp [obL, h1, h2]; done))
        have hl : lv_has ls 4 [(0, .ref (a 0)), (1, .int w), (2, .int (obL (σ 8) w (i + 1))), (3, .int (nI (i + 1)))] := lv_sub hl [1, 2, 0, 3] rfl
        exact ih4 (i + 1) (by omega) (by omega) ls hl
      refine lv_iload_n hx hb dX0_owedBits_22 rfl (lv_at hl 2 rfl) ?_
      refine lv_iconst (v := 1) hx hb dX0_owedBits_23 (by decide) ?_
      refine lv_iload_n hx hb dX0_owedBits_24 rfl (lv_at hl 3 rfl) ?_
      refine lv_ishl hx hb dX0_owedBits_25 ?_
      refine lv_ior hx hb dX0_owedBits_26 ?_
      refine lv_istore_n (lv' := [(2, .int ((obL (σ 8) w i) ||| (1 <<< ((nI i) &&& 31)))), (0, .ref (a 0)), (1, .int w), (3, .int (nI i))]) hx hb dX0_owedBits_27 rfl hl (by decide) rfl (fun ls hl => ?_)
      refine lv_iinc (v := nI (i + 1)) (lv' := [(3, .int (nI (i + 1))), (2, .int ((obL (σ 8) w i) ||| (1 <<< ((nI i) &&& 31)))), (0, .ref (a 0)), (1, .int w)]) hx hb dX0_owedBits_28 hl (k := 3) rfl (nI_inc i 1) (by decide) rfl (fun ls hl => ?_)
      refine lv_goto (tgt := 4) hx hb dX0_owedBits_31 (by decide) ?_
      have hl : lv_has ls 4 [(0, .ref (a 0)), (1, .int w), (2, .int ((obL (σ 8) w i) ||| (1 <<< ((nI i) &&& 31)))), (3, .int (nI (i + 1)))] := lv_sub hl [2, 3, 1, 0] rfl
      have hl := wk_lset (y := obL (σ 8) w (i + 1)) (lv_sub (l' := [(2, .int ((obL (σ 8) w i) ||| (1 <<< ((nI i) &&& 31)))), (0, .ref (a 0)), (1, .int w), (3, .int (nI (i + 1)))]) hl [2, 0, 1, 3] rfl) (by first | rfl | (simp [obL, h1, h2]; done))
      have hl : lv_has ls 4 [(0, .ref (a 0)), (1, .int w), (2, .int (obL (σ 8) w (i + 1))), (3, .int (nI (i + 1)))] := lv_sub hl [1, 2, 0, 3] rfl
      exact ih4 (i + 1) (by omega) (by omega) ls hl
  have hl : lv_has ls 4 [(0, .ref (a 0)), (1, .int w), (2, .int 0), (3, .int 0)] := lv_sub hl [2, 3, 1, 0] rfl
  have hl := wk_lset (y := obL (σ 8) w 0) (lv_sub (l' := [(2, .int 0), (0, .ref (a 0)), (1, .int w), (3, .int 0)]) hl [2, 0, 1, 3] rfl) (by first | rfl | (simp [obL]; done))
  have hl : lv_has ls 4 [(0, .ref (a 0)), (1, .int w), (2, .int (obL (σ 8) w 0)), (3, .int 0)] := lv_sub hl [1, 2, 0, 3] rfl
  have hl := wk_lset (y := nI 0) (lv_sub (l' := [(3, .int 0), (0, .ref (a 0)), (1, .int w), (2, .int (obL (σ 8) w 0))]) hl [3, 0, 1, 2] rfl) (by first | rfl | (simp [obL]; done))
  have hl : lv_has ls 4 [(0, .ref (a 0)), (1, .int w), (2, .int (obL (σ 8) w 0)), (3, .int (nI 0))] := lv_sub hl [1, 2, 3, 0] rfl
  exact lp4 _ 0 (by omega) (Nat.lt_succ_self _) ls hl

abbrev rmX0_owedBy : Room := { frames := 1, cells := 0, slots := 0, locals := 23 }
theorem hd_X0_owedBy : yX0_owedBy.cls = RX0 ∧ yX0_owedBy.cls ≠ "java/lang/invoke/MethodHandle" ∧ yX0_owedBy.cls ≠ "java/lang/invoke/VarHandle" ∧ (parseMethodDescriptor yX0_owedBy.desc).map (fun d => d.parameters.length) = some 1 := by decide +kernel
set_option maxHeartbeats 4000000 in
set_option maxRecDepth 100000 in
theorem c_X0_owedBy (l : Launch) (D : va_G) (c : Nat → ClassId) (a : Nat → Nat) (σ : Nat → Nat → Int32) (w : Int32) (hq : wfQ σ) : wk_RdI l yX0_owedBy wsX0_owedBy rmX0_owedBy D (tysL c) [.ref (a 0), .int w] (affW c a σ) (bcF (obL (σ 8) w (nQ σ))) := by
  refine wk_mkR (cc := cX0_owedBy) (maxL := 2) (rt := .int) (by decide) rfl (Nat.le_of_ble_eq_true rfl) rfl ?_
  intro pr ev ss mm args below meth cd ls H Q hst hP hK hl ret
  obtain ⟨hx, hb, hml, hown, hts, -⟩ := hst
  have hown : ss.vm.findClass RX0 = some mm.cls := hown
  have hl : lv_has ls 2 [(0, .ref (a 0)), (1, .int w)] := hl
  refine lv_aload_n hx hb dX0_owedBy_0 rfl (lv_at hl 0 rfl) ?_
  refine lv_iload_n hx hb dX0_owedBy_1 rfl (lv_at hl 1 rfl) ?_
  refine wk_callRV (As := [.int w]) (rest := []) ⟨hx, hb, hml, hown, hts⟩ (c_X0_owedBits l D c a σ w (by assumption)) (cwV 1 hts gX0_owedBy_X0_owedBits rfl rfl rfl hd_X0_owedBits ⟨Nat.le_of_ble_eq_true rfl, Nat.le_of_ble_eq_true rfl⟩) hK hP [0, 1, 2, 3, 4, 5, 6, 7] rfl 0 rfl rfl rfl hl.1 rfl (Nat.le_of_ble_eq_true rfl) dX0_owedBy_2 (Nat.zero_le _) (Nat.zero_le _) ?_
  refine wk_callRS (As := [.int (obL (σ 8) w (nQ σ))]) (rest := []) ⟨hx, hb, hml, hown, hts⟩ (c_J6_bitCount_0f7a4 l D c (obL (σ 8) w (nQ σ))) (va_cwS 1 hts gX0_owedBy_J6_bitCount_0f7a4 rfl rfl rfl hd_J6_bitCount_0f7a4 ⟨Nat.le_of_ble_eq_true rfl, Nat.le_of_ble_eq_true rfl⟩) hK hP [] rfl rfl hl.1 rfl (Nat.le_of_ble_eq_true rfl) dX0_owedBy_5 (Nat.zero_le _) (Nat.zero_le _) ?_
  exact ret 8 ls (bcF (obL (σ 8) w (nQ σ))) (by rfl) dX0_owedBy_8

abbrev rmX0_closedBits : Room := { frames := 1, cells := 0, slots := 0, locals := 23 }
theorem hd_X0_closedBits : yX0_closedBits.cls = RX0 ∧ yX0_closedBits.cls ≠ "java/lang/invoke/MethodHandle" ∧ yX0_closedBits.cls ≠ "java/lang/invoke/VarHandle" ∧ (parseMethodDescriptor yX0_closedBits.desc).map (fun d => d.parameters.length) = some 0 := by decide +kernel
set_option maxHeartbeats 4000000 in
set_option maxRecDepth 100000 in
theorem c_X0_closedBits (l : Launch) (D : va_G) (c : Nat → ClassId) (a : Nat → Nat) (σ : Nat → Nat → Int32) (hq : wfQ σ) : wk_RdI l yX0_closedBits wsX0_closedBits rmX0_closedBits D (tysL c) [.ref (a 0)] (affW c a σ) (obL (σ 8) (-9) (nQ σ)) := by
  refine wk_mkR (cc := cX0_closedBits) (maxL := 1) (rt := .int) (by decide) rfl (Nat.le_of_ble_eq_true rfl) rfl ?_
  intro pr ev ss mm args below meth cd ls H Q hst hP hK hl ret
  obtain ⟨hx, hb, hml, hown, hts, -⟩ := hst
  have hown : ss.vm.findClass RX0 = some mm.cls := hown
  have hl : lv_has ls 1 [(0, .ref (a 0))] := hl
  refine lv_aload_n hx hb dX0_closedBits_0 rfl (lv_at hl 0 rfl) ?_
  refine lv_bipush (v := -9) hx hb dX0_closedBits_1 (by decide) ?_
  refine wk_callRV (As := [.int ((-9))]) (rest := []) ⟨hx, hb, hml, hown, hts⟩ (c_X0_owedBits l D c a σ ((-9)) (by assumption)) (cwV 1 hts gX0_closedBits_X0_owedBits rfl rfl rfl hd_X0_owedBits ⟨Nat.le_of_ble_eq_true rfl, Nat.le_of_ble_eq_true rfl⟩) hK hP [0, 1, 2, 3, 4, 5, 6, 7] rfl 0 rfl rfl rfl hl.1 rfl (Nat.le_of_ble_eq_true rfl) dX0_closedBits_3 (Nat.zero_le _) (Nat.zero_le _) ?_
  exact ret 6 ls (obL (σ 8) ((-9)) (nQ σ)) (by rfl) dX0_closedBits_6

abbrev rmX0_lastWordsOf : Room := { frames := 0, cells := 0, slots := 0, locals := 0 }
theorem hd_X0_lastWordsOf : yX0_lastWordsOf.cls = RX0 ∧ yX0_lastWordsOf.cls ≠ "java/lang/invoke/MethodHandle" ∧ yX0_lastWordsOf.cls ≠ "java/lang/invoke/VarHandle" ∧ (parseMethodDescriptor yX0_lastWordsOf.desc).map (fun d => d.parameters.length) = some 1 := by decide +kernel
set_option maxHeartbeats 4000000 in
set_option maxRecDepth 100000 in
theorem c_X0_lastWordsOf (l : Launch) (D : va_G) (c : Nat → ClassId) (a : Nat → Nat) (σ : Nat → Nat → Int32) (w : Int32) (hq : wfQ σ) : wk_RdI l yX0_lastWordsOf wsX0_lastWordsOf rmX0_lastWordsOf D (tysL c) [.ref (a 0), .int w] (affW c a σ) (lwL (σ 8) (σ 5) w (nQ σ)) := by
  refine wk_mkR (cc := cX0_lastWordsOf) (maxL := 4) (rt := .int) (by decide) rfl (Nat.le_of_ble_eq_true rfl) rfl ?_
  intro pr ev ss mm args below meth cd ls H Q hst hP hK hl ret
  obtain ⟨hx, hb, hml, hown, hts, -⟩ := hst
  have hown : ss.vm.findClass RX0 = some mm.cls := hown
  have hl : lv_has ls 4 [(0, .ref (a 0)), (1, .int w)] := hl
  have k1 := hts (.fieldLink RX0 40 "LastWord$Affairs" "quarrels" "I") (List.mem_of_getElem? (i := 1) rfl)
  have k2 := hts (.fieldLink RX0 24 "LastWord$Affairs" "owes" "[I") (List.mem_of_getElem? (i := 2) rfl)
  have k3 := hts (.fieldLink RX0 15 "LastWord$Affairs" "author" "[I") (List.mem_of_getElem? (i := 3) rfl)
  have iX0 : ∀ w ∈ u_ws RX0 TX0 11, w ∈ wsX0_lastWordsOf := fun _ h => (List.mem_cons_of_mem _ (List.mem_append_right _ h))
  have hq6 := hq.2
  refine lv_iconst (v := 0) hx hb dX0_lastWordsOf_0 (by decide) ?_
  refine lv_istore_n (lv' := [(2, .int 0), (0, .ref (a 0)), (1, .int w)]) hx hb dX0_lastWordsOf_1 rfl hl (by decide) rfl (fun ls hl => ?_)
  refine lv_iconst (v := 0) hx hb dX0_lastWordsOf_2 (by decide) ?_
  refine lv_istore_n (lv' := [(3, .int 0), (2, .int 0), (0, .ref (a 0)), (1, .int w)]) hx hb dX0_lastWordsOf_3 rfl hl (by decide) rfl (fun ls hl => ?_)
  have lp4 : ∀ (n : Nat) (i : Nat), (i ≤ nQ σ) → nQ σ - i < n → ∀ ls : Array Slot, lv_has ls 4 [(0, .ref (a 0)), (1, .int w), (2, .int (lwL (σ 8) (σ 5) w i)), (3, .int (nI i))] → W pr l ev rmX0_lastWordsOf ss mm args below meth cd H [] 0 0 Q (F0 mm 4 ls []) := by
    intro n
    induction n with
    | zero => intro i hi hn; exact absurd hn (Nat.not_lt_zero _)
    | succ n ih4 =>
      intro i hi hn ls hl
      refine lv_iload_n hx hb dX0_lastWordsOf_4 rfl (lv_at hl 3 rfl) ?_
      refine lv_aload_n hx hb dX0_lastWordsOf_5 rfl (lv_at hl 0 rfl) ?_
      refine wg_X0_2 hx hb hts iX0 hown hK hP 0 rfl k1 (v := .int (σ 2 0)) rfl dX0_lastWordsOf_6 ?_
      refine wk_eqi (hq.1) ?_
      refine wk_ge (tgt := 42) hx hb i (nQ σ) rfl rfl (by omega) (by omega) dX0_lastWordsOf_9 (by decide) (fun h1 => ?_) (fun h1 => ?_)
      · refine lv_iload_n hx hb dX0_lastWordsOf_42 rfl (lv_at hl 2 rfl) ?_
        exact ret 43 ls (lwL (σ 8) (σ 5) w i) (by rw [show i = nQ σ by omega]) dX0_lastWordsOf_43
      refine lv_aload_n hx hb dX0_lastWordsOf_12 rfl (lv_at hl 0 rfl) ?_
      refine wg_X0_8 hx hb hts iX0 hown hK hP 0 rfl k2 (v := .ref (a 8)) rfl dX0_lastWordsOf_13 ?_
      refine lv_iload_n hx hb dX0_lastWordsOf_16 rfl (lv_at hl 3 rfl) ?_
      refine wk_ald (f := σ 8) hx hb hK hP 5 0 rfl rfl i rfl (by omega) (by decide) dX0_lastWordsOf_17 ?_
      refine lv_bipush (v := -9) hx hb dX0_lastWordsOf_18 (by decide) ?_
      refine lv_icmp_ne (tgt := 36) hx hb dX0_lastWordsOf_20 (by decide) (fun h2 => ?_) (fun h2 => ?_)
      · refine lv_iinc (v := nI (i + 1)) (lv' := [(3, .int (nI (i + 1))), (0, .ref (a 0)), (1, .int w), (2, .int (lwL (σ 8) (σ 5) w i))]) hx hb dX0_lastWordsOf_36 hl (k := 3) rfl (nI_inc i 1) (by decide) rfl (fun ls hl => ?_)
        refine lv_goto (tgt := 4) hx hb dX0_lastWordsOf_39 (by decide) ?_
        have hl : lv_has ls 4 [(0, .ref (a 0)), (1, .int w), (2, .int (lwL (σ 8) (σ 5) w i)), (3, .int (nI (i + 1)))] := lv_sub hl [1, 2, 3, 0] rfl
        have hl := wk_lset (y := lwL (σ 8) (σ 5) w (i + 1)) (lv_sub (l' := [(2, .int (lwL (σ 8) (σ 5) w i)), (0, .ref (a 0)), (1, .int w), (3, .int (nI (i + 1)))]) hl [2, 0, 1, 3] rfl) (by first | rfl | (simp [lwL, h1, h2]; done))
        have hl : lv_has ls 4 [(0, .ref (a 0)), (1, .int w), (2, .int (lwL (σ 8) (σ 5) w (i + 1))), (3, .int (nI (i + 1)))] := lv_sub hl [1, 2, 0, 3] rfl
        exact ih4 (i + 1) (by omega) (by omega) ls hl
      refine lv_aload_n hx hb dX0_lastWordsOf_23 rfl (lv_at hl 0 rfl) ?_
      refine wg_X0_5 hx hb hts iX0 hown hK hP 0 rfl k3 (v := .ref (a 5)) rfl dX0_lastWordsOf_24 ?_
      refine lv_iload_n hx hb dX0_lastWordsOf_27 rfl (lv_at hl 3 rfl) ?_
      refine wk_ald (f := σ 5) hx hb hK hP 2 0 rfl rfl i rfl (by omega) (by decide) dX0_lastWordsOf_28 ?_
      refine lv_iload_n hx hb dX0_lastWordsOf_29 rfl (lv_at hl 1 rfl) ?_
      refine lv_icmp_ne (tgt := 36) hx hb dX0_lastWordsOf_30 (by decide) (fun h3 => ?_) (fun h3 => ?_)
      · refine lv_iinc (v := nI (i + 1)) (lv' := [(3, .int (nI (i + 1))), (0, .ref (a 0)), (1, .int w), (2, .int (lwL (σ 8) (σ 5) w i))]) hx hb dX0_lastWordsOf_36 hl (k := 3) rfl (nI_inc i 1) (by decide) rfl (fun ls hl => ?_)
        refine lv_goto (tgt := 4) hx hb dX0_lastWordsOf_39 (by decide) ?_
        have hl : lv_has ls 4 [(0, .ref (a 0)), (1, .int w), (2, .int (lwL (σ 8) (σ 5) w i)), (3, .int (nI (i + 1)))] := lv_sub hl [1, 2, 3, 0] rfl
        have hl := wk_lset (y := lwL (σ 8) (σ 5) w (i + 1)) (lv_sub (l' := [(2, .int (lwL (σ 8) (σ 5) w i)), (0, .ref (a 0)), (1, .int w), (3, .int (nI (i + 1)))]) hl [2, 0, 1, 3] rfl) (by first | rfl | (simp [lwL, h1, h2, h3]; done))
        have hl : lv_has ls 4 [(0, .ref (a 0)), (1, .int w), (2, .int (lwL (σ 8) (σ 5) w (i + 1))), (3, .int (nI (i + 1)))] := lv_sub hl [1, 2, 0, 3] rfl
        exact ih4 (i + 1) (by omega) (by omega) ls hl
      refine lv_iinc (v := lwL (σ 8) (σ 5) w i + 1) (lv' := [(2, .int (lwL (σ 8) (σ 5) w i + 1)), (0, .ref (a 0)), (1, .int w), (3, .int (nI i))]) hx hb dX0_lastWordsOf_33 hl (k := 2) rfl (rfl) (by decide) rfl (fun ls hl => ?_)
      refine lv_iinc (v := nI (i + 1)) (lv' := [(3, .int (nI (i + 1))), (2, .int (lwL (σ 8) (σ 5) w i + 1)), (0, .ref (a 0)), (1, .int w)]) hx hb dX0_lastWordsOf_36 hl (k := 3) rfl (nI_inc i 1) (by decide) rfl (fun ls hl => ?_)
      refine lv_goto (tgt := 4) hx hb dX0_lastWordsOf_39 (by decide) ?_
      have hl : lv_has ls 4 [(0, .ref (a 0)), (1, .int w), (2, .int (lwL (σ 8) (σ 5) w i + 1)), (3, .int (nI (i + 1)))] := lv_sub hl [2, 3, 1, 0] rfl
      have hl := wk_lset (y := lwL (σ 8) (σ 5) w (i + 1)) (lv_sub (l' := [(2, .int (lwL (σ 8) (σ 5) w i + 1)), (0, .ref (a 0)), (1, .int w), (3, .int (nI (i + 1)))]) hl [2, 0, 1, 3] rfl) (by first | rfl | (simp [lwL, h1, h2, h3]; done))
      have hl : lv_has ls 4 [(0, .ref (a 0)), (1, .int w), (2, .int (lwL (σ 8) (σ 5) w (i + 1))), (3, .int (nI (i + 1)))] := lv_sub hl [1, 2, 0, 3] rfl
      exact ih4 (i + 1) (by omega) (by omega) ls hl
  have hl : lv_has ls 4 [(0, .ref (a 0)), (1, .int w), (2, .int 0), (3, .int 0)] := lv_sub hl [2, 3, 1, 0] rfl
  have hl := wk_lset (y := lwL (σ 8) (σ 5) w 0) (lv_sub (l' := [(2, .int 0), (0, .ref (a 0)), (1, .int w), (3, .int 0)]) hl [2, 0, 1, 3] rfl) (by first | rfl | (simp [lwL]; done))
  have hl : lv_has ls 4 [(0, .ref (a 0)), (1, .int w), (2, .int (lwL (σ 8) (σ 5) w 0)), (3, .int 0)] := lv_sub hl [1, 2, 0, 3] rfl
  have hl := wk_lset (y := nI 0) (lv_sub (l' := [(3, .int 0), (0, .ref (a 0)), (1, .int w), (2, .int (lwL (σ 8) (σ 5) w 0))]) hl [3, 0, 1, 2] rfl) (by first | rfl | (simp [lwL]; done))
  have hl : lv_has ls 4 [(0, .ref (a 0)), (1, .int w), (2, .int (lwL (σ 8) (σ 5) w 0)), (3, .int (nI 0))] := lv_sub hl [1, 2, 3, 0] rfl
  exact lp4 _ 0 (by omega) (Nat.lt_succ_self _) ls hl

abbrev rmX0_charge : Room := { frames := 1, cells := 0, slots := 0, locals := 27 }
theorem hd_X0_charge : yX0_charge.cls = RX0 ∧ yX0_charge.cls ≠ "java/lang/invoke/MethodHandle" ∧ yX0_charge.cls ≠ "java/lang/invoke/VarHandle" ∧ (parseMethodDescriptor yX0_charge.desc).map (fun d => d.parameters.length) = some 2 := by decide +kernel
set_option maxHeartbeats 4000000 in
set_option maxRecDepth 100000 in
theorem c_X0_charge (l : Launch) (D : va_G) (c : Nat → ClassId) (a : Nat → Nat) (σ : Nat → Nat → Int32) (p : Nat → Nat) (π : Nat → Nat → Int32) (q : Nat) (hp : wfP π) (hq : q < 6) (hs : ixOK (σ 6 q) 5) : wk_UpV l yX0_charge wsX0_charge rmX0_charge D (tysL c) [.ref (a 0), .ref (p 0), .int (nI q)] (affW c a σ ++ pageW c p π) (affW c a (chargeF π σ q) ++ pageW c p π) := by
  refine wk_mkV (cc := cX0_charge) (maxL := 4) (by decide) rfl (Nat.le_of_ble_eq_true rfl) ?_
  intro A pr ev ss mm args below meth cd ls H H0 locs Q hst hP hK hD hS hA hl ret
  obtain ⟨hx, hb, hml, hown, hts, -⟩ := hst
  have hown : ss.vm.findClass RX0 = some mm.cls := hown
  have hl : lv_has ls 4 [(0, .ref (a 0)), (1, .ref (p 0)), (2, .int (nI q))] := hl
  have k1 := hts (.fieldLink RX0 15 "LastWord$Affairs" "author" "[I") (List.mem_of_getElem? (i := 1) rfl)
  have k2 := hts (.fieldLink RX0 18 "LastWord$Affairs" "subject" "[I") (List.mem_of_getElem? (i := 2) rfl)
  have k3 := hts (.fieldLink RX0 43 "LastWord$Affairs" "laid" "I") (List.mem_of_getElem? (i := 3) rfl)
  have k4 := hts (.fieldLink RX0 24 "LastWord$Affairs" "owes" "[I") (List.mem_of_getElem? (i := 4) rfl)
  have k5 := hts (.fieldLink RX0 27 "LastWord$Affairs" "work" "[I") (List.mem_of_getElem? (i := 5) rfl)
  have k6 := hts (.fieldLink RX0 95 "LastWord$Page" "pen" "[I") (List.mem_of_getElem? (i := 6) rfl)
  have iX0 : ∀ w ∈ u_ws RX0 TX0 11, w ∈ wsX0_charge := fun _ h => (List.mem_cons_of_mem _ (List.mem_append_left _ (List.mem_append_right _ h)))
  have iX5 : ∀ w ∈ u_ws RX5 TX5 5, w ∈ wsX0_charge := fun _ h => (List.mem_cons_of_mem _ (List.mem_append_right _ h))
  refine lv_aload_n hx hb dX0_charge_0 rfl (lv_at hl 1 rfl) ?_
  refine lv_aload_n hx hb dX0_charge_1 rfl (lv_at hl 0 rfl) ?_
  refine wg_X0_5 hx hb hts iX0 hown hK hP 0 rfl k1 (v := .ref (a 5)) rfl dX0_charge_2 ?_
  refine lv_iload_n hx hb dX0_charge_5 rfl (lv_at hl 2 rfl) ?_
  refine wk_ald (f := σ 5) hx hb hK hP 2 0 rfl rfl q rfl (by omega) (by decide) dX0_charge_6 ?_
  refine lv_aload_n hx hb dX0_charge_7 rfl (lv_at hl 0 rfl) ?_
  refine wg_X0_6 hx hb hts iX0 hown hK hP 0 rfl k2 (v := .ref (a 6)) rfl dX0_charge_8 ?_
  refine lv_iload_n hx hb dX0_charge_11 rfl (lv_at hl 2 rfl) ?_
  refine wk_ald (f := σ 6) hx hb hK hP 3 0 rfl rfl q rfl (by omega) (by decide) dX0_charge_12 ?_
  refine wk_eqi (y := nI ((σ 6 q).toNatClampNeg)) (hs.1) ?_
  refine lv_aload_n hx hb dX0_charge_13 rfl (lv_at hl 0 rfl) ?_
  refine wg_X0_3 hx hb hts iX0 hown hK hP 0 rfl k3 (v := .int (σ 3 0)) rfl dX0_charge_14 ?_
  refine wk_callRV (As := [.int (σ 5 q), .int (nI ((σ 6 q).toNatClampNeg)), .int (σ 3 0)]) (rest := []) ⟨hx, hb, hml, hown, hts⟩ (c_X5_answerer l D c p π (σ 5 q) ((σ 6 q).toNatClampNeg) (σ 3 0) (hp) (hs.2)) (cwV 3 hts gX0_charge_X5_answerer rfl rfl rfl hd_X5_answerer ⟨Nat.le_of_ble_eq_true rfl, Nat.le_of_ble_eq_true rfl⟩) hK hP [8, 9, 10, 11, 12, 13, 14, 15, 16, 17] rfl 0 rfl rfl rfl hl.1 rfl (Nat.le_of_ble_eq_true rfl) dX0_charge_17 (Nat.zero_le _) (Nat.zero_le _) ?_
  refine lv_topi (fun w3 ew => ?_)
  refine lv_istore_n (lv' := [(3, .int w3), (0, .ref (a 0)), (1, .ref (p 0)), (2, .int (nI q))]) hx hb dX0_charge_20 rfl hl (by decide) rfl (fun ls hl => ?_)
  refine lv_aload_n hx hb dX0_charge_21 rfl (lv_at hl 1 rfl) ?_
  refine wg_X0_8 hx hb hts iX0 hown hK hP 0 rfl k4 (v := .ref (a 8)) rfl dX0_charge_22 ?_
  refine lv_iload_n hx hb dX0_charge_25 rfl (lv_at hl 3 rfl) ?_
  refine lv_iload_n hx hb dX0_charge_26 rfl (lv_at hl 0 rfl) ?_
  refine wk_ast hx hb hK hP hD hS 5 0 rfl rfl q rfl (by omega) (by decide) dX0_charge_27 (ws' := affW c a (va_up σ 8 (upd (σ 8) q w3)) ++ pageW c p π) rfl (fun H locs hP hD hS => ?_)
  refine lv_aload_n hx hb dX0_charge_28 rfl (lv_at hl 1 rfl) ?_
  refine wg_X0_9 hx hb hts iX0 hown hK hP 0 rfl k5 (v := .ref (a 9)) rfl dX0_charge_29 ?_
  refine lv_iload_n hx hb dX0_charge_32 rfl (lv_at hl 3 rfl) ?_
  refine lv_iload_n hx hb dX0_charge_33 rfl (lv_at hl 0 rfl) ?_
  refine lv_bipush (v := -9) hx hb dX0_charge_34 (by decide) ?_
  refine lv_icmp_ne (tgt := 43) hx hb dX0_charge_36 (by decide) (fun h1 => ?_) (fun h1 => ?_)
  rotate_left
  · refine lv_iconst (v := 0) hx hb dX0_charge_39 (by decide) ?_
    refine lv_goto (tgt := 49) hx hb dX0_charge_40 (by decide) ?_
    refine wk_ast hx hb hK hP hD hS 6 0 rfl rfl q rfl (by omega) (by decide) dX0_charge_49 (ws' := affW c a (va_up (va_up σ 8 (upd (σ 8) q w3)) 9 (upd (σ 9) q 0)) ++ pageW c p π) rfl (fun H locs hP hD hS => ?_)
    have eg3 : va_up (va_up σ 8 (upd (σ 8) q w3)) 9 (upd (σ 9) q 0) = chargeF π σ q := by rw [chargeF, chargeW, ← ew]; first | rw [if_pos h1] | rw [if_neg h1]
    have hP : va_P D vwCl (affW c a (chargeF π σ q) ++ pageW c p π) H := by rw [← eg3]; exact hP
    have hD : va_D A (affW c a (chargeF π σ q) ++ pageW c p π) := by rw [← eg3]; exact hD
    exact ret 50 ls H _ hP hS dX0_charge_50
  have hw : ixOK w3 (nW π) := (answer_ok hp (σ 5 q) (σ 6 q).toNatClampNeg (σ 3 0)).elim (fun e => absurd (ew.trans e) h1) (fun e => by rw [ew]; exact e)
  refine lv_aload_n hx hb dX0_charge_43 rfl (lv_at hl 2 rfl) ?_
  refine wg_X5_2 hx hb hts iX5 hown hK hP 8 rfl k6 (v := .ref (p 2)) rfl dX0_charge_44 ?_
  refine lv_iload_n hx hb dX0_charge_47 rfl (lv_at hl 0 rfl) ?_
  refine wk_ald (f := π 2) hx hb hK hP 9 0 rfl rfl w3.toNatClampNeg (hw.1) (Nat.lt_of_lt_of_le hw.2 hp.2.1) (by decide) dX0_charge_48 ?_
  refine wk_ast hx hb hK hP hD hS 6 0 rfl rfl q rfl (by omega) (by decide) dX0_charge_49 (ws' := affW c a (va_up (va_up σ 8 (upd (σ 8) q w3)) 9 (upd (σ 9) q (π 2 w3.toNatClampNeg))) ++ pageW c p π) rfl (fun H locs hP hD hS => ?_)
  have eg2 : va_up (va_up σ 8 (upd (σ 8) q w3)) 9 (upd (σ 9) q (π 2 w3.toNatClampNeg)) = chargeF π σ q := by rw [chargeF, chargeW, ← ew]; first | rw [if_pos h1] | rw [if_neg h1]
  have hP : va_P D vwCl (affW c a (chargeF π σ q) ++ pageW c p π) H := by rw [← eg2]; exact hP
  have hD : va_D A (affW c a (chargeF π σ q) ++ pageW c p π) := by rw [← eg2]; exact hD
  exact ret 50 ls H _ hP hS dX0_charge_50

abbrev rmX0_print : Room := { frames := 2, cells := 0, slots := 0, locals := 50 }
theorem hd_X0_print : yX0_print.cls = RX0 ∧ yX0_print.cls ≠ "java/lang/invoke/MethodHandle" ∧ yX0_print.cls ≠ "java/lang/invoke/VarHandle" ∧ (parseMethodDescriptor yX0_print.desc).map (fun d => d.parameters.length) = some 4 := by decide +kernel
set_option maxHeartbeats 4000000 in
set_option maxRecDepth 100000 in
theorem c_X0_print (l : Launch) (D : va_G) (c : Nat → ClassId) (a : Nat → Nat) (σ : Nat → Nat → Int32) (p : Nat → Nat) (π : Nat → Nat → Int32) (q : Nat) (w : Int32) (s : Nat) (hp : wfP π) (hq : q < 6) (hs : s < 5) : wk_UpV l yX0_print wsX0_print rmX0_print D (tysL c) [.ref (a 0), .ref (p 0), .int (nI q), .int w, .int (nI s)] (affW c a σ ++ pageW c p π) (affW c a (printF π σ q w s) ++ pageW c p π) := by
  refine wk_mkV (cc := cX0_print) (maxL := 5) (by decide) rfl (Nat.le_of_ble_eq_true rfl) ?_
  intro A pr ev ss mm args below meth cd ls H H0 locs Q hst hP hK hD hS hA hl ret
  obtain ⟨hx, hb, hml, hown, hts, -⟩ := hst
  have hown : ss.vm.findClass RX0 = some mm.cls := hown
  have hl : lv_has ls 5 [(0, .ref (a 0)), (1, .ref (p 0)), (2, .int (nI q)), (3, .int w), (4, .int (nI s))] := hl
  have k1 := hts (.fieldLink RX0 15 "LastWord$Affairs" "author" "[I") (List.mem_of_getElem? (i := 1) rfl)
  have k2 := hts (.fieldLink RX0 18 "LastWord$Affairs" "subject" "[I") (List.mem_of_getElem? (i := 2) rfl)
  have k3 := hts (.fieldLink RX0 21 "LastWord$Affairs" "printedOn" "[I") (List.mem_of_getElem? (i := 3) rfl)
  have k4 := hts (.fieldLink RX0 33 "LastWord$Affairs" "today" "I") (List.mem_of_getElem? (i := 4) rfl)
  have k5 := hts (.fieldLink RX0 30 "LastWord$Affairs" "late" "[I") (List.mem_of_getElem? (i := 5) rfl)
  have k6 := hts (.fieldLink RX0 37 "LastWord$Affairs" "letters" "I") (List.mem_of_getElem? (i := 6) rfl)
  have iX0 : ∀ w ∈ u_ws RX0 TX0 11, w ∈ wsX0_print := fun _ h => (List.mem_cons_of_mem _ (List.mem_append_left _ (List.mem_append_right _ h)))
  refine lv_aload_n hx hb dX0_print_0 rfl (lv_at hl 0 rfl) ?_
  refine wg_X0_5 hx hb hts iX0 hown hK hP 0 rfl k1 (v := .ref (a 5)) rfl dX0_print_1 ?_
  refine lv_iload_n hx hb dX0_print_4 rfl (lv_at hl 2 rfl) ?_
  refine lv_iload_n hx hb dX0_print_5 rfl (lv_at hl 3 rfl) ?_
  refine wk_ast hx hb hK hP hD hS 2 0 rfl rfl q rfl (by omega) (by decide) dX0_print_6 (ws' := affW c a (va_up σ 5 (upd (σ 5) q w)) ++ pageW c p π) rfl (fun H locs hP hD hS => ?_)
  refine lv_aload_n hx hb dX0_print_7 rfl (lv_at hl 0 rfl) ?_
  refine wg_X0_6 hx hb hts iX0 hown hK hP 0 rfl k2 (v := .ref (a 6)) rfl dX0_print_8 ?_
  refine lv_iload_n hx hb dX0_print_11 rfl (lv_at hl 2 rfl) ?_
  refine lv_iload hx hb dX0_print_12 (lv_at hl 4 rfl) ?_
  refine wk_ast hx hb hK hP hD hS 3 0 rfl rfl q rfl (by omega) (by decide) dX0_print_14 (ws' := affW c a (va_up (va_up σ 5 (upd (σ 5) q w)) 6 (upd (σ 6) q (nI s))) ++ pageW c p π) rfl (fun H locs hP hD hS => ?_)
  refine lv_aload_n hx hb dX0_print_15 rfl (lv_at hl 0 rfl) ?_
  refine wg_X0_7 hx hb hts iX0 hown hK hP 0 rfl k3 (v := .ref (a 7)) rfl dX0_print_16 ?_
  refine lv_iload_n hx hb dX0_print_19 rfl (lv_at hl 2 rfl) ?_
  refine lv_aload_n hx hb dX0_print_20 rfl (lv_at hl 0 rfl) ?_
  refine wg_X0_0 hx hb hts iX0 hown hK hP 0 rfl k4 (v := .int (σ 0 0)) rfl dX0_print_21 ?_
  refine wk_ast hx hb hK hP hD hS 4 0 rfl rfl q rfl (by omega) (by decide) dX0_print_24 (ws' := affW c a (va_up (va_up (va_up σ 5 (upd (σ 5) q w)) 6 (upd (σ 6) q (nI s))) 7 (upd (σ 7) q (σ 0 0))) ++ pageW c p π) rfl (fun H locs hP hD hS => ?_)
  refine lv_aload_n hx hb dX0_print_25 rfl (lv_at hl 0 rfl) ?_
  refine wg_X0_10 hx hb hts iX0 hown hK hP 0 rfl k5 (v := .ref (a 10)) rfl dX0_print_26 ?_
  refine lv_iload_n hx hb dX0_print_29 rfl (lv_at hl 2 rfl) ?_
  refine lv_iconst (v := 0) hx hb dX0_print_30 (by decide) ?_
  refine wk_ast hx hb hK hP hD hS 7 0 rfl rfl q rfl (by omega) (by decide) dX0_print_31 (ws' := affW c a (va_up (va_up (va_up (va_up σ 5 (upd (σ 5) q w)) 6 (upd (σ 6) q (nI s))) 7 (upd (σ 7) q (σ 0 0))) 10 (upd (σ 10) q 0)) ++ pageW c p π) rfl (fun H locs hP hD hS => ?_)
  refine lv_aload_n hx hb dX0_print_32 rfl (lv_at hl 0 rfl) ?_
  refine lv_dup hx hb dX0_print_33 rfl ?_
  refine wg_X0_1 hx hb hts iX0 hown hK hP 0 rfl k6 (v := .int (σ 1 0)) rfl dX0_print_34 ?_
  refine lv_iconst (v := 1) hx hb dX0_print_37 (by decide) ?_
  refine lv_iadd hx hb dX0_print_38 ?_
  refine wp_X0_1 hx hb hts iX0 hown hK hP hD hS 0 rfl k6 (Nat.le_of_ble_eq_true rfl) dX0_print_39 (ws' := affW c a (va_up (va_up (va_up (va_up (va_up σ 5 (upd (σ 5) q w)) 6 (upd (σ 6) q (nI s))) 7 (upd (σ 7) q (σ 0 0))) 10 (upd (σ 10) q 0)) 1 (fun _ => (σ 1 0) + 1)) ++ pageW c p π) rfl (fun H locs hP hD hS => ?_)
  refine lv_aload_n hx hb dX0_print_42 rfl (lv_at hl 0 rfl) ?_
  refine lv_aload_n hx hb dX0_print_43 rfl (lv_at hl 1 rfl) ?_
  refine lv_iload_n hx hb dX0_print_44 rfl (lv_at hl 2 rfl) ?_
  refine wk_callVV (As := [.ref (p 0), .int (nI q)]) (rest := []) ⟨hx, hb, hml, hown, hts⟩ (c_X0_charge l D c a (va_up (va_up (va_up (va_up (va_up σ 5 (upd (σ 5) q w)) 6 (upd (σ 6) q (nI s))) 7 (upd (σ 7) q (σ 0 0))) 10 (upd (σ 10) q 0)) 1 (fun _ => (σ 1 0) + 1)) p π q (hp) (hq) (by show ixOK (upd (σ 6) q (nI s) q) 5; rw [pk_us]; exact ix_nI hs (by omega))) (cwV 2 hts gX0_print_X0_charge rfl rfl rfl hd_X0_charge ⟨Nat.le_of_ble_eq_true rfl, Nat.le_of_ble_eq_true rfl⟩) hK hP hD hS hA [0, 1, 2, 3, 4, 5, 6, 7, 8, 9, 10, 11, 12, 13, 14, 15, 16, 17] [] 18 rfl rfl [a 0, a 4, a 5, a 6, a 7, a 8, a 9, a 10, p 0, p 2, p 3, p 4, p (5 + 0), p (5 + 1), p (5 + 2), p (5 + 3), p (5 + 4), p (5 + 5)] rfl rfl (ws' := affW c a (chargeF π (va_up (va_up (va_up (va_up (va_up σ 5 (upd (σ 5) q w)) 6 (upd (σ 6) q (nI s))) 7 (upd (σ 7) q (σ 0 0))) 10 (upd (σ 10) q 0)) 1 (fun _ => (σ 1 0) + 1)) q) ++ pageW c p π) rfl (wr := []) rfl rfl rfl rfl 0 rfl rfl rfl hl.1 rfl (Nat.le_of_ble_eq_true rfl) dX0_print_45 (Nat.zero_le _) (Nat.zero_le _) (fun H locs hP hD hS => ?_)
  exact ret 48 ls H _ hP hS dX0_print_48

abbrev rmX0_begin : Room := { frames := 3, cells := 0, slots := 0, locals := 74 }
theorem hd_X0_begin : yX0_begin.cls = RX0 ∧ yX0_begin.cls ≠ "java/lang/invoke/MethodHandle" ∧ yX0_begin.cls ≠ "java/lang/invoke/VarHandle" ∧ (parseMethodDescriptor yX0_begin.desc).map (fun d => d.parameters.length) = some 3 := by decide +kernel
set_option maxHeartbeats 4000000 in
set_option maxRecDepth 100000 in
theorem c_X0_begin (l : Launch) (D : va_G) (c : Nat → ClassId) (a : Nat → Nat) (σ : Nat → Nat → Int32) (p : Nat → Nat) (π : Nat → Nat → Int32) (w : Int32) (s : Nat) (hp : wfP π) (hq : wfQ σ) (hq6 : nQ σ < 6) (hs : s < 5) : wk_UpI l yX0_begin wsX0_begin rmX0_begin D (tysL c) [.ref (a 0), .ref (p 0), .int w, .int (nI s)] (affW c a σ ++ pageW c p π) (affW c a (beginF π σ w s) ++ pageW c p π) (nI (nQ σ)) := by
  refine wk_mkU (cc := cX0_begin) (maxL := 5) (rt := .int) (by decide) rfl (Nat.le_of_ble_eq_true rfl) rfl ?_
  intro A pr ev ss mm args below meth cd ls H H0 locs Q hst hP hK hD hS hA hl ret
  obtain ⟨hx, hb, hml, hown, hts, -⟩ := hst
  have hown : ss.vm.findClass RX0 = some mm.cls := hown
  have hl : lv_has ls 5 [(0, .ref (a 0)), (1, .ref (p 0)), (2, .int w), (3, .int (nI s))] := hl
  have k1 := hts (.fieldLink RX0 40 "LastWord$Affairs" "quarrels" "I") (List.mem_of_getElem? (i := 1) rfl)
  have iX0 : ∀ w ∈ u_ws RX0 TX0 11, w ∈ wsX0_begin := fun _ h => (List.mem_cons_of_mem _ (List.mem_append_left _ (List.mem_append_right _ h)))
  refine lv_aload_n hx hb dX0_begin_0 rfl (lv_at hl 0 rfl) ?_
  refine wg_X0_2 hx hb hts iX0 hown hK hP 0 rfl k1 (v := .int (σ 2 0)) rfl dX0_begin_1 ?_
  refine wk_eqi (hq.1) ?_
  refine lv_istore (lv' := [(4, .int (nI (nQ σ))), (0, .ref (a 0)), (1, .ref (p 0)), (2, .int w), (3, .int (nI s))]) hx hb dX0_begin_4 hl (by decide) rfl (fun ls hl => ?_)
  refine lv_aload_n hx hb dX0_begin_6 rfl (lv_at hl 1 rfl) ?_
  refine lv_dup hx hb dX0_begin_7 rfl ?_
  refine wg_X0_2 hx hb hts iX0 hown hK hP 0 rfl k1 (v := .int (σ 2 0)) rfl dX0_begin_8 ?_
  refine wk_eqi (hq.1) ?_
  refine lv_iconst (v := 1) hx hb dX0_begin_11 (by decide) ?_
  refine lv_iadd hx hb dX0_begin_12 ?_
  refine wk_eqi (nI_add (nQ σ) 1) ?_
  refine wp_X0_2 hx hb hts iX0 hown hK hP hD hS 0 rfl k1 (Nat.le_of_ble_eq_true rfl) dX0_begin_13 (ws' := affW c a (va_up σ 2 (fun _ => nI ((nQ σ) + 1))) ++ pageW c p π) rfl (fun H locs hP hD hS => ?_)
  refine lv_aload_n hx hb dX0_begin_16 rfl (lv_at hl 1 rfl) ?_
  refine lv_aload_n hx hb dX0_begin_17 rfl (lv_at hl 2 rfl) ?_
  refine lv_iload hx hb dX0_begin_18 (lv_at hl 0 rfl) ?_
  refine lv_iload_n hx hb dX0_begin_20 rfl (lv_at hl 3 rfl) ?_
  refine lv_iload_n hx hb dX0_begin_21 rfl (lv_at hl 4 rfl) ?_
  refine wk_callVV (As := [.ref (p 0), .int (nI (nQ σ)), .int w, .int (nI s)]) (rest := []) ⟨hx, hb, hml, hown, hts⟩ (c_X0_print l D c a (va_up σ 2 (fun _ => nI ((nQ σ) + 1))) p π (nQ σ) w s (hp) (hq6) (hs)) (cwV 4 hts gX0_begin_X0_print rfl rfl rfl hd_X0_print ⟨Nat.le_of_ble_eq_true rfl, Nat.le_of_ble_eq_true rfl⟩) hK hP hD hS hA [0, 1, 2, 3, 4, 5, 6, 7, 8, 9, 10, 11, 12, 13, 14, 15, 16, 17] [] 18 rfl rfl [a 0, a 4, a 5, a 6, a 7, a 8, a 9, a 10, p 0, p 2, p 3, p 4, p (5 + 0), p (5 + 1), p (5 + 2), p (5 + 3), p (5 + 4), p (5 + 5)] rfl rfl (ws' := affW c a (printF π (va_up σ 2 (fun _ => nI ((nQ σ) + 1))) (nQ σ) w s) ++ pageW c p π) rfl (wr := []) rfl rfl rfl rfl 0 rfl rfl rfl hl.1 rfl (Nat.le_of_ble_eq_true rfl) dX0_begin_22 (Nat.zero_le _) (Nat.zero_le _) (fun H locs hP hD hS => ?_)
  refine lv_iload hx hb dX0_begin_25 (lv_at hl 0 rfl) ?_
  exact ret 27 ls H _ (nI (nQ σ)) (by rfl) hP hS dX0_begin_27

abbrev rmX0_onDeskOf : Room := { frames := 0, cells := 0, slots := 0, locals := 0 }
theorem hd_X0_onDeskOf : yX0_onDeskOf.cls = RX0 ∧ yX0_onDeskOf.cls ≠ "java/lang/invoke/MethodHandle" ∧ yX0_onDeskOf.cls ≠ "java/lang/invoke/VarHandle" ∧ (parseMethodDescriptor yX0_onDeskOf.desc).map (fun d => d.parameters.length) = some 1 := by decide +kernel
set_option maxHeartbeats 4000000 in
set_option maxRecDepth 100000 in
theorem c_X0_onDeskOf (l : Launch) (D : va_G) (c : Nat → ClassId) (a : Nat → Nat) (σ : Nat → Nat → Int32) (w : Int32) (hq : wfQ σ) : wk_RdI l yX0_onDeskOf wsX0_onDeskOf rmX0_onDeskOf D (tysL c) [.ref (a 0), .int w] (affW c a σ) (odL (σ 8) (σ 7) w (nQ σ)) := by
  refine wk_mkR (cc := cX0_onDeskOf) (maxL := 4) (rt := .int) (by decide) rfl (Nat.le_of_ble_eq_true rfl) rfl ?_
  intro pr ev ss mm args below meth cd ls H Q hst hP hK hl ret
  obtain ⟨hx, hb, hml, hown, hts, -⟩ := hst
  have hown : ss.vm.findClass RX0 = some mm.cls := hown
  have hl : lv_has ls 4 [(0, .ref (a 0)), (1, .int w)] := hl
  have k1 := hts (.fieldLink RX0 40 "LastWord$Affairs" "quarrels" "I") (List.mem_of_getElem? (i := 1) rfl)
  have k2 := hts (.fieldLink RX0 24 "LastWord$Affairs" "owes" "[I") (List.mem_of_getElem? (i := 2) rfl)
  have k3 := hts (.fieldLink RX0 21 "LastWord$Affairs" "printedOn" "[I") (List.mem_of_getElem? (i := 3) rfl)
  have iX0 : ∀ w ∈ u_ws RX0 TX0 11, w ∈ wsX0_onDeskOf := fun _ h => (List.mem_cons_of_mem _ (List.mem_append_right _ h))
  have hq6 := hq.2
  refine lv_bipush (v := -9) hx hb dX0_onDeskOf_0 (by decide) ?_
  refine lv_istore_n (lv' := [(2, .int ((-9))), (0, .ref (a 0)), (1, .int w)]) hx hb dX0_onDeskOf_2 rfl hl (by decide) rfl (fun ls hl => ?_)
  refine lv_iconst (v := 0) hx hb dX0_onDeskOf_3 (by decide) ?_
  refine lv_istore_n (lv' := [(3, .int 0), (2, .int ((-9))), (0, .ref (a 0)), (1, .int w)]) hx hb dX0_onDeskOf_4 rfl hl (by decide) rfl (fun ls hl => ?_)
  have lp5 : ∀ (n : Nat) (i : Nat), (i ≤ nQ σ) → nQ σ - i < n → ∀ ls : Array Slot, lv_has ls 4 [(0, .ref (a 0)), (1, .int w), (2, .int (odL (σ 8) (σ 7) w i)), (3, .int (nI i))] → W pr l ev rmX0_onDeskOf ss mm args below meth cd H [] 0 0 Q (F0 mm 5 ls []) := by
    intro n
    induction n with
    | zero => intro i hi hn; exact absurd hn (Nat.not_lt_zero _)
    | succ n ih5 =>
      intro i hi hn ls hl
      refine lv_iload_n hx hb dX0_onDeskOf_5 rfl (lv_at hl 3 rfl) ?_
      refine lv_aload_n hx hb dX0_onDeskOf_6 rfl (lv_at hl 0 rfl) ?_
      refine wg_X0_2 hx hb hts iX0 hown hK hP 0 rfl k1 (v := .int (σ 2 0)) rfl dX0_onDeskOf_7 ?_
      refine wk_eqi (hq.1) ?_
      refine wk_ge (tgt := 52) hx hb i (nQ σ) rfl rfl (by omega) (by omega) dX0_onDeskOf_10 (by decide) (fun h1 => ?_) (fun h1 => ?_)
      · refine lv_iload_n hx hb dX0_onDeskOf_52 rfl (lv_at hl 2 rfl) ?_
        exact ret 53 ls (odL (σ 8) (σ 7) w i) (by rw [show i = nQ σ by omega]) dX0_onDeskOf_53
      refine lv_aload_n hx hb dX0_onDeskOf_13 rfl (lv_at hl 0 rfl) ?_
      refine wg_X0_8 hx hb hts iX0 hown hK hP 0 rfl k2 (v := .ref (a 8)) rfl dX0_onDeskOf_14 ?_
      refine lv_iload_n hx hb dX0_onDeskOf_17 rfl (lv_at hl 3 rfl) ?_
      refine wk_ald (f := σ 8) hx hb hK hP 5 0 rfl rfl i rfl (by omega) (by decide) dX0_onDeskOf_18 ?_
      refine lv_iload_n hx hb dX0_onDeskOf_19 rfl (lv_at hl 1 rfl) ?_
      refine lv_icmp_ne (tgt := 46) hx hb dX0_onDeskOf_20 (by decide) (fun h2 => ?_) (fun h2 => ?_)
      · refine lv_iinc (v := nI (i + 1)) (lv' := [(3, .int (nI (i + 1))), (0, .ref (a 0)), (1, .int w), (2, .int (odL (σ 8) (σ 7) w i))]) hx hb dX0_onDeskOf_46 hl (k := 3) rfl (nI_inc i 1) (by decide) rfl (fun ls hl => ?_)
        refine lv_goto (tgt := 5) hx hb dX0_onDeskOf_49 (by decide) ?_
        have hl : lv_has ls 4 [(0, .ref (a 0)), (1, .int w), (2, .int (odL (σ 8) (σ 7) w i)), (3, .int (nI (i + 1)))] := lv_sub hl [1, 2, 3, 0] rfl
        have hl := wk_lset (y := odL (σ 8) (σ 7) w (i + 1)) (lv_sub (l' := [(2, .int (odL (σ 8) (σ 7) w i)), (0, .ref (a 0)), (1, .int w), (3, .int (nI (i + 1)))]) hl [2, 0, 1, 3] rfl) (by first | rfl | (simp [odL, ← Int32.not_le, h1, h2]; done))
        have hl : lv_has ls 4 [(0, .ref (a 0)), (1, .int w), (2, .int (odL (σ 8) (σ 7) w (i + 1))), (3, .int (nI (i + 1)))] := lv_sub hl [1, 2, 0, 3] rfl
        exact ih5 (i + 1) (by omega) (by omega) ls hl
      refine lv_iload_n hx hb dX0_onDeskOf_23 rfl (lv_at hl 2 rfl) ?_
      refine lv_bipush (v := -9) hx hb dX0_onDeskOf_24 (by decide) ?_
      refine lv_icmp_eq (tgt := 44) hx hb dX0_onDeskOf_26 (by decide) (fun h3 => ?_) (fun h3 => ?_)
      · refine lv_iload_n hx hb dX0_onDeskOf_44 rfl (lv_at hl 3 rfl) ?_
        refine lv_istore_n (lv' := [(2, .int (nI i)), (0, .ref (a 0)), (1, .int w), (3, .int (nI i))]) hx hb dX0_onDeskOf_45 rfl hl (by decide) rfl (fun ls hl => ?_)
        refine lv_iinc (v := nI (i + 1)) (lv' := [(3, .int (nI (i + 1))), (2, .int (nI i)), (0, .ref (a 0)), (1, .int w)]) hx hb dX0_onDeskOf_46 hl (k := 3) rfl (nI_inc i 1) (by decide) rfl (fun ls hl => ?_)
        refine lv_goto (tgt := 5) hx hb dX0_onDeskOf_49 (by decide) ?_
        have hl : lv_has ls 4 [(0, .ref (a 0)), (1, .int w), (2, .int (nI i)), (3, .int (nI (i + 1)))] := lv_sub hl [2, 3, 1, 0] rfl
        have hl := wk_lset (y := odL (σ 8) (σ 7) w (i + 1)) (lv_sub (l' := [(2, .int (nI i)), (0, .ref (a 0)), (1, .int w), (3, .int (nI (i + 1)))]) hl [2, 0, 1, 3] rfl) (by first | rfl | (simp [odL, ← Int32.not_le, h1, h2, h3]; done))
        have hl : lv_has ls 4 [(0, .ref (a 0)), (1, .int w), (2, .int (odL (σ 8) (σ 7) w (i + 1))), (3, .int (nI (i + 1)))] := lv_sub hl [1, 2, 0, 3] rfl
        exact ih5 (i + 1) (by omega) (by omega) ls hl
      have ho : ixOK (odL (σ 8) (σ 7) w i) i := (od_ok (σ 8) (σ 7) w i (by omega)).elim (fun e => absurd e h3) id
      refine lv_aload_n hx hb dX0_onDeskOf_29 rfl (lv_at hl 0 rfl) ?_
      refine wg_X0_7 hx hb hts iX0 hown hK hP 0 rfl k3 (v := .ref (a 7)) rfl dX0_onDeskOf_30 ?_
      refine lv_iload_n hx hb dX0_onDeskOf_33 rfl (lv_at hl 3 rfl) ?_
      refine wk_ald (f := σ 7) hx hb hK hP 4 0 rfl rfl i rfl (by omega) (by decide) dX0_onDeskOf_34 ?_
      refine lv_aload_n hx hb dX0_onDeskOf_35 rfl (lv_at hl 0 rfl) ?_
      refine wg_X0_7 hx hb hts iX0 hown hK hP 0 rfl k3 (v := .ref (a 7)) rfl dX0_onDeskOf_36 ?_
      refine lv_iload_n hx hb dX0_onDeskOf_39 rfl (lv_at hl 2 rfl) ?_
      refine wk_ald (f := σ 7) hx hb hK hP 4 0 rfl rfl ((odL (σ 8) (σ 7) w i).toNatClampNeg) (ho.1) (Nat.lt_of_lt_of_le ho.2 (by omega)) (by decide) dX0_onDeskOf_40 ?_
      refine lv_icmp_ge (tgt := 46) hx hb dX0_onDeskOf_41 (by decide) (fun h4 => ?_) (fun h4 => ?_)
      · refine lv_iinc (v := nI (i + 1)) (lv' := [(3, .int (nI (i + 1))), (0, .ref (a 0)), (1, .int w), (2, .int (odL (σ 8) (σ 7) w i))]) hx hb dX0_onDeskOf_46 hl (k := 3) rfl (nI_inc i 1) (by decide) rfl (fun ls hl => ?_)
        refine lv_goto (tgt := 5) hx hb dX0_onDeskOf_49 (by decide) ?_
        have hl : lv_has ls 4 [(0, .ref (a 0)), (1, .int w), (2, .int (odL (σ 8) (σ 7) w i)), (3, .int (nI (i + 1)))] := lv_sub hl [1, 2, 3, 0] rfl
        have hl := wk_lset (y := odL (σ 8) (σ 7) w (i + 1)) (lv_sub (l' := [(2, .int (odL (σ 8) (σ 7) w i)), (0, .ref (a 0)), (1, .int w), (3, .int (nI (i + 1)))]) hl [2, 0, 1, 3] rfl) (by first | rfl | (simp [odL, ← Int32.not_le, h1, h2, h3, h4]; done))
        have hl : lv_has ls 4 [(0, .ref (a 0)), (1, .int w), (2, .int (odL (σ 8) (σ 7) w (i + 1))), (3, .int (nI (i + 1)))] := lv_sub hl [1, 2, 0, 3] rfl
        exact ih5 (i + 1) (by omega) (by omega) ls hl
      refine lv_iload_n hx hb dX0_onDeskOf_44 rfl (lv_at hl 3 rfl) ?_
      refine lv_istore_n (lv' := [(2, .int (nI i)), (0, .ref (a 0)), (1, .int w), (3, .int (nI i))]) hx hb dX0_onDeskOf_45 rfl hl (by decide) rfl (fun ls hl => ?_)
      refine lv_iinc (v := nI (i + 1)) (lv' := [(3, .int (nI (i + 1))), (2, .int (nI i)), (0, .ref (a 0)), (1, .int w)]) hx hb dX0_onDeskOf_46 hl (k := 3) rfl (nI_inc i 1) (by decide) rfl (fun ls hl => ?_)
      refine lv_goto (tgt := 5) hx hb dX0_onDeskOf_49 (by decide) ?_
      have hl : lv_has ls 4 [(0, .ref (a 0)), (1, .int w), (2, .int (nI i)), (3, .int (nI (i + 1)))] := lv_sub hl [2, 3, 1, 0] rfl
      have hl := wk_lset (y := odL (σ 8) (σ 7) w (i + 1)) (lv_sub (l' := [(2, .int (nI i)), (0, .ref (a 0)), (1, .int w), (3, .int (nI (i + 1)))]) hl [2, 0, 1, 3] rfl) (by first | rfl | (simp [odL, ← Int32.not_le, h1, h2, h3, h4]; done))
      have hl : lv_has ls 4 [(0, .ref (a 0)), (1, .int w), (2, .int (odL (σ 8) (σ 7) w (i + 1))), (3, .int (nI (i + 1)))] := lv_sub hl [1, 2, 0, 3] rfl
      exact ih5 (i + 1) (by omega) (by omega) ls hl
  have hl : lv_has ls 4 [(0, .ref (a 0)), (1, .int w), (2, .int ((-9))), (3, .int 0)] := lv_sub hl [2, 3, 1, 0] rfl
  have hl := wk_lset (y := odL (σ 8) (σ 7) w 0) (lv_sub (l' := [(2, .int ((-9))), (0, .ref (a 0)), (1, .int w), (3, .int 0)]) hl [2, 0, 1, 3] rfl) (by first | rfl | (simp [odL, ← Int32.not_le]; done))
  have hl : lv_has ls 4 [(0, .ref (a 0)), (1, .int w), (2, .int (odL (σ 8) (σ 7) w 0)), (3, .int 0)] := lv_sub hl [1, 2, 0, 3] rfl
  have hl := wk_lset (y := nI 0) (lv_sub (l' := [(3, .int 0), (0, .ref (a 0)), (1, .int w), (2, .int (odL (σ 8) (σ 7) w 0))]) hl [3, 0, 1, 2] rfl) (by first | rfl | (simp [odL, ← Int32.not_le]; done))
  have hl : lv_has ls 4 [(0, .ref (a 0)), (1, .int w), (2, .int (odL (σ 8) (σ 7) w 0)), (3, .int (nI 0))] := lv_sub hl [1, 2, 3, 0] rfl
  exact lp5 _ 0 (by omega) (Nat.lt_succ_self _) ls hl

abbrev rmX0_turnsLate : Room := { frames := 0, cells := 0, slots := 0, locals := 0 }
theorem hd_X0_turnsLate : yX0_turnsLate.cls = RX0 ∧ yX0_turnsLate.cls ≠ "java/lang/invoke/MethodHandle" ∧ yX0_turnsLate.cls ≠ "java/lang/invoke/VarHandle" ∧ (parseMethodDescriptor yX0_turnsLate.desc).map (fun d => d.parameters.length) = some 2 := by decide +kernel
set_option maxHeartbeats 4000000 in
set_option maxRecDepth 100000 in
theorem c_X0_turnsLate (l : Launch) (D : va_G) (c : Nat → ClassId) (a : Nat → Nat) (σ : Nat → Nat → Int32) (q : Nat) (term : Int32) (hq : q < 6) : wk_RdI l yX0_turnsLate wsX0_turnsLate rmX0_turnsLate D (tysL c) [.ref (a 0), .int (nI q), .int term] (affW c a σ) (if σ 0 0 - σ 7 q = term then 1 else 0) := by
  refine wk_mkR (cc := cX0_turnsLate) (maxL := 3) (rt := .boolean) (by decide) rfl (Nat.le_of_ble_eq_true rfl) wk_narZ ?_
  intro pr ev ss mm args below meth cd ls H Q hst hP hK hl ret
  obtain ⟨hx, hb, hml, hown, hts, -⟩ := hst
  have hown : ss.vm.findClass RX0 = some mm.cls := hown
  have hl : lv_has ls 3 [(0, .ref (a 0)), (1, .int (nI q)), (2, .int term)] := hl
  have k1 := hts (.fieldLink RX0 33 "LastWord$Affairs" "today" "I") (List.mem_of_getElem? (i := 1) rfl)
  have k2 := hts (.fieldLink RX0 21 "LastWord$Affairs" "printedOn" "[I") (List.mem_of_getElem? (i := 2) rfl)
  have iX0 : ∀ w ∈ u_ws RX0 TX0 11, w ∈ wsX0_turnsLate := fun _ h => (List.mem_cons_of_mem _ (List.mem_append_right _ h))
  refine lv_aload_n hx hb dX0_turnsLate_0 rfl (lv_at hl 0 rfl) ?_
  refine wg_X0_0 hx hb hts iX0 hown hK hP 0 rfl k1 (v := .int (σ 0 0)) rfl dX0_turnsLate_1 ?_
  refine lv_aload_n hx hb dX0_turnsLate_4 rfl (lv_at hl 0 rfl) ?_
  refine wg_X0_7 hx hb hts iX0 hown hK hP 0 rfl k2 (v := .ref (a 7)) rfl dX0_turnsLate_5 ?_
  refine lv_iload_n hx hb dX0_turnsLate_8 rfl (lv_at hl 1 rfl) ?_
  refine wk_ald (f := σ 7) hx hb hK hP 4 0 rfl rfl q rfl (by omega) (by decide) dX0_turnsLate_9 ?_
  refine lv_isub hx hb dX0_turnsLate_10 ?_
  refine lv_iload_n hx hb dX0_turnsLate_11 rfl (lv_at hl 2 rfl) ?_
  refine lv_icmp_ne (tgt := 19) hx hb dX0_turnsLate_12 (by decide) (fun h1 => ?_) (fun h1 => ?_)
  · refine lv_iconst (v := 0) hx hb dX0_turnsLate_19 (by decide) ?_
    exact ret 20 ls 0 (by simp [h1]) dX0_turnsLate_20
  refine lv_iconst (v := 1) hx hb dX0_turnsLate_15 (by decide) ?_
  refine lv_goto (tgt := 20) hx hb dX0_turnsLate_16 (by decide) ?_
  exact ret 20 ls 1 (by simp [h1]) dX0_turnsLate_20

abbrev rmX0_layDown : Room := { frames := 2, cells := 0, slots := 0, locals := 50 }
theorem hd_X0_layDown : yX0_layDown.cls = RX0 ∧ yX0_layDown.cls ≠ "java/lang/invoke/MethodHandle" ∧ yX0_layDown.cls ≠ "java/lang/invoke/VarHandle" ∧ (parseMethodDescriptor yX0_layDown.desc).map (fun d => d.parameters.length) = some 2 := by decide +kernel
set_option maxHeartbeats 4000000 in
set_option maxRecDepth 100000 in
theorem c_X0_layDown (l : Launch) (D : va_G) (c : Nat → ClassId) (a : Nat → Nat) (σ : Nat → Nat → Int32) (p : Nat → Nat) (π : Nat → Nat → Int32) (w : Nat) (hp : wfP π) (ha : wfA π σ) : wk_UpI l yX0_layDown wsX0_layDown rmX0_layDown D (tysL c) [.ref (a 0), .ref (p 0), .int (nI w)] (affW c a σ ++ pageW c p π) (affW c a (layF π σ w) ++ pageW c p π) (bcF (layB σ w)) := by
  refine wk_mkU (cc := cX0_layDown) (maxL := 5) (rt := .int) (by decide) rfl (Nat.le_of_ble_eq_true rfl) rfl ?_
  intro A pr ev ss mm args below meth cd ls H H0 locs Q hst hP hK hD hS hA hl ret
  obtain ⟨hx, hb, hml, hown, hts, -⟩ := hst
  have hown : ss.vm.findClass RX0 = some mm.cls := hown
  have hl : lv_has ls 5 [(0, .ref (a 0)), (1, .ref (p 0)), (2, .int (nI w))] := hl
  have k1 := hts (.fieldLink RX0 43 "LastWord$Affairs" "laid" "I") (List.mem_of_getElem? (i := 1) rfl)
  have k2 := hts (.fieldLink RX0 40 "LastWord$Affairs" "quarrels" "I") (List.mem_of_getElem? (i := 2) rfl)
  have iX0 : ∀ w ∈ u_ws RX0 TX0 11, w ∈ wsX0_layDown := fun _ h => (List.mem_cons_of_mem _ (List.mem_append_left _ (List.mem_append_right _ h)))
  have hq6 := ha.1.2
  refine lv_aload_n hx hb dX0_layDown_0 rfl (lv_at hl 0 rfl) ?_
  refine lv_iload_n hx hb dX0_layDown_1 rfl (lv_at hl 2 rfl) ?_
  refine wk_callRV (As := [.int (nI w)]) (rest := []) ⟨hx, hb, hml, hown, hts⟩ (c_X0_owedBits l D c a σ (nI w) (ha.1)) (cwV 1 hts gX0_layDown_X0_owedBits rfl rfl rfl hd_X0_owedBits ⟨Nat.le_of_ble_eq_true rfl, Nat.le_of_ble_eq_true rfl⟩) hK hP [0, 1, 2, 3, 4, 5, 6, 7] rfl 0 rfl rfl rfl hl.1 rfl (Nat.le_of_ble_eq_true rfl) dX0_layDown_2 (Nat.zero_le _) (Nat.zero_le _) ?_
  refine wk_eqi (y := layB σ w) rfl ?_
  refine lv_istore_n (lv' := [(3, .int (layB σ w)), (0, .ref (a 0)), (1, .ref (p 0)), (2, .int (nI w))]) hx hb dX0_layDown_5 rfl hl (by decide) rfl (fun ls hl => ?_)
  refine lv_aload_n hx hb dX0_layDown_6 rfl (lv_at hl 1 rfl) ?_
  refine lv_dup hx hb dX0_layDown_7 rfl ?_
  refine wg_X0_3 hx hb hts iX0 hown hK hP 0 rfl k1 (v := .int (σ 3 0)) rfl dX0_layDown_8 ?_
  refine lv_iconst (v := 1) hx hb dX0_layDown_11 (by decide) ?_
  refine lv_iload_n hx hb dX0_layDown_12 rfl (lv_at hl 3 rfl) ?_
  refine lv_ishl hx hb dX0_layDown_13 ?_
  refine lv_ior hx hb dX0_layDown_14 ?_
  refine wp_X0_3 hx hb hts iX0 hown hK hP hD hS 0 rfl k1 (Nat.le_of_ble_eq_true rfl) dX0_layDown_15 (ws' := affW c a (va_up σ 3 (fun _ => (σ 3 0) ||| (1 <<< ((nI w) &&& 31)))) ++ pageW c p π) rfl (fun H locs hP hD hS => ?_)
  refine lv_iconst (v := 0) hx hb dX0_layDown_18 (by decide) ?_
  refine lv_istore (lv' := [(4, .int 0), (3, .int (layB σ w)), (0, .ref (a 0)), (1, .ref (p 0)), (2, .int (nI w))]) hx hb dX0_layDown_19 hl (by decide) rfl (fun ls hl => ?_)
  have lp21 : ∀ (n : Nat) (i : Nat), (i ≤ nQ σ) → nQ σ - i < n → ∀ (H : Heap) (locs : List Loc), va_P D vwCl (affW c a (layL π σ w i) ++ pageW c p π) H → va_D A (affW c a (layL π σ w i) ++ pageW c p π) → va_S A H0 H locs → ∀ ls : Array Slot, lv_has ls 5 [(0, .ref (a 0)), (1, .ref (p 0)), (2, .int (nI w)), (3, .int (layB σ w)), (4, .int (nI i))] → W pr l ev rmX0_layDown ss mm args below meth cd H locs 0 0 Q (F0 mm 21 ls []) := by
    intro n
    induction n with
    | zero => intro i hi hn; exact absurd hn (Nat.not_lt_zero _)
    | succ n ih21 =>
      intro i hi hn H locs hP hD hS ls hl
      have hwf := layL_wf hp ha w i
      have hqi : layL π σ w i 2 0 = nI (nQ σ) := by rw [layL_2]; exact ha.1.1
      have hni : nQ (layL π σ w i) = nQ σ := nQ_of (layL_2 π σ w i)
      refine lv_iload hx hb dX0_layDown_21 (lv_at hl 4 rfl) ?_
      refine lv_aload_n hx hb dX0_layDown_23 rfl (lv_at hl 0 rfl) ?_
      refine wg_X0_2 hx hb hts iX0 hown hK hP 0 rfl k2 (v := .int ((layL π σ w i) 2 0)) rfl dX0_layDown_24 ?_
      refine wk_eqi (hqi) ?_
      refine wk_ge (tgt := 53) hx hb i (nQ σ) rfl rfl (by omega) (by omega) dX0_layDown_27 (by decide) (fun h1 => ?_) (fun h1 => ?_)
      · refine lv_iload_n hx hb dX0_layDown_53 rfl (lv_at hl 3 rfl) ?_
        refine wk_callRS (As := [.int (layB σ w)]) (rest := []) ⟨hx, hb, hml, hown, hts⟩ (c_J6_bitCount_0f7a4 l D c (layB σ w)) (va_cwS 1 hts gX0_layDown_J6_bitCount_0f7a4 rfl rfl rfl hd_J6_bitCount_0f7a4 ⟨Nat.le_of_ble_eq_true rfl, Nat.le_of_ble_eq_true rfl⟩) hK hP [] rfl rfl hl.1 rfl (Nat.le_of_ble_eq_true rfl) dX0_layDown_54 (Nat.zero_le _) (Nat.zero_le _) ?_
        have eg2 : layL π σ w i = layF π σ w := by rw [layF, show i = nQ σ by omega]
        have hP : va_P D vwCl (affW c a (layF π σ w) ++ pageW c p π) H := by rw [← eg2]; exact hP
        have hD : va_D A (affW c a (layF π σ w) ++ pageW c p π) := by rw [← eg2]; exact hD
        exact ret 57 ls H _ (bcF (layB σ w)) (rfl) hP hS dX0_layDown_57
      refine lv_iload_n hx hb dX0_layDown_30 rfl (lv_at hl 3 rfl) ?_
      refine lv_iload hx hb dX0_layDown_31 (lv_at hl 4 rfl) ?_
      refine lv_ishr hx hb dX0_layDown_33 ?_
      refine lv_iconst (v := 1) hx hb dX0_layDown_34 (by decide) ?_
      refine lv_iand hx hb dX0_layDown_35 ?_
      refine lv_iconst (v := 1) hx hb dX0_layDown_36 (by decide) ?_
      refine lv_icmp_ne (tgt := 47) hx hb dX0_layDown_37 (by decide) (fun h3 => ?_) (fun h3 => ?_)
      · refine lv_iinc (v := nI (i + 1)) (lv' := [(4, .int (nI (i + 1))), (0, .ref (a 0)), (1, .ref (p 0)), (2, .int (nI w)), (3, .int (layB σ w))]) hx hb dX0_layDown_47 hl (k := 4) rfl (nI_inc i 1) (by decide) rfl (fun ls hl => ?_)
        refine lv_goto (tgt := 21) hx hb dX0_layDown_50 (by decide) ?_
        have eg4 : layL π σ w i = layL π σ w (i + 1) := by first | rfl | (simp [layL, h1, h3]; done)
        have hP : va_P D vwCl (affW c a (layL π σ w (i + 1)) ++ pageW c p π) H := by rw [← eg4]; exact hP
        have hD : va_D A (affW c a (layL π σ w (i + 1)) ++ pageW c p π) := by rw [← eg4]; exact hD
        have hl : lv_has ls 5 [(0, .ref (a 0)), (1, .ref (p 0)), (2, .int (nI w)), (3, .int (layB σ w)), (4, .int (nI (i + 1)))] := lv_sub hl [1, 2, 3, 4, 0] rfl
        exact ih21 (i + 1) (by omega) (by omega) H _ hP hD hS ls hl
      refine lv_aload_n hx hb dX0_layDown_40 rfl (lv_at hl 0 rfl) ?_
      refine lv_aload_n hx hb dX0_layDown_41 rfl (lv_at hl 1 rfl) ?_
      refine lv_iload hx hb dX0_layDown_42 (lv_at hl 4 rfl) ?_
      refine wk_callVV (As := [.ref (p 0), .int (nI i)]) (rest := []) ⟨hx, hb, hml, hown, hts⟩ (c_X0_charge l D c a (layL π σ w i) p π i (hp) (by omega) ((hwf.2 i (by omega)).1)) (cwV 2 hts gX0_layDown_X0_charge rfl rfl rfl hd_X0_charge ⟨Nat.le_of_ble_eq_true rfl, Nat.le_of_ble_eq_true rfl⟩) hK hP hD hS hA [0, 1, 2, 3, 4, 5, 6, 7, 8, 9, 10, 11, 12, 13, 14, 15, 16, 17] [] 18 rfl rfl [a 0, a 4, a 5, a 6, a 7, a 8, a 9, a 10, p 0, p 2, p 3, p 4, p (5 + 0), p (5 + 1), p (5 + 2), p (5 + 3), p (5 + 4), p (5 + 5)] rfl rfl (ws' := affW c a (chargeF π (layL π σ w i) i) ++ pageW c p π) rfl (wr := []) rfl rfl rfl rfl 0 rfl rfl rfl hl.1 rfl (Nat.le_of_ble_eq_true rfl) dX0_layDown_44 (Nat.zero_le _) (Nat.zero_le _) (fun H locs hP hD hS => ?_)
      refine lv_iinc (v := nI (i + 1)) (lv' := [(4, .int (nI (i + 1))), (0, .ref (a 0)), (1, .ref (p 0)), (2, .int (nI w)), (3, .int (layB σ w))]) hx hb dX0_layDown_47 hl (k := 4) rfl (nI_inc i 1) (by decide) rfl (fun ls hl => ?_)
      refine lv_goto (tgt := 21) hx hb dX0_layDown_50 (by decide) ?_
      have eg5 : chargeF π (layL π σ w i) i = layL π σ w (i + 1) := by first | rfl | (simp [layL, h1, h3]; done)
      have hP : va_P D vwCl (affW c a (layL π σ w (i + 1)) ++ pageW c p π) H := by rw [← eg5]; exact hP
      have hD : va_D A (affW c a (layL π σ w (i + 1)) ++ pageW c p π) := by rw [← eg5]; exact hD
      have hl : lv_has ls 5 [(0, .ref (a 0)), (1, .ref (p 0)), (2, .int (nI w)), (3, .int (layB σ w)), (4, .int (nI (i + 1)))] := lv_sub hl [1, 2, 3, 4, 0] rfl
      exact ih21 (i + 1) (by omega) (by omega) H _ hP hD hS ls hl
  have eg6 : va_up σ 3 (fun _ => (σ 3 0) ||| (1 <<< ((nI w) &&& 31))) = layL π σ w 0 := by first | rfl | (simp [layL]; done)
  have hP : va_P D vwCl (affW c a (layL π σ w 0) ++ pageW c p π) H := by rw [← eg6]; exact hP
  have hD : va_D A (affW c a (layL π σ w 0) ++ pageW c p π) := by rw [← eg6]; exact hD
  have hl : lv_has ls 5 [(0, .ref (a 0)), (1, .ref (p 0)), (2, .int (nI w)), (3, .int (layB σ w)), (4, .int 0)] := lv_sub hl [2, 3, 4, 1, 0] rfl
  have hl := wk_lset (y := nI 0) (lv_sub (l' := [(4, .int 0), (0, .ref (a 0)), (1, .ref (p 0)), (2, .int (nI w)), (3, .int (layB σ w))]) hl [4, 0, 1, 2, 3] rfl) (by first | rfl | (simp [layL]; done))
  have hl : lv_has ls 5 [(0, .ref (a 0)), (1, .ref (p 0)), (2, .int (nI w)), (3, .int (layB σ w)), (4, .int (nI 0))] := lv_sub hl [1, 2, 3, 4, 0] rfl
  exact lp21 _ 0 (by omega) (Nat.lt_succ_self _) H locs hP hD hS ls hl

abbrev rmX0_passDay : Room := { frames := 3, cells := 0, slots := 0, locals := 74 }
theorem hd_X0_passDay : yX0_passDay.cls = RX0 ∧ yX0_passDay.cls ≠ "java/lang/invoke/MethodHandle" ∧ yX0_passDay.cls ≠ "java/lang/invoke/VarHandle" ∧ (parseMethodDescriptor yX0_passDay.desc).map (fun d => d.parameters.length) = some 1 := by decide +kernel
set_option maxHeartbeats 4000000 in
set_option maxRecDepth 100000 in
theorem c_X0_passDay (l : Launch) (D : va_G) (c : Nat → ClassId) (a : Nat → Nat) (σ : Nat → Nat → Int32) (p : Nat → Nat) (π : Nat → Nat → Int32) (hp : wfP π) (ha : wfA π σ) : wk_UpI l yX0_passDay wsX0_passDay rmX0_passDay D (tysL c) [.ref (a 0), .ref (p 0)] (affW c a σ ++ pageW c p π) (affW c a (passF π σ) ++ pageW c p π) (passN π σ) := by
  refine wk_mkU (cc := cX0_passDay) (maxL := 5) (rt := .int) (by decide) rfl (Nat.le_of_ble_eq_true rfl) rfl ?_
  intro A pr ev ss mm args below meth cd ls H H0 locs Q hst hP hK hD hS hA hl ret
  obtain ⟨hx, hb, hml, hown, hts, -⟩ := hst
  have hown : ss.vm.findClass RX0 = some mm.cls := hown
  have hl : lv_has ls 5 [(0, .ref (a 0)), (1, .ref (p 0))] := hl
  have k1 := hts (.fieldLink RX0 69 "LastWord$Page" "writers" "I") (List.mem_of_getElem? (i := 1) rfl)
  have k3 := hts (.fieldLink RX0 33 "LastWord$Affairs" "today" "I") (List.mem_of_getElem? (i := 3) rfl)
  have k4 := hts (.fieldLink RX0 40 "LastWord$Affairs" "quarrels" "I") (List.mem_of_getElem? (i := 4) rfl)
  have k5 := hts (.fieldLink RX0 24 "LastWord$Affairs" "owes" "[I") (List.mem_of_getElem? (i := 5) rfl)
  have k2 := hts (.fieldLink RX0 27 "LastWord$Affairs" "work" "[I") (List.mem_of_getElem? (i := 2) rfl)
  have k7 := hts (.fieldLink RX0 81 "LastWord$Page" "term" "I") (List.mem_of_getElem? (i := 7) rfl)
  have k8 := hts (.fieldLink RX0 30 "LastWord$Affairs" "late" "[I") (List.mem_of_getElem? (i := 8) rfl)
  have k9 := hts (.fieldLink RX0 9 "LastWord$Affairs" "lateTimes" "[I") (List.mem_of_getElem? (i := 9) rfl)
  have k6 := hts (.fieldLink RX0 18 "LastWord$Affairs" "subject" "[I") (List.mem_of_getElem? (i := 6) rfl)
  have iX0 : ∀ w ∈ u_ws RX0 TX0 11, w ∈ wsX0_passDay := fun _ h => (List.mem_cons_of_mem _ (List.mem_append_right _ h))
  have iX5 : ∀ w ∈ u_ws RX5 TX5 5, w ∈ wsX0_passDay := fun _ h => (List.mem_cons_of_mem _ (List.mem_append_left _ (List.mem_append_right _ h)))
  have hq6 := ha.1.2
  have hn6 := hp.2.1
  have hnT : nQ (tickF (workA σ (nW π))) = nQ σ := nQ_of (workA_row σ _ 2 (by decide))
  have hq2 : (tickF (workA σ (nW π))) 2 0 = nI (nQ σ) := by rw [← hnT]; exact (tick_wf (workA_wf ha (nW π))).1.1
  refine lv_iconst (v := 0) hx hb dX0_passDay_0 (by decide) ?_
  refine lv_istore_n (lv' := [(2, .int 0), (0, .ref (a 0)), (1, .ref (p 0))]) hx hb dX0_passDay_1 rfl hl (by decide) rfl (fun ls hl => ?_)
  have lp2 : ∀ (n : Nat) (i : Nat), (i ≤ nW π) → nW π - i < n → ∀ (H : Heap) (locs : List Loc), va_P D vwCl (affW c a (workA σ i) ++ pageW c p π) H → va_D A (affW c a (workA σ i) ++ pageW c p π) → va_S A H0 H locs → ∀ ls : Array Slot, lv_has ls 5 [(0, .ref (a 0)), (1, .ref (p 0)), (2, .int (nI i))] → W pr l ev rmX0_passDay ss mm args below meth cd H locs 0 0 Q (F0 mm 2 ls []) := by
    intro n
    induction n with
    | zero => intro i hi hn; exact absurd hn (Nat.not_lt_zero _)
    | succ n ih2 =>
      intro i hi hn H locs hP hD hS ls hl
      have hwf := workA_wf ha i
      have hni : nQ (workA σ i) = nQ σ := nQ_of (workA_row σ i 2 (by decide))
      refine lv_iload_n hx hb dX0_passDay_2 rfl (lv_at hl 2 rfl) ?_
      refine lv_aload_n hx hb dX0_passDay_3 rfl (lv_at hl 1 rfl) ?_
      refine wg_X5_0 hx hb hts iX5 hown hK hP 8 rfl k1 (v := .int (π 0 0)) rfl dX0_passDay_4 ?_
      refine wk_eqi (hp.1) ?_
      refine wk_ge (tgt := 38) hx hb i (nW π) rfl rfl (by omega) (by omega) dX0_passDay_7 (by decide) (fun h1 => ?_) (fun h1 => ?_)
      · have hiw : i = nW π := by omega
        subst hiw
        refine lv_aload_n hx hb dX0_passDay_38 rfl (lv_at hl 0 rfl) ?_
        refine lv_dup hx hb dX0_passDay_39 rfl ?_
        refine wg_X0_0 hx hb hts iX0 hown hK hP 0 rfl k3 (v := .int ((workA σ (nW π)) 0 0)) rfl dX0_passDay_40 ?_
        refine lv_iconst (v := 1) hx hb dX0_passDay_43 (by decide) ?_
        refine lv_iadd hx hb dX0_passDay_44 ?_
        refine wp_X0_0 hx hb hts iX0 hown hK hP hD hS 0 rfl k3 (Nat.le_of_ble_eq_true rfl) dX0_passDay_45 (ws' := affW c a (va_up (workA σ (nW π)) 0 (fun _ => ((workA σ (nW π)) 0 0) + 1)) ++ pageW c p π) rfl (fun H locs hP hD hS => ?_)
        refine lv_iconst (v := 0) hx hb dX0_passDay_48 (by decide) ?_
        refine lv_istore_n (lv' := [(2, .int 0), (0, .ref (a 0)), (1, .ref (p 0))]) hx hb dX0_passDay_49 rfl hl (by decide) rfl (fun ls hl => ?_)
        refine lv_iconst (v := 0) hx hb dX0_passDay_50 (by decide) ?_
        refine lv_istore_n (lv' := [(3, .int 0), (2, .int 0), (0, .ref (a 0)), (1, .ref (p 0))]) hx hb dX0_passDay_51 rfl hl (by decide) rfl (fun ls hl => ?_)
        have lp52 : ∀ (n : Nat) (j : Nat), (j ≤ nQ σ) → nQ σ - j < n → ∀ (H : Heap) (locs : List Loc), va_P D vwCl (affW c a (dayA π (tickF (workA σ (nW π))) j) ++ pageW c p π) H → va_D A (affW c a (dayA π (tickF (workA σ (nW π))) j) ++ pageW c p π) → va_S A H0 H locs → ∀ ls : Array Slot, lv_has ls 5 [(0, .ref (a 0)), (1, .ref (p 0)), (2, .int (dayN π (tickF (workA σ (nW π))) j)), (3, .int (nI j))] → W pr l ev rmX0_passDay ss mm args below meth cd H locs 0 0 Q (F0 mm 52 ls []) := by
          intro n
          induction n with
          | zero => intro j hj hn; exact absurd hn (Nat.not_lt_zero _)
          | succ n ih52 =>
            intro j hj hn H locs hP hD hS ls hl
            have hwf := dayA_wf hp (tick_wf (workA_wf ha (nW π))) j (by rw [hnT]; omega)
            have hqi : dayA π (tickF (workA σ (nW π))) j 2 0 = nI (nQ σ) := by rw [dayA_2]; exact hq2
            have hni : nQ (dayA π (tickF (workA σ (nW π))) j) = nQ σ := (nQ_of (dayA_2 π _ j)).trans hnT
            refine lv_iload_n hx hb dX0_passDay_52 rfl (lv_at hl 3 rfl) ?_
            refine lv_aload_n hx hb dX0_passDay_53 rfl (lv_at hl 0 rfl) ?_
            refine wg_X0_2 hx hb hts iX0 hown hK hP 0 rfl k4 (v := .int ((dayA π (tickF (workA σ (nW π))) j) 2 0)) rfl dX0_passDay_54 ?_
            refine wk_eqi (hqi) ?_
            refine wk_ge (tgt := 149) hx hb j (nQ σ) rfl rfl (by omega) (by omega) dX0_passDay_57 (by decide) (fun h2 => ?_) (fun h2 => ?_)
            · refine lv_iload_n hx hb dX0_passDay_149 rfl (lv_at hl 2 rfl) ?_
              have eg3 : dayA π (tickF (workA σ (nW π))) j = passF π σ := by rw [passF, show j = nQ σ by omega]
              have hP : va_P D vwCl (affW c a (passF π σ) ++ pageW c p π) H := by rw [← eg3]; exact hP
              have hD : va_D A (affW c a (passF π σ) ++ pageW c p π) := by rw [← eg3]; exact hD
              exact ret 150 ls H _ (dayN π (tickF (workA σ (nW π))) j) (by rw [passN, show j = nQ σ by omega]) hP hS dX0_passDay_150
            refine lv_aload_n hx hb dX0_passDay_60 rfl (lv_at hl 0 rfl) ?_
            refine wg_X0_8 hx hb hts iX0 hown hK hP 0 rfl k5 (v := .ref (a 8)) rfl dX0_passDay_61 ?_
            refine lv_iload_n hx hb dX0_passDay_64 rfl (lv_at hl 3 rfl) ?_
            refine wk_ald (f := (dayA π (tickF (workA σ (nW π))) j) 8) hx hb hK hP 5 0 rfl rfl j rfl (by omega) (by decide) dX0_passDay_65 ?_
            refine lv_istore (lv' := [(4, .int ((dayA π (tickF (workA σ (nW π))) j) 8 j)), (0, .ref (a 0)), (1, .ref (p 0)), (2, .int (dayN π (tickF (workA σ (nW π))) j)), (3, .int (nI j))]) hx hb dX0_passDay_66 hl (by decide) rfl (fun ls hl => ?_)
            refine lv_iload hx hb dX0_passDay_68 (lv_at hl 0 rfl) ?_
            refine lv_bipush (v := -9) hx hb dX0_passDay_70 (by decide) ?_
            refine lv_icmp_ne (tgt := 78) hx hb dX0_passDay_72 (by decide) (fun h4 => ?_) (fun h4 => ?_)
            rotate_left
            · refine lv_goto (tgt := 143) hx hb dX0_passDay_75 (by decide) ?_
              refine lv_iinc (v := nI (j + 1)) (lv' := [(3, .int (nI (j + 1))), (4, .int ((dayA π (tickF (workA σ (nW π))) j) 8 j)), (0, .ref (a 0)), (1, .ref (p 0)), (2, .int (dayN π (tickF (workA σ (nW π))) j))]) hx hb dX0_passDay_143 hl (k := 4) rfl (nI_inc j 1) (by decide) rfl (fun ls hl => ?_)
              refine lv_goto (tgt := 52) hx hb dX0_passDay_146 (by decide) ?_
              have eg10 : dayA π (tickF (workA σ (nW π))) j = dayA π (tickF (workA σ (nW π))) (j + 1) := by first | rfl | (simp [dayA, dayT, dayN, onS, lateF, h1, h2, h4]; done)
              have hP : va_P D vwCl (affW c a (dayA π (tickF (workA σ (nW π))) (j + 1)) ++ pageW c p π) H := by rw [← eg10]; exact hP
              have hD : va_D A (affW c a (dayA π (tickF (workA σ (nW π))) (j + 1)) ++ pageW c p π) := by rw [← eg10]; exact hD
              have hl : lv_has ls 5 [(0, .ref (a 0)), (1, .ref (p 0)), (2, .int (dayN π (tickF (workA σ (nW π))) j)), (3, .int (nI (j + 1)))] := lv_sub hl [2, 3, 4, 0] rfl
              have hl := wk_lset (y := dayN π (tickF (workA σ (nW π))) (j + 1)) (lv_sub (l' := [(2, .int (dayN π (tickF (workA σ (nW π))) j)), (0, .ref (a 0)), (1, .ref (p 0)), (3, .int (nI (j + 1)))]) hl [2, 0, 1, 3] rfl) (by first | rfl | (simp [dayA, dayT, dayN, onS, lateF, h1, h2, h4]; done))
              have hl : lv_has ls 5 [(0, .ref (a 0)), (1, .ref (p 0)), (2, .int (dayN π (tickF (workA σ (nW π))) (j + 1))), (3, .int (nI (j + 1)))] := lv_sub hl [1, 2, 0, 3] rfl
              exact ih52 (j + 1) (by omega) (by omega) H _ hP hD hS ls hl
            have ho : ixOK ((dayA π (tickF (workA σ (nW π))) j) 8 j) (nW π) := ((hwf.2 j (by omega)).2).elim (fun e => absurd e h4) id
            refine lv_aload_n hx hb dX0_passDay_78 rfl (lv_at hl 1 rfl) ?_
            refine wg_X0_9 hx hb hts iX0 hown hK hP 0 rfl k2 (v := .ref (a 9)) rfl dX0_passDay_79 ?_
            refine lv_iload_n hx hb dX0_passDay_82 rfl (lv_at hl 4 rfl) ?_
            refine wk_ald (f := (dayA π (tickF (workA σ (nW π))) j) 9) hx hb hK hP 6 0 rfl rfl j rfl (by omega) (by decide) dX0_passDay_83 ?_
            refine lv_if_ne (tgt := 113) hx hb dX0_passDay_84 (by decide) (fun h5 => ?_) (fun h5 => ?_)
            rotate_left
            · refine lv_aload_n hx hb dX0_passDay_87 rfl (lv_at hl 1 rfl) ?_
              refine lv_aload_n hx hb dX0_passDay_88 rfl (lv_at hl 2 rfl) ?_
              refine lv_iload_n hx hb dX0_passDay_89 rfl (lv_at hl 4 rfl) ?_
              refine lv_iload hx hb dX0_passDay_90 (lv_at hl 0 rfl) ?_
              refine lv_aload_n hx hb dX0_passDay_92 rfl (lv_at hl 2 rfl) ?_
              refine lv_iload hx hb dX0_passDay_93 (lv_at hl 0 rfl) ?_
              refine wk_eqi (y := nI (((dayA π (tickF (workA σ (nW π))) j) 8 j).toNatClampNeg)) (ho.1) ?_
              refine lv_aload_n hx hb dX0_passDay_95 rfl (lv_at hl 1 rfl) ?_
              refine wg_X0_6 hx hb hts iX0 hown hK hP 0 rfl k6 (v := .ref (a 6)) rfl dX0_passDay_96 ?_
              refine lv_iload_n hx hb dX0_passDay_99 rfl (lv_at hl 4 rfl) ?_
              refine wk_ald (f := (dayA π (tickF (workA σ (nW π))) j) 6) hx hb hK hP 3 0 rfl rfl j rfl (by omega) (by decide) dX0_passDay_100 ?_
              refine wk_eqi (y := nI (((dayA π (tickF (workA σ (nW π))) j) 6 j).toNatClampNeg)) ((hwf.2 j (by omega)).1.1) ?_
              refine wk_callRV (As := [.int (nI (((dayA π (tickF (workA σ (nW π))) j) 8 j).toNatClampNeg)), .int (nI (((dayA π (tickF (workA σ (nW π))) j) 6 j).toNatClampNeg))]) (rest := [.int ((dayA π (tickF (workA σ (nW π))) j) 8 j), .int (nI j), .ref (p 0), .ref (a 0)]) ⟨hx, hb, hml, hown, hts⟩ (c_X5_answerOn l D c p π (((dayA π (tickF (workA σ (nW π))) j) 8 j).toNatClampNeg) (((dayA π (tickF (workA σ (nW π))) j) 6 j).toNatClampNeg) (Nat.lt_of_lt_of_le ho.2 hn6)) (cwV 2 hts gX0_passDay_X5_answerOn rfl rfl rfl hd_X5_answerOn ⟨Nat.le_of_ble_eq_true rfl, Nat.le_of_ble_eq_true rfl⟩) hK hP [8, 9, 10, 11, 12, 13, 14, 15, 16, 17] rfl 0 rfl rfl rfl hl.1 rfl (Nat.le_of_ble_eq_true rfl) dX0_passDay_101 (Nat.zero_le _) (Nat.zero_le _) ?_
              refine wk_eqi (y := onS π (dayA π (tickF (workA σ (nW π))) j) j) rfl ?_
              have hs5 := onS_ok hp hwf (show j < nQ (dayA π (tickF (workA σ (nW π))) j) by omega) h4
              refine wk_eqi (y := nI ((onS π (dayA π (tickF (workA σ (nW π))) j) j).toNatClampNeg)) (hs5.1) ?_
              refine wk_callVV (As := [.ref (p 0), .int (nI j), .int ((dayA π (tickF (workA σ (nW π))) j) 8 j), .int (nI ((onS π (dayA π (tickF (workA σ (nW π))) j) j).toNatClampNeg))]) (rest := []) ⟨hx, hb, hml, hown, hts⟩ (c_X0_print l D c a (dayA π (tickF (workA σ (nW π))) j) p π j ((dayA π (tickF (workA σ (nW π))) j) 8 j) ((onS π (dayA π (tickF (workA σ (nW π))) j) j).toNatClampNeg) (hp) (by omega) (hs5.2)) (cwV 4 hts gX0_passDay_X0_print rfl rfl rfl hd_X0_print ⟨Nat.le_of_ble_eq_true rfl, Nat.le_of_ble_eq_true rfl⟩) hK hP hD hS hA [0, 1, 2, 3, 4, 5, 6, 7, 8, 9, 10, 11, 12, 13, 14, 15, 16, 17] [] 18 rfl rfl [a 0, a 4, a 5, a 6, a 7, a 8, a 9, a 10, p 0, p 2, p 3, p 4, p (5 + 0), p (5 + 1), p (5 + 2), p (5 + 3), p (5 + 4), p (5 + 5)] rfl rfl (ws' := affW c a (printF π (dayA π (tickF (workA σ (nW π))) j) j ((dayA π (tickF (workA σ (nW π))) j) 8 j) ((onS π (dayA π (tickF (workA σ (nW π))) j) j).toNatClampNeg)) ++ pageW c p π) rfl (wr := []) rfl rfl rfl rfl 0 rfl rfl rfl hl.1 rfl (Nat.le_of_ble_eq_true rfl) dX0_passDay_104 (Nat.zero_le _) (Nat.zero_le _) (fun H locs hP hD hS => ?_)
              refine lv_iinc (v := dayN π (tickF (workA σ (nW π))) j + 1) (lv' := [(2, .int (dayN π (tickF (workA σ (nW π))) j + 1)), (4, .int ((dayA π (tickF (workA σ (nW π))) j) 8 j)), (0, .ref (a 0)), (1, .ref (p 0)), (3, .int (nI j))]) hx hb dX0_passDay_107 hl (k := 3) rfl (rfl) (by decide) rfl (fun ls hl => ?_)
              refine lv_goto (tgt := 143) hx hb dX0_passDay_110 (by decide) ?_
              refine lv_iinc (v := nI (j + 1)) (lv' := [(3, .int (nI (j + 1))), (2, .int (dayN π (tickF (workA σ (nW π))) j + 1)), (4, .int ((dayA π (tickF (workA σ (nW π))) j) 8 j)), (0, .ref (a 0)), (1, .ref (p 0))]) hx hb dX0_passDay_143 hl (k := 4) rfl (nI_inc j 1) (by decide) rfl (fun ls hl => ?_)
              refine lv_goto (tgt := 52) hx hb dX0_passDay_146 (by decide) ?_
              have eg9 : printF π (dayA π (tickF (workA σ (nW π))) j) j ((dayA π (tickF (workA σ (nW π))) j) 8 j) ((onS π (dayA π (tickF (workA σ (nW π))) j) j).toNatClampNeg) = dayA π (tickF (workA σ (nW π))) (j + 1) := by first | rfl | (simp [dayA, dayT, dayN, onS, lateF, h1, h2, h4, h5]; done)
              have hP : va_P D vwCl (affW c a (dayA π (tickF (workA σ (nW π))) (j + 1)) ++ pageW c p π) H := by rw [← eg9]; exact hP
              have hD : va_D A (affW c a (dayA π (tickF (workA σ (nW π))) (j + 1)) ++ pageW c p π) := by rw [← eg9]; exact hD
              have hl : lv_has ls 5 [(0, .ref (a 0)), (1, .ref (p 0)), (2, .int (dayN π (tickF (workA σ (nW π))) j + 1)), (3, .int (nI (j + 1)))] := lv_sub hl [3, 4, 1, 0] rfl
              have hl := wk_lset (y := dayN π (tickF (workA σ (nW π))) (j + 1)) (lv_sub (l' := [(2, .int (dayN π (tickF (workA σ (nW π))) j + 1)), (0, .ref (a 0)), (1, .ref (p 0)), (3, .int (nI (j + 1)))]) hl [2, 0, 1, 3] rfl) (by first | rfl | (simp [dayA, dayT, dayN, onS, lateF, h1, h2, h4, h5]; done))
              have hl : lv_has ls 5 [(0, .ref (a 0)), (1, .ref (p 0)), (2, .int (dayN π (tickF (workA σ (nW π))) (j + 1))), (3, .int (nI (j + 1)))] := lv_sub hl [1, 2, 0, 3] rfl
              exact ih52 (j + 1) (by omega) (by omega) H _ hP hD hS ls hl
            refine lv_aload_n hx hb dX0_passDay_113 rfl (lv_at hl 1 rfl) ?_
            refine lv_iload_n hx hb dX0_passDay_114 rfl (lv_at hl 4 rfl) ?_
            refine lv_aload_n hx hb dX0_passDay_115 rfl (lv_at hl 2 rfl) ?_
            refine wg_X5_1 hx hb hts iX5 hown hK hP 8 rfl k7 (v := .int (π 1 0)) rfl dX0_passDay_116 ?_
            refine wk_callRV (As := [.int (nI j), .int (π 1 0)]) (rest := []) ⟨hx, hb, hml, hown, hts⟩ (c_X0_turnsLate l D c a (dayA π (tickF (workA σ (nW π))) j) j (π 1 0) (by omega)) (cwV 2 hts gX0_passDay_X0_turnsLate rfl rfl rfl hd_X0_turnsLate ⟨Nat.le_of_ble_eq_true rfl, Nat.le_of_ble_eq_true rfl⟩) hK hP [0, 1, 2, 3, 4, 5, 6, 7] rfl 0 rfl rfl rfl hl.1 rfl (Nat.le_of_ble_eq_true rfl) dX0_passDay_119 (Nat.zero_le _) (Nat.zero_le _) ?_
            refine wk_bz (tgt := 143) hx hb dX0_passDay_122 (by decide) (fun h6 => ?_) (fun h6 => ?_)
            · refine lv_iinc (v := nI (j + 1)) (lv' := [(3, .int (nI (j + 1))), (4, .int ((dayA π (tickF (workA σ (nW π))) j) 8 j)), (0, .ref (a 0)), (1, .ref (p 0)), (2, .int (dayN π (tickF (workA σ (nW π))) j))]) hx hb dX0_passDay_143 hl (k := 4) rfl (nI_inc j 1) (by decide) rfl (fun ls hl => ?_)
              refine lv_goto (tgt := 52) hx hb dX0_passDay_146 (by decide) ?_
              have eg7 : dayA π (tickF (workA σ (nW π))) j = dayA π (tickF (workA σ (nW π))) (j + 1) := by first | rfl | (simp [dayA, dayT, dayN, onS, lateF, h1, h2, h4, h5, h6]; done)
              have hP : va_P D vwCl (affW c a (dayA π (tickF (workA σ (nW π))) (j + 1)) ++ pageW c p π) H := by rw [← eg7]; exact hP
              have hD : va_D A (affW c a (dayA π (tickF (workA σ (nW π))) (j + 1)) ++ pageW c p π) := by rw [← eg7]; exact hD
              have hl : lv_has ls 5 [(0, .ref (a 0)), (1, .ref (p 0)), (2, .int (dayN π (tickF (workA σ (nW π))) j)), (3, .int (nI (j + 1)))] := lv_sub hl [2, 3, 4, 0] rfl
              have hl := wk_lset (y := dayN π (tickF (workA σ (nW π))) (j + 1)) (lv_sub (l' := [(2, .int (dayN π (tickF (workA σ (nW π))) j)), (0, .ref (a 0)), (1, .ref (p 0)), (3, .int (nI (j + 1)))]) hl [2, 0, 1, 3] rfl) (by first | rfl | (simp [dayA, dayT, dayN, onS, lateF, h1, h2, h4, h5, h6]; done))
              have hl : lv_has ls 5 [(0, .ref (a 0)), (1, .ref (p 0)), (2, .int (dayN π (tickF (workA σ (nW π))) (j + 1))), (3, .int (nI (j + 1)))] := lv_sub hl [1, 2, 0, 3] rfl
              exact ih52 (j + 1) (by omega) (by omega) H _ hP hD hS ls hl
            refine lv_aload_n hx hb dX0_passDay_125 rfl (lv_at hl 1 rfl) ?_
            refine wg_X0_10 hx hb hts iX0 hown hK hP 0 rfl k8 (v := .ref (a 10)) rfl dX0_passDay_126 ?_
            refine lv_iload_n hx hb dX0_passDay_129 rfl (lv_at hl 4 rfl) ?_
            refine lv_iconst (v := 1) hx hb dX0_passDay_130 (by decide) ?_
            refine wk_ast hx hb hK hP hD hS 7 0 rfl rfl j rfl (by omega) (by decide) dX0_passDay_131 (ws' := affW c a (va_up (dayA π (tickF (workA σ (nW π))) j) 10 (upd ((dayA π (tickF (workA σ (nW π))) j) 10) j 1)) ++ pageW c p π) rfl (fun H locs hP hD hS => ?_)
            refine lv_aload_n hx hb dX0_passDay_132 rfl (lv_at hl 1 rfl) ?_
            refine wg_X0_4 hx hb hts iX0 hown hK hP 0 rfl k9 (v := .ref (a 4)) rfl dX0_passDay_133 ?_
            refine lv_iload hx hb dX0_passDay_136 (lv_at hl 0 rfl) ?_
            refine wk_eqi (y := nI (((dayA π (tickF (workA σ (nW π))) j) 8 j).toNatClampNeg)) (ho.1) ?_
            refine lv_dup2_11 hx hb dX0_passDay_138 rfl rfl ?_
            refine wk_ald (f := (dayA π (tickF (workA σ (nW π))) j) 4) hx hb hK hP 1 0 rfl rfl (((dayA π (tickF (workA σ (nW π))) j) 8 j).toNatClampNeg) rfl (Nat.lt_of_lt_of_le ho.2 hn6) (by decide) dX0_passDay_139 ?_
            refine lv_iconst (v := 1) hx hb dX0_passDay_140 (by decide) ?_
            refine lv_iadd hx hb dX0_passDay_141 ?_
            refine wk_ast hx hb hK hP hD hS 1 0 rfl rfl (((dayA π (tickF (workA σ (nW π))) j) 8 j).toNatClampNeg) rfl (Nat.lt_of_lt_of_le ho.2 hn6) (by decide) dX0_passDay_142 (ws' := affW c a (va_up (va_up (dayA π (tickF (workA σ (nW π))) j) 10 (upd ((dayA π (tickF (workA σ (nW π))) j) 10) j 1)) 4 (upd ((dayA π (tickF (workA σ (nW π))) j) 4) (((dayA π (tickF (workA σ (nW π))) j) 8 j).toNatClampNeg) (((dayA π (tickF (workA σ (nW π))) j) 4 (((dayA π (tickF (workA σ (nW π))) j) 8 j).toNatClampNeg)) + 1))) ++ pageW c p π) rfl (fun H locs hP hD hS => ?_)
            refine lv_iinc (v := nI (j + 1)) (lv' := [(3, .int (nI (j + 1))), (4, .int ((dayA π (tickF (workA σ (nW π))) j) 8 j)), (0, .ref (a 0)), (1, .ref (p 0)), (2, .int (dayN π (tickF (workA σ (nW π))) j))]) hx hb dX0_passDay_143 hl (k := 4) rfl (nI_inc j 1) (by decide) rfl (fun ls hl => ?_)
            refine lv_goto (tgt := 52) hx hb dX0_passDay_146 (by decide) ?_
            have eg8 : va_up (va_up (dayA π (tickF (workA σ (nW π))) j) 10 (upd ((dayA π (tickF (workA σ (nW π))) j) 10) j 1)) 4 (upd ((dayA π (tickF (workA σ (nW π))) j) 4) (((dayA π (tickF (workA σ (nW π))) j) 8 j).toNatClampNeg) (((dayA π (tickF (workA σ (nW π))) j) 4 (((dayA π (tickF (workA σ (nW π))) j) 8 j).toNatClampNeg)) + 1)) = dayA π (tickF (workA σ (nW π))) (j + 1) := by first | rfl | (simp [dayA, dayT, dayN, onS, lateF, h1, h2, h4, h5, h6]; done)
            have hP : va_P D vwCl (affW c a (dayA π (tickF (workA σ (nW π))) (j + 1)) ++ pageW c p π) H := by rw [← eg8]; exact hP
            have hD : va_D A (affW c a (dayA π (tickF (workA σ (nW π))) (j + 1)) ++ pageW c p π) := by rw [← eg8]; exact hD
            have hl : lv_has ls 5 [(0, .ref (a 0)), (1, .ref (p 0)), (2, .int (dayN π (tickF (workA σ (nW π))) j)), (3, .int (nI (j + 1)))] := lv_sub hl [2, 3, 4, 0] rfl
            have hl := wk_lset (y := dayN π (tickF (workA σ (nW π))) (j + 1)) (lv_sub (l' := [(2, .int (dayN π (tickF (workA σ (nW π))) j)), (0, .ref (a 0)), (1, .ref (p 0)), (3, .int (nI (j + 1)))]) hl [2, 0, 1, 3] rfl) (by first | rfl | (simp [dayA, dayT, dayN, onS, lateF, h1, h2, h4, h5, h6]; done))
            have hl : lv_has ls 5 [(0, .ref (a 0)), (1, .ref (p 0)), (2, .int (dayN π (tickF (workA σ (nW π))) (j + 1))), (3, .int (nI (j + 1)))] := lv_sub hl [1, 2, 0, 3] rfl
            exact ih52 (j + 1) (by omega) (by omega) H _ hP hD hS ls hl
        have eg11 : va_up (workA σ (nW π)) 0 (fun _ => ((workA σ (nW π)) 0 0) + 1) = dayA π (tickF (workA σ (nW π))) 0 := by first | rfl | (simp [dayA, dayT, dayN, onS, lateF, h1]; done)
        have hP : va_P D vwCl (affW c a (dayA π (tickF (workA σ (nW π))) 0) ++ pageW c p π) H := by rw [← eg11]; exact hP
        have hD : va_D A (affW c a (dayA π (tickF (workA σ (nW π))) 0) ++ pageW c p π) := by rw [← eg11]; exact hD
        have hl : lv_has ls 5 [(0, .ref (a 0)), (1, .ref (p 0)), (2, .int 0), (3, .int 0)] := lv_sub hl [2, 3, 1, 0] rfl
        have hl := wk_lset (y := dayN π (tickF (workA σ (nW π))) 0) (lv_sub (l' := [(2, .int 0), (0, .ref (a 0)), (1, .ref (p 0)), (3, .int 0)]) hl [2, 0, 1, 3] rfl) (by first | rfl | (simp [dayA, dayT, dayN, onS, lateF, h1]; done))
        have hl : lv_has ls 5 [(0, .ref (a 0)), (1, .ref (p 0)), (2, .int (dayN π (tickF (workA σ (nW π))) 0)), (3, .int 0)] := lv_sub hl [1, 2, 0, 3] rfl
        have hl := wk_lset (y := nI 0) (lv_sub (l' := [(3, .int 0), (0, .ref (a 0)), (1, .ref (p 0)), (2, .int (dayN π (tickF (workA σ (nW π))) 0))]) hl [3, 0, 1, 2] rfl) (by first | rfl | (simp [dayA, dayT, dayN, onS, lateF, h1]; done))
        have hl : lv_has ls 5 [(0, .ref (a 0)), (1, .ref (p 0)), (2, .int (dayN π (tickF (workA σ (nW π))) 0)), (3, .int (nI 0))] := lv_sub hl [1, 2, 3, 0] rfl
        exact lp52 _ 0 (by omega) (Nat.lt_succ_self _) H locs hP hD hS ls hl
      refine lv_aload_n hx hb dX0_passDay_10 rfl (lv_at hl 0 rfl) ?_
      refine lv_iload_n hx hb dX0_passDay_11 rfl (lv_at hl 2 rfl) ?_
      refine wk_callRV (As := [.int (nI i)]) (rest := []) ⟨hx, hb, hml, hown, hts⟩ (c_X0_onDeskOf l D c a (workA σ i) (nI i) (hwf.1)) (cwV 1 hts gX0_passDay_X0_onDeskOf rfl rfl rfl hd_X0_onDeskOf ⟨Nat.le_of_ble_eq_true rfl, Nat.le_of_ble_eq_true rfl⟩) hK hP [0, 1, 2, 3, 4, 5, 6, 7] rfl 0 rfl rfl rfl hl.1 rfl (Nat.le_of_ble_eq_true rfl) dX0_passDay_12 (Nat.zero_le _) (Nat.zero_le _) ?_
      refine wk_eqi (y := workQ (workA σ i) i) rfl ?_
      refine lv_istore_n (lv' := [(3, .int (workQ (workA σ i) i)), (0, .ref (a 0)), (1, .ref (p 0)), (2, .int (nI i))]) hx hb dX0_passDay_15 rfl hl (by decide) rfl (fun ls hl => ?_)
      refine lv_iload_n hx hb dX0_passDay_16 rfl (lv_at hl 0 rfl) ?_
      refine lv_bipush (v := -9) hx hb dX0_passDay_17 (by decide) ?_
      refine lv_icmp_eq (tgt := 32) hx hb dX0_passDay_19 (by decide) (fun h12 => ?_) (fun h12 => ?_)
      · refine lv_iinc (v := nI (i + 1)) (lv' := [(2, .int (nI (i + 1))), (3, .int (workQ (workA σ i) i)), (0, .ref (a 0)), (1, .ref (p 0))]) hx hb dX0_passDay_32 hl (k := 3) rfl (nI_inc i 1) (by decide) rfl (fun ls hl => ?_)
        refine lv_goto (tgt := 2) hx hb dX0_passDay_35 (by decide) ?_
        have eg13 : workA σ i = workA σ (i + 1) := by first | rfl | (rw [workA, workS]; first | rw [if_pos h12] | rw [if_neg h12])
        have hP : va_P D vwCl (affW c a (workA σ (i + 1)) ++ pageW c p π) H := by rw [← eg13]; exact hP
        have hD : va_D A (affW c a (workA σ (i + 1)) ++ pageW c p π) := by rw [← eg13]; exact hD
        have hl : lv_has ls 5 [(0, .ref (a 0)), (1, .ref (p 0)), (2, .int (nI (i + 1)))] := lv_sub hl [2, 3, 0] rfl
        exact ih2 (i + 1) (by omega) (by omega) H _ hP hD hS ls hl
      have ho : ixOK (workQ (workA σ i) i) 6 := (od_ok (workA σ i 8) (workA σ i 7) (nI i) (nQ (workA σ i)) (by omega)).elim (fun e => absurd e h12) (fun e => ix_mono e (by omega))
      refine lv_aload_n hx hb dX0_passDay_22 rfl (lv_at hl 1 rfl) ?_
      refine wg_X0_9 hx hb hts iX0 hown hK hP 0 rfl k2 (v := .ref (a 9)) rfl dX0_passDay_23 ?_
      refine lv_iload_n hx hb dX0_passDay_26 rfl (lv_at hl 0 rfl) ?_
      refine wk_eqi (y := nI ((workQ (workA σ i) i).toNatClampNeg)) (ho.1) ?_
      refine lv_dup2_11 hx hb dX0_passDay_27 rfl rfl ?_
      refine wk_ald (f := (workA σ i) 9) hx hb hK hP 6 0 rfl rfl ((workQ (workA σ i) i).toNatClampNeg) rfl (ho.2) (by decide) dX0_passDay_28 ?_
      refine lv_iconst (v := 1) hx hb dX0_passDay_29 (by decide) ?_
      refine lv_isub hx hb dX0_passDay_30 ?_
      refine wk_ast hx hb hK hP hD hS 6 0 rfl rfl ((workQ (workA σ i) i).toNatClampNeg) rfl (ho.2) (by decide) dX0_passDay_31 (ws' := affW c a (va_up (workA σ i) 9 (upd ((workA σ i) 9) ((workQ (workA σ i) i).toNatClampNeg) (((workA σ i) 9 ((workQ (workA σ i) i).toNatClampNeg)) - 1))) ++ pageW c p π) rfl (fun H locs hP hD hS => ?_)
      refine lv_iinc (v := nI (i + 1)) (lv' := [(2, .int (nI (i + 1))), (3, .int (workQ (workA σ i) i)), (0, .ref (a 0)), (1, .ref (p 0))]) hx hb dX0_passDay_32 hl (k := 3) rfl (nI_inc i 1) (by decide) rfl (fun ls hl => ?_)
      refine lv_goto (tgt := 2) hx hb dX0_passDay_35 (by decide) ?_
      have eg14 : va_up (workA σ i) 9 (upd ((workA σ i) 9) ((workQ (workA σ i) i).toNatClampNeg) (((workA σ i) 9 ((workQ (workA σ i) i).toNatClampNeg)) - 1)) = workA σ (i + 1) := by first | rfl | (rw [workA, workS]; first | rw [if_pos h12] | rw [if_neg h12])
      have hP : va_P D vwCl (affW c a (workA σ (i + 1)) ++ pageW c p π) H := by rw [← eg14]; exact hP
      have hD : va_D A (affW c a (workA σ (i + 1)) ++ pageW c p π) := by rw [← eg14]; exact hD
      have hl : lv_has ls 5 [(0, .ref (a 0)), (1, .ref (p 0)), (2, .int (nI (i + 1)))] := lv_sub hl [2, 3, 0] rfl
      exact ih2 (i + 1) (by omega) (by omega) H _ hP hD hS ls hl
  have eg15 : σ = workA σ 0 := by first | rfl | (rw [workA, workS]; first | rw [if_pos %L] | rw [if_neg %L])
  have hP : va_P D vwCl (affW c a (workA σ 0) ++ pageW c p π) H := by rw [← eg15]; exact hP
  have hD : va_D A (affW c a (workA σ 0) ++ pageW c p π) := by rw [← eg15]; exact hD
  have hl : lv_has ls 5 [(0, .ref (a 0)), (1, .ref (p 0)), (2, .int 0)] := lv_sub hl [1, 2, 0] rfl
  have hl := wk_lset (y := nI 0) (lv_sub (l' := [(2, .int 0), (0, .ref (a 0)), (1, .ref (p 0))]) hl [2, 0, 1] rfl) (by first | rfl | (rw [workA, workS]; first | rw [if_pos %L] | rw [if_neg %L]))
  have hl : lv_has ls 5 [(0, .ref (a 0)), (1, .ref (p 0)), (2, .int (nI 0))] := lv_sub hl [1, 2, 0] rfl
  exact lp2 _ 0 (by omega) (Nat.lt_succ_self _) H _ hP hD hS ls hl

abbrev rmX0_firstNewlyLate : Room := { frames := 1, cells := 0, slots := 0, locals := 22 }
theorem hd_X0_firstNewlyLate : yX0_firstNewlyLate.cls = RX0 ∧ yX0_firstNewlyLate.cls ≠ "java/lang/invoke/MethodHandle" ∧ yX0_firstNewlyLate.cls ≠ "java/lang/invoke/VarHandle" ∧ (parseMethodDescriptor yX0_firstNewlyLate.desc).map (fun d => d.parameters.length) = some 1 := by decide +kernel
set_option maxHeartbeats 4000000 in
set_option maxRecDepth 100000 in
theorem c_X0_firstNewlyLate (l : Launch) (D : va_G) (c : Nat → ClassId) (a : Nat → Nat) (σ : Nat → Nat → Int32) (term : Int32) (hq : wfQ σ) : wk_RdI l yX0_firstNewlyLate wsX0_firstNewlyLate rmX0_firstNewlyLate D (tysL c) [.ref (a 0), .int term] (affW c a σ) (fnL σ term (nQ σ) 0) := by
  refine wk_mkR (cc := cX0_firstNewlyLate) (maxL := 3) (rt := .int) (by decide) rfl (Nat.le_of_ble_eq_true rfl) rfl ?_
  intro pr ev ss mm args below meth cd ls H Q hst hP hK hl ret
  obtain ⟨hx, hb, hml, hown, hts, -⟩ := hst
  have hown : ss.vm.findClass RX0 = some mm.cls := hown
  have hl : lv_has ls 3 [(0, .ref (a 0)), (1, .int term)] := hl
  have k1 := hts (.fieldLink RX0 40 "LastWord$Affairs" "quarrels" "I") (List.mem_of_getElem? (i := 1) rfl)
  have k2 := hts (.fieldLink RX0 24 "LastWord$Affairs" "owes" "[I") (List.mem_of_getElem? (i := 2) rfl)
  have iX0 : ∀ w ∈ u_ws RX0 TX0 11, w ∈ wsX0_firstNewlyLate := fun _ h => (List.mem_cons_of_mem _ (List.mem_append_right _ h))
  have hq6 := hq.2
  refine lv_iconst (v := 0) hx hb dX0_firstNewlyLate_0 (by decide) ?_
  refine lv_istore_n (lv' := [(2, .int 0), (0, .ref (a 0)), (1, .int term)]) hx hb dX0_firstNewlyLate_1 rfl hl (by decide) rfl (fun ls hl => ?_)
  have lp2 : ∀ (n : Nat) (i : Nat), (i ≤ nQ σ) → (fnL σ term (nQ σ - i) i = fnL σ term (nQ σ) 0) → nQ σ - i < n → ∀ ls : Array Slot, lv_has ls 3 [(0, .ref (a 0)), (1, .int term), (2, .int (nI i))] → W pr l ev rmX0_firstNewlyLate ss mm args below meth cd H [] 0 0 Q (F0 mm 2 ls []) := by
    intro n
    induction n with
    | zero => intro i hi hv hn; exact absurd hn (Nat.not_lt_zero _)
    | succ n ih2 =>
      intro i hi hv hn ls hl
      refine lv_iload_n hx hb dX0_firstNewlyLate_2 rfl (lv_at hl 2 rfl) ?_
      refine lv_aload_n hx hb dX0_firstNewlyLate_3 rfl (lv_at hl 0 rfl) ?_
      refine wg_X0_2 hx hb hts iX0 hown hK hP 0 rfl k1 (v := .int (σ 2 0)) rfl dX0_firstNewlyLate_4 ?_
      refine wk_eqi (hq.1) ?_
      refine wk_ge (tgt := 38) hx hb i (nQ σ) rfl rfl (by omega) (by omega) dX0_firstNewlyLate_7 (by decide) (fun h1 => ?_) (fun h1 => ?_)
      · refine lv_bipush (v := -9) hx hb dX0_firstNewlyLate_38 (by decide) ?_
        exact ret 40 ls ((-9)) (by rw [← hv, show nQ σ - i = 0 by omega]; rfl) dX0_firstNewlyLate_40
      refine lv_aload_n hx hb dX0_firstNewlyLate_10 rfl (lv_at hl 0 rfl) ?_
      refine wg_X0_8 hx hb hts iX0 hown hK hP 0 rfl k2 (v := .ref (a 8)) rfl dX0_firstNewlyLate_11 ?_
      refine lv_iload_n hx hb dX0_firstNewlyLate_14 rfl (lv_at hl 2 rfl) ?_
      refine wk_ald (f := σ 8) hx hb hK hP 5 0 rfl rfl i rfl (by omega) (by decide) dX0_firstNewlyLate_15 ?_
      refine lv_bipush (v := -9) hx hb dX0_firstNewlyLate_16 (by decide) ?_
      refine lv_icmp_eq (tgt := 32) hx hb dX0_firstNewlyLate_18 (by decide) (fun h2 => ?_) (fun h2 => ?_)
      · refine lv_iinc (v := nI (i + 1)) (lv' := [(2, .int (nI (i + 1))), (0, .ref (a 0)), (1, .int term)]) hx hb dX0_firstNewlyLate_32 hl (k := 2) rfl (nI_inc i 1) (by decide) rfl (fun ls hl => ?_)
        refine lv_goto (tgt := 2) hx hb dX0_firstNewlyLate_35 (by decide) ?_
        have hl : lv_has ls 3 [(0, .ref (a 0)), (1, .int term), (2, .int (nI (i + 1)))] := lv_sub hl [1, 2, 0] rfl
        exact ih2 (i + 1) (by omega) (by rw [← hv, show nQ σ - i = (nQ σ - (i + 1)) + 1 by omega, fnL]; simp [h1, h2]) (by omega) ls hl
      refine lv_aload_n hx hb dX0_firstNewlyLate_21 rfl (lv_at hl 0 rfl) ?_
      refine lv_iload_n hx hb dX0_firstNewlyLate_22 rfl (lv_at hl 2 rfl) ?_
      refine lv_iload_n hx hb dX0_firstNewlyLate_23 rfl (lv_at hl 1 rfl) ?_
      refine wk_callRV (As := [.int (nI i), .int term]) (rest := []) ⟨hx, hb, hml, hown, hts⟩ (c_X0_turnsLate l D c a σ i term (by omega)) (cwV 2 hts gX0_firstNewlyLate_X0_turnsLate rfl rfl rfl hd_X0_turnsLate ⟨Nat.le_of_ble_eq_true rfl, Nat.le_of_ble_eq_true rfl⟩) hK hP [0, 1, 2, 3, 4, 5, 6, 7] rfl 0 rfl rfl rfl hl.1 rfl (Nat.le_of_ble_eq_true rfl) dX0_firstNewlyLate_24 (Nat.zero_le _) (Nat.zero_le _) ?_
      refine wk_bz (tgt := 32) hx hb dX0_firstNewlyLate_27 (by decide) (fun h3 => ?_) (fun h3 => ?_)
      rotate_left
      · refine lv_iload_n hx hb dX0_firstNewlyLate_30 rfl (lv_at hl 2 rfl) ?_
        exact ret 31 ls (nI i) (by rw [← hv, show nQ σ - i = (nQ σ - (i + 1)) + 1 by omega, fnL]; simp [h1, h2, h3]) dX0_firstNewlyLate_31
      refine lv_iinc (v := nI (i + 1)) (lv' := [(2, .int (nI (i + 1))), (0, .ref (a 0)), (1, .int term)]) hx hb dX0_firstNewlyLate_32 hl (k := 2) rfl (nI_inc i 1) (by decide) rfl (fun ls hl => ?_)
      refine lv_goto (tgt := 2) hx hb dX0_firstNewlyLate_35 (by decide) ?_
      have hl : lv_has ls 3 [(0, .ref (a 0)), (1, .int term), (2, .int (nI (i + 1)))] := lv_sub hl [1, 2, 0] rfl
      exact ih2 (i + 1) (by omega) (by rw [← hv, show nQ σ - i = (nQ σ - (i + 1)) + 1 by omega, fnL]; simp [h1, h2, h3]) (by omega) ls hl
  have hl : lv_has ls 3 [(0, .ref (a 0)), (1, .int term), (2, .int 0)] := lv_sub hl [1, 2, 0] rfl
  have hl := wk_lset (y := nI 0) (lv_sub (l' := [(2, .int 0), (0, .ref (a 0)), (1, .int term)]) hl [2, 0, 1] rfl) (by rfl)
  have hl : lv_has ls 3 [(0, .ref (a 0)), (1, .int term), (2, .int (nI 0))] := lv_sub hl [1, 2, 0] rfl
  exact lp2 _ 0 (by omega) (rfl) (Nat.lt_succ_self _) ls hl

abbrev rmX0_workUpTo : Room := { frames := 0, cells := 0, slots := 0, locals := 0 }
theorem hd_X0_workUpTo : yX0_workUpTo.cls = RX0 ∧ yX0_workUpTo.cls ≠ "java/lang/invoke/MethodHandle" ∧ yX0_workUpTo.cls ≠ "java/lang/invoke/VarHandle" ∧ (parseMethodDescriptor yX0_workUpTo.desc).map (fun d => d.parameters.length) = some 2 := by decide +kernel
set_option maxHeartbeats 4000000 in
set_option maxRecDepth 100000 in
theorem c_X0_workUpTo (l : Launch) (D : va_G) (c : Nat → ClassId) (a : Nat → Nat) (σ : Nat → Nat → Int32) (set : Int32) (lp : Int32) (hq : wfQ σ) : wk_RdI l yX0_workUpTo wsX0_workUpTo rmX0_workUpTo D (tysL c) [.ref (a 0), .int set, .int lp] (affW c a σ) (wuL σ set lp (nQ σ)) := by
  refine wk_mkR (cc := cX0_workUpTo) (maxL := 5) (rt := .int) (by decide) rfl (Nat.le_of_ble_eq_true rfl) rfl ?_
  intro pr ev ss mm args below meth cd ls H Q hst hP hK hl ret
  obtain ⟨hx, hb, hml, hown, hts, -⟩ := hst
  have hown : ss.vm.findClass RX0 = some mm.cls := hown
  have hl : lv_has ls 5 [(0, .ref (a 0)), (1, .int set), (2, .int lp)] := hl
  have k1 := hts (.fieldLink RX0 40 "LastWord$Affairs" "quarrels" "I") (List.mem_of_getElem? (i := 1) rfl)
  have k2 := hts (.fieldLink RX0 21 "LastWord$Affairs" "printedOn" "[I") (List.mem_of_getElem? (i := 2) rfl)
  have k3 := hts (.fieldLink RX0 27 "LastWord$Affairs" "work" "[I") (List.mem_of_getElem? (i := 3) rfl)
  have iX0 : ∀ w ∈ u_ws RX0 TX0 11, w ∈ wsX0_workUpTo := fun _ h => (List.mem_cons_of_mem _ (List.mem_append_right _ h))
  have hq6 := hq.2
  refine lv_iconst (v := 0) hx hb dX0_workUpTo_0 (by decide) ?_
  refine lv_istore_n (lv' := [(3, .int 0), (0, .ref (a 0)), (1, .int set), (2, .int lp)]) hx hb dX0_workUpTo_1 rfl hl (by decide) rfl (fun ls hl => ?_)
  refine lv_iconst (v := 0) hx hb dX0_workUpTo_2 (by decide) ?_
  refine lv_istore (lv' := [(4, .int 0), (3, .int 0), (0, .ref (a 0)), (1, .int set), (2, .int lp)]) hx hb dX0_workUpTo_3 hl (by decide) rfl (fun ls hl => ?_)
  have lp5 : ∀ (n : Nat) (i : Nat), (i ≤ nQ σ) → nQ σ - i < n → ∀ ls : Array Slot, lv_has ls 5 [(0, .ref (a 0)), (1, .int set), (2, .int lp), (3, .int (wuL σ set lp i)), (4, .int (nI i))] → W pr l ev rmX0_workUpTo ss mm args below meth cd H [] 0 0 Q (F0 mm 5 ls []) := by
    intro n
    induction n with
    | zero => intro i hi hn; exact absurd hn (Nat.not_lt_zero _)
    | succ n ih5 =>
      intro i hi hn ls hl
      refine lv_iload hx hb dX0_workUpTo_5 (lv_at hl 4 rfl) ?_
      refine lv_aload_n hx hb dX0_workUpTo_7 rfl (lv_at hl 0 rfl) ?_
      refine wg_X0_2 hx hb hts iX0 hown hK hP 0 rfl k1 (v := .int (σ 2 0)) rfl dX0_workUpTo_8 ?_
      refine wk_eqi (hq.1) ?_
      refine wk_ge (tgt := 51) hx hb i (nQ σ) rfl rfl (by omega) (by omega) dX0_workUpTo_11 (by decide) (fun h1 => ?_) (fun h1 => ?_)
      · refine lv_iload_n hx hb dX0_workUpTo_51 rfl (lv_at hl 3 rfl) ?_
        exact ret 52 ls (wuL σ set lp i) (by rw [show i = nQ σ by omega]) dX0_workUpTo_52
      refine lv_iload_n hx hb dX0_workUpTo_14 rfl (lv_at hl 1 rfl) ?_
      refine lv_iload hx hb dX0_workUpTo_15 (lv_at hl 4 rfl) ?_
      refine lv_ishr hx hb dX0_workUpTo_17 ?_
      refine lv_iconst (v := 1) hx hb dX0_workUpTo_18 (by decide) ?_
      refine lv_iand hx hb dX0_workUpTo_19 ?_
      refine lv_iconst (v := 1) hx hb dX0_workUpTo_20 (by decide) ?_
      refine lv_icmp_ne (tgt := 45) hx hb dX0_workUpTo_21 (by decide) (fun h2 => ?_) (fun h2 => ?_)
      · refine lv_iinc (v := nI (i + 1)) (lv' := [(4, .int (nI (i + 1))), (0, .ref (a 0)), (1, .int set), (2, .int lp), (3, .int (wuL σ set lp i))]) hx hb dX0_workUpTo_45 hl (k := 4) rfl (nI_inc i 1) (by decide) rfl (fun ls hl => ?_)
        refine lv_goto (tgt := 5) hx hb dX0_workUpTo_48 (by decide) ?_
        have hl : lv_has ls 5 [(0, .ref (a 0)), (1, .int set), (2, .int lp), (3, .int (wuL σ set lp i)), (4, .int (nI (i + 1)))] := lv_sub hl [1, 2, 3, 4, 0] rfl
        have hl := wk_lset (y := wuL σ set lp (i + 1)) (lv_sub (l' := [(3, .int (wuL σ set lp i)), (0, .ref (a 0)), (1, .int set), (2, .int lp), (4, .int (nI (i + 1)))]) hl [3, 0, 1, 2, 4] rfl) (by first | rfl | (simp [wuL, ← Int32.not_lt, h1, h2]; done))
        have hl : lv_has ls 5 [(0, .ref (a 0)), (1, .int set), (2, .int lp), (3, .int (wuL σ set lp (i + 1))), (4, .int (nI (i + 1)))] := lv_sub hl [1, 2, 3, 0, 4] rfl
        exact ih5 (i + 1) (by omega) (by omega) ls hl
      refine lv_aload_n hx hb dX0_workUpTo_24 rfl (lv_at hl 0 rfl) ?_
      refine wg_X0_7 hx hb hts iX0 hown hK hP 0 rfl k2 (v := .ref (a 7)) rfl dX0_workUpTo_25 ?_
      refine lv_iload hx hb dX0_workUpTo_28 (lv_at hl 4 rfl) ?_
      refine wk_ald (f := σ 7) hx hb hK hP 4 0 rfl rfl i rfl (by omega) (by decide) dX0_workUpTo_30 ?_
      refine lv_iload_n hx hb dX0_workUpTo_31 rfl (lv_at hl 2 rfl) ?_
      refine lv_icmp_gt (tgt := 45) hx hb dX0_workUpTo_32 (by decide) (fun h3 => ?_) (fun h3 => ?_)
      · refine lv_iinc (v := nI (i + 1)) (lv' := [(4, .int (nI (i + 1))), (0, .ref (a 0)), (1, .int set), (2, .int lp), (3, .int (wuL σ set lp i))]) hx hb dX0_workUpTo_45 hl (k := 4) rfl (nI_inc i 1) (by decide) rfl (fun ls hl => ?_)
        refine lv_goto (tgt := 5) hx hb dX0_workUpTo_48 (by decide) ?_
        have hl : lv_has ls 5 [(0, .ref (a 0)), (1, .int set), (2, .int lp), (3, .int (wuL σ set lp i)), (4, .int (nI (i + 1)))] := lv_sub hl [1, 2, 3, 4, 0] rfl
        have hl := wk_lset (y := wuL σ set lp (i + 1)) (lv_sub (l' := [(3, .int (wuL σ set lp i)), (0, .ref (a 0)), (1, .int set), (2, .int lp), (4, .int (nI (i + 1)))]) hl [3, 0, 1, 2, 4] rfl) (by first | rfl | (simp [wuL, ← Int32.not_lt, h1, h2, h3]; done))
        have hl : lv_has ls 5 [(0, .ref (a 0)), (1, .int set), (2, .int lp), (3, .int (wuL σ set lp (i + 1))), (4, .int (nI (i + 1)))] := lv_sub hl [1, 2, 3, 0, 4] rfl
        exact ih5 (i + 1) (by omega) (by omega) ls hl
      refine lv_iload_n hx hb dX0_workUpTo_35 rfl (lv_at hl 3 rfl) ?_
      refine lv_aload_n hx hb dX0_workUpTo_36 rfl (lv_at hl 0 rfl) ?_
      refine wg_X0_9 hx hb hts iX0 hown hK hP 0 rfl k3 (v := .ref (a 9)) rfl dX0_workUpTo_37 ?_
      refine lv_iload hx hb dX0_workUpTo_40 (lv_at hl 4 rfl) ?_
      refine wk_ald (f := σ 9) hx hb hK hP 6 0 rfl rfl i rfl (by omega) (by decide) dX0_workUpTo_42 ?_
      refine lv_iadd hx hb dX0_workUpTo_43 ?_
      refine lv_istore_n (lv' := [(3, .int ((wuL σ set lp i) + (σ 9 i))), (0, .ref (a 0)), (1, .int set), (2, .int lp), (4, .int (nI i))]) hx hb dX0_workUpTo_44 rfl hl (by decide) rfl (fun ls hl => ?_)
      refine lv_iinc (v := nI (i + 1)) (lv' := [(4, .int (nI (i + 1))), (3, .int ((wuL σ set lp i) + (σ 9 i))), (0, .ref (a 0)), (1, .int set), (2, .int lp)]) hx hb dX0_workUpTo_45 hl (k := 4) rfl (nI_inc i 1) (by decide) rfl (fun ls hl => ?_)
      refine lv_goto (tgt := 5) hx hb dX0_workUpTo_48 (by decide) ?_
      have hl : lv_has ls 5 [(0, .ref (a 0)), (1, .int set), (2, .int lp), (3, .int ((wuL σ set lp i) + (σ 9 i))), (4, .int (nI (i + 1)))] := lv_sub hl [2, 3, 4, 1, 0] rfl
      have hl := wk_lset (y := wuL σ set lp (i + 1)) (lv_sub (l' := [(3, .int ((wuL σ set lp i) + (σ 9 i))), (0, .ref (a 0)), (1, .int set), (2, .int lp), (4, .int (nI (i + 1)))]) hl [3, 0, 1, 2, 4] rfl) (by first | rfl | (simp [wuL, ← Int32.not_lt, h1, h2, h3]; done))
      have hl : lv_has ls 5 [(0, .ref (a 0)), (1, .int set), (2, .int lp), (3, .int (wuL σ set lp (i + 1))), (4, .int (nI (i + 1)))] := lv_sub hl [1, 2, 3, 0, 4] rfl
      exact ih5 (i + 1) (by omega) (by omega) ls hl
  have hl : lv_has ls 5 [(0, .ref (a 0)), (1, .int set), (2, .int lp), (3, .int 0), (4, .int 0)] := lv_sub hl [2, 3, 4, 1, 0] rfl
  have hl := wk_lset (y := wuL σ set lp 0) (lv_sub (l' := [(3, .int 0), (0, .ref (a 0)), (1, .int set), (2, .int lp), (4, .int 0)]) hl [3, 0, 1, 2, 4] rfl) (by first | rfl | (simp [wuL, ← Int32.not_lt]; done))
  have hl : lv_has ls 5 [(0, .ref (a 0)), (1, .int set), (2, .int lp), (3, .int (wuL σ set lp 0)), (4, .int 0)] := lv_sub hl [1, 2, 3, 0, 4] rfl
  have hl := wk_lset (y := nI 0) (lv_sub (l' := [(4, .int 0), (0, .ref (a 0)), (1, .int set), (2, .int lp), (3, .int (wuL σ set lp 0))]) hl [4, 0, 1, 2, 3] rfl) (by first | rfl | (simp [wuL, ← Int32.not_lt]; done))
  have hl : lv_has ls 5 [(0, .ref (a 0)), (1, .int set), (2, .int lp), (3, .int (wuL σ set lp 0)), (4, .int (nI 0))] := lv_sub hl [1, 2, 3, 4, 0] rfl
  exact lp5 _ 0 (by omega) (Nat.lt_succ_self _) ls hl

abbrev rmX0_canKeep : Room := { frames := 1, cells := 0, slots := 0, locals := 24 }
theorem hd_X0_canKeep : yX0_canKeep.cls = RX0 ∧ yX0_canKeep.cls ≠ "java/lang/invoke/MethodHandle" ∧ yX0_canKeep.cls ≠ "java/lang/invoke/VarHandle" ∧ (parseMethodDescriptor yX0_canKeep.desc).map (fun d => d.parameters.length) = some 2 := by decide +kernel
set_option maxHeartbeats 4000000 in
set_option maxRecDepth 100000 in
theorem c_X0_canKeep (l : Launch) (D : va_G) (c : Nat → ClassId) (a : Nat → Nat) (σ : Nat → Nat → Int32) (set : Int32) (term : Int32) (hq : wfQ σ) : wk_RdI l yX0_canKeep wsX0_canKeep rmX0_canKeep D (tysL c) [.ref (a 0), .int set, .int term] (affW c a σ) (if ∀ q, q < nQ σ → ckOK σ set term q then 1 else 0) := by
  refine wk_mkR (cc := cX0_canKeep) (maxL := 4) (rt := .boolean) (by decide) rfl (Nat.le_of_ble_eq_true rfl) wk_narZ ?_
  intro pr ev ss mm args below meth cd ls H Q hst hP hK hl ret
  obtain ⟨hx, hb, hml, hown, hts, -⟩ := hst
  have hown : ss.vm.findClass RX0 = some mm.cls := hown
  have hl : lv_has ls 4 [(0, .ref (a 0)), (1, .int set), (2, .int term)] := hl
  have k1 := hts (.fieldLink RX0 40 "LastWord$Affairs" "quarrels" "I") (List.mem_of_getElem? (i := 1) rfl)
  have k2 := hts (.fieldLink RX0 33 "LastWord$Affairs" "today" "I") (List.mem_of_getElem? (i := 2) rfl)
  have k3 := hts (.fieldLink RX0 21 "LastWord$Affairs" "printedOn" "[I") (List.mem_of_getElem? (i := 3) rfl)
  have iX0 : ∀ w ∈ u_ws RX0 TX0 11, w ∈ wsX0_canKeep := fun _ h => (List.mem_cons_of_mem _ (List.mem_append_right _ h))
  have hq6 := hq.2
  refine lv_iconst (v := 0) hx hb dX0_canKeep_0 (by decide) ?_
  refine lv_istore_n (lv' := [(3, .int 0), (0, .ref (a 0)), (1, .int set), (2, .int term)]) hx hb dX0_canKeep_1 rfl hl (by decide) rfl (fun ls hl => ?_)
  have lp2 : ∀ (n : Nat) (i : Nat), (i ≤ nQ σ) → (∀ q, q < i → ckOK σ set term q) → nQ σ - i < n → ∀ ls : Array Slot, lv_has ls 4 [(0, .ref (a 0)), (1, .int set), (2, .int term), (3, .int (nI i))] → W pr l ev rmX0_canKeep ss mm args below meth cd H [] 0 0 Q (F0 mm 2 ls []) := by
    intro n
    induction n with
    | zero => intro i hi hv hn; exact absurd hn (Nat.not_lt_zero _)
    | succ n ih2 =>
      intro i hi hv hn ls hl
      refine lv_iload_n hx hb dX0_canKeep_2 rfl (lv_at hl 3 rfl) ?_
      refine lv_aload_n hx hb dX0_canKeep_3 rfl (lv_at hl 0 rfl) ?_
      refine wg_X0_2 hx hb hts iX0 hown hK hP 0 rfl k1 (v := .int (σ 2 0)) rfl dX0_canKeep_4 ?_
      refine wk_eqi (hq.1) ?_
      refine wk_ge (tgt := 54) hx hb i (nQ σ) rfl rfl (by omega) (by omega) dX0_canKeep_7 (by decide) (fun h1 => ?_) (fun h1 => ?_)
      · refine lv_iconst (v := 1) hx hb dX0_canKeep_54 (by decide) ?_
        exact ret 55 ls 1 ((if_pos (fun q hq => hv q (by omega))).symm) dX0_canKeep_55
      refine lv_iload_n hx hb dX0_canKeep_10 rfl (lv_at hl 1 rfl) ?_
      refine lv_iload_n hx hb dX0_canKeep_11 rfl (lv_at hl 3 rfl) ?_
      refine lv_ishr hx hb dX0_canKeep_12 ?_
      refine lv_iconst (v := 1) hx hb dX0_canKeep_13 (by decide) ?_
      refine lv_iand hx hb dX0_canKeep_14 ?_
      refine lv_iconst (v := 1) hx hb dX0_canKeep_15 (by decide) ?_
      refine lv_icmp_ne (tgt := 48) hx hb dX0_canKeep_16 (by decide) (fun h2 => ?_) (fun h2 => ?_)
      · refine lv_iinc (v := nI (i + 1)) (lv' := [(3, .int (nI (i + 1))), (0, .ref (a 0)), (1, .int set), (2, .int term)]) hx hb dX0_canKeep_48 hl (k := 3) rfl (nI_inc i 1) (by decide) rfl (fun ls hl => ?_)
        refine lv_goto (tgt := 2) hx hb dX0_canKeep_51 (by decide) ?_
        have hl : lv_has ls 4 [(0, .ref (a 0)), (1, .int set), (2, .int term), (3, .int (nI (i + 1)))] := lv_sub hl [1, 2, 3, 0] rfl
        exact ih2 (i + 1) (by omega) (lt_s hv (fun e => absurd e h2)) (by omega) ls hl
      refine lv_aload_n hx hb dX0_canKeep_19 rfl (lv_at hl 0 rfl) ?_
      refine wg_X0_0 hx hb hts iX0 hown hK hP 0 rfl k2 (v := .int (σ 0 0)) rfl dX0_canKeep_20 ?_
      refine lv_aload_n hx hb dX0_canKeep_23 rfl (lv_at hl 0 rfl) ?_
      refine lv_iload_n hx hb dX0_canKeep_24 rfl (lv_at hl 1 rfl) ?_
      refine lv_aload_n hx hb dX0_canKeep_25 rfl (lv_at hl 0 rfl) ?_
      refine wg_X0_7 hx hb hts iX0 hown hK hP 0 rfl k3 (v := .ref (a 7)) rfl dX0_canKeep_26 ?_
      refine lv_iload_n hx hb dX0_canKeep_29 rfl (lv_at hl 3 rfl) ?_
      refine wk_ald (f := σ 7) hx hb hK hP 4 0 rfl rfl i rfl (by omega) (by decide) dX0_canKeep_30 ?_
      refine wk_callRV (As := [.int set, .int (σ 7 i)]) (rest := [.int (σ 0 0)]) ⟨hx, hb, hml, hown, hts⟩ (c_X0_workUpTo l D c a σ set (σ 7 i) (hq)) (cwV 2 hts gX0_canKeep_X0_workUpTo rfl rfl rfl hd_X0_workUpTo ⟨Nat.le_of_ble_eq_true rfl, Nat.le_of_ble_eq_true rfl⟩) hK hP [0, 1, 2, 3, 4, 5, 6, 7] rfl 0 rfl rfl rfl hl.1 rfl (Nat.le_of_ble_eq_true rfl) dX0_canKeep_31 (Nat.zero_le _) (Nat.zero_le _) ?_
      refine lv_iadd hx hb dX0_canKeep_34 ?_
      refine lv_aload_n hx hb dX0_canKeep_35 rfl (lv_at hl 0 rfl) ?_
      refine wg_X0_7 hx hb hts iX0 hown hK hP 0 rfl k3 (v := .ref (a 7)) rfl dX0_canKeep_36 ?_
      refine lv_iload_n hx hb dX0_canKeep_39 rfl (lv_at hl 3 rfl) ?_
      refine wk_ald (f := σ 7) hx hb hK hP 4 0 rfl rfl i rfl (by omega) (by decide) dX0_canKeep_40 ?_
      refine lv_iload_n hx hb dX0_canKeep_41 rfl (lv_at hl 2 rfl) ?_
      refine lv_iadd hx hb dX0_canKeep_42 ?_
      refine lv_icmp_le (tgt := 48) hx hb dX0_canKeep_43 (by decide) (fun h3 => ?_) (fun h3 => ?_)
      rotate_left
      · refine lv_iconst (v := 0) hx hb dX0_canKeep_46 (by decide) ?_
        exact ret 47 ls 0 ((if_neg (fun q => h3 (q i (by omega) h2))).symm) dX0_canKeep_47
      refine lv_iinc (v := nI (i + 1)) (lv' := [(3, .int (nI (i + 1))), (0, .ref (a 0)), (1, .int set), (2, .int term)]) hx hb dX0_canKeep_48 hl (k := 3) rfl (nI_inc i 1) (by decide) rfl (fun ls hl => ?_)
      refine lv_goto (tgt := 2) hx hb dX0_canKeep_51 (by decide) ?_
      have hl : lv_has ls 4 [(0, .ref (a 0)), (1, .int set), (2, .int term), (3, .int (nI (i + 1)))] := lv_sub hl [1, 2, 3, 0] rfl
      exact ih2 (i + 1) (by omega) (lt_s hv (fun _ => h3)) (by omega) ls hl
  have hl : lv_has ls 4 [(0, .ref (a 0)), (1, .int set), (2, .int term), (3, .int 0)] := lv_sub hl [1, 2, 3, 0] rfl
  have hl := wk_lset (y := nI 0) (lv_sub (l' := [(3, .int 0), (0, .ref (a 0)), (1, .int set), (2, .int term)]) hl [3, 0, 1, 2] rfl) (by rfl)
  have hl : lv_has ls 4 [(0, .ref (a 0)), (1, .int set), (2, .int term), (3, .int (nI 0))] := lv_sub hl [1, 2, 3, 0] rfl
  exact lp2 _ 0 (by omega) (fun q h => absurd h (Nat.not_lt_zero q)) (Nat.lt_succ_self _) ls hl

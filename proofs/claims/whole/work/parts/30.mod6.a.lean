/-! ===== LastWordModel, walked: a day ===== -/
abbrev rmX8_asides : Room := { frames := 0, cells := 0, slots := 0, locals := 0 }
theorem hd_X8_asides : yX8_asides.cls = RX8 ∧ yX8_asides.cls ≠ "java/lang/invoke/MethodHandle" ∧ yX8_asides.cls ≠ "java/lang/invoke/VarHandle" ∧ (parseMethodDescriptor yX8_asides.desc).map (fun d => d.parameters.length) = some 0 := by decide +kernel
set_option maxHeartbeats 4000000 in
set_option maxRecDepth 100000 in
theorem c_X8_asides (l : Launch) (D : va_G) (c : Nat → ClassId) (ad : Nat → Nat) (μ : Nat → Nat → Int32) (r : Int64) : wk_UpV l yX8_asides wsX8_asides rmX8_asides D (tysL c) [.ref (ad 0)] (modelW c ad μ r) (modelW c ad (asF μ) r) := by
  refine wk_mkV (cc := cX8_asides) (maxL := 2) (by decide) rfl (Nat.le_of_ble_eq_true rfl) ?_
  intro A pr ev ss mm args below meth cd ls H H0 locs Q hst hP hK hD hS hA hl ret
  obtain ⟨hx, hb, hml, hown, hts, -⟩ := hst
  have hown : ss.vm.findClass RX8 = some mm.cls := hown
  have hl : lv_has ls 2 [(0, .ref (ad 0))] := hl
  have k1 := hts (.fieldLink RX8 25 "LastWordModel" "aside" "[I") (List.mem_of_getElem? (i := 1) rfl)
  have k2 := hts (.fieldLink RX8 19 "LastWordModel" "now" "[I") (List.mem_of_getElem? (i := 2) rfl)
  have iX8 : ∀ w ∈ u_ws RX8 TX8 18, w ∈ wsX8_asides := fun _ h => (List.mem_cons_of_mem _ (List.mem_append_right _ h))
  refine lv_iconst (v := 0) hx hb dX8_asides_0 (by decide) ?_
  refine lv_istore_n (lv' := [(1, .int 0), (0, .ref (ad 0))]) hx hb dX8_asides_1 rfl hl (by decide) rfl (fun ls hl => ?_)
  have lp2 : ∀ (n : Nat) (i : Nat), (i ≤ 46) → 46 - i < n → ∀ (H : Heap) (locs : List Loc), va_P D vwCl (modelW c ad (va_up μ 12 (fun k => if k < i then μ 8 k else μ 12 k)) r) H → va_D A (modelW c ad (va_up μ 12 (fun k => if k < i then μ 8 k else μ 12 k)) r) → va_S A H0 H locs → ∀ ls : Array Slot, lv_has ls 2 [(0, .ref (ad 0)), (1, .int (nI i))] → W pr l ev rmX8_asides ss mm args below meth cd H locs 0 0 Q (F0 mm 2 ls []) := by
    intro n
    induction n with
    | zero => intro i hi hn; exact absurd hn (Nat.not_lt_zero _)
    | succ n ih2 =>
      intro i hi hn H locs hP hD hS ls hl
      refine lv_iload_n hx hb dX8_asides_2 rfl (lv_at hl 1 rfl) ?_
      refine lv_bipush (v := 46) hx hb dX8_asides_3 (by decide) ?_
      refine wk_ge (tgt := 26) hx hb i 46 rfl rfl (by omega) (by omega) dX8_asides_5 (by decide) (fun h1 => ?_) (fun h1 => ?_)
      · have eg2 : va_up μ 12 (fun k => if k < i then μ 8 k else μ 12 k) = asF μ := by rw [asF, show i = 46 by omega]
        have hP : va_P D vwCl (modelW c ad (asF μ) r) H := by rw [← eg2]; exact hP
        have hD : va_D A (modelW c ad (asF μ) r) := by rw [← eg2]; exact hD
        exact ret 26 ls H _ hP hS dX8_asides_26
      refine lv_aload_n hx hb dX8_asides_8 rfl (lv_at hl 0 rfl) ?_
      refine wg_X8_12 hx hb hts iX8 hown hK hP 0 rfl k1 (v := .ref (ad 12)) rfl dX8_asides_9 ?_
      refine lv_iload_n hx hb dX8_asides_12 rfl (lv_at hl 1 rfl) ?_
      refine lv_aload_n hx hb dX8_asides_13 rfl (lv_at hl 0 rfl) ?_
      refine wg_X8_8 hx hb hts iX8 hown hK hP 0 rfl k2 (v := .ref (ad 8)) rfl dX8_asides_14 ?_
      refine lv_iload_n hx hb dX8_asides_17 rfl (lv_at hl 1 rfl) ?_
      refine wk_ald (f := μ 8) hx hb hK hP 4 0 rfl rfl i rfl (by omega) (by decide) dX8_asides_18 ?_
      refine wk_ast hx hb hK hP hD hS 6 0 rfl rfl i rfl (by omega) (by decide) dX8_asides_19 (ws' := modelW c ad (va_up μ 12 (upd (fun k => if k < i then μ 8 k else μ 12 k) i (μ 8 i))) r) rfl (fun H locs hP hD hS => ?_)
      refine lv_iinc (v := nI (i + 1)) (lv' := [(1, .int (nI (i + 1))), (0, .ref (ad 0))]) hx hb dX8_asides_20 hl (k := 1) rfl (nI_inc i 1) (by decide) rfl (fun ls hl => ?_)
      refine lv_goto (tgt := 2) hx hb dX8_asides_23 (by decide) ?_
      have eg3 : va_up μ 12 (upd (fun k => if k < i then μ 8 k else μ 12 k) i (μ 8 i)) = va_up μ 12 (fun k => if k < (i + 1) then μ 8 k else μ 12 k) := by exact congrArg (va_up μ 12) (fill_s (μ 8) (μ 12) i)
      have hP : va_P D vwCl (modelW c ad (va_up μ 12 (fun k => if k < (i + 1) then μ 8 k else μ 12 k)) r) H := by rw [← eg3]; exact hP
      have hD : va_D A (modelW c ad (va_up μ 12 (fun k => if k < (i + 1) then μ 8 k else μ 12 k)) r) := by rw [← eg3]; exact hD
      have hl : lv_has ls 2 [(0, .ref (ad 0)), (1, .int (nI (i + 1)))] := lv_sub hl [1, 0] rfl
      exact ih2 (i + 1) (by omega) (by omega) H _ hP hD hS ls hl
  have eg4 : μ = va_up μ 12 (fun k => if k < 0 then μ 8 k else μ 12 k) := by exact (up_self (fill_0 (μ 8) (μ 12))).symm
  have hP : va_P D vwCl (modelW c ad (va_up μ 12 (fun k => if k < 0 then μ 8 k else μ 12 k)) r) H := by rw [← eg4]; exact hP
  have hD : va_D A (modelW c ad (va_up μ 12 (fun k => if k < 0 then μ 8 k else μ 12 k)) r) := by rw [← eg4]; exact hD
  have hl : lv_has ls 2 [(0, .ref (ad 0)), (1, .int 0)] := lv_sub hl [1, 0] rfl
  have hl := wk_lset (y := nI 0) (lv_sub (l' := [(1, .int 0), (0, .ref (ad 0))]) hl [1, 0] rfl) (by rfl)
  have hl : lv_has ls 2 [(0, .ref (ad 0)), (1, .int (nI 0))] := lv_sub hl [1, 0] rfl
  exact lp2 _ 0 (by omega) (Nat.lt_succ_self _) H _ hP hD hS ls hl

abbrev rmX8_backs : Room := { frames := 0, cells := 0, slots := 0, locals := 0 }
theorem hd_X8_backs : yX8_backs.cls = RX8 ∧ yX8_backs.cls ≠ "java/lang/invoke/MethodHandle" ∧ yX8_backs.cls ≠ "java/lang/invoke/VarHandle" ∧ (parseMethodDescriptor yX8_backs.desc).map (fun d => d.parameters.length) = some 0 := by decide +kernel
set_option maxHeartbeats 4000000 in
set_option maxRecDepth 100000 in
theorem c_X8_backs (l : Launch) (D : va_G) (c : Nat → ClassId) (ad : Nat → Nat) (μ : Nat → Nat → Int32) (r : Int64) : wk_UpV l yX8_backs wsX8_backs rmX8_backs D (tysL c) [.ref (ad 0)] (modelW c ad μ r) (modelW c ad (bkF μ) r) := by
  refine wk_mkV (cc := cX8_backs) (maxL := 2) (by decide) rfl (Nat.le_of_ble_eq_true rfl) ?_
  intro A pr ev ss mm args below meth cd ls H H0 locs Q hst hP hK hD hS hA hl ret
  obtain ⟨hx, hb, hml, hown, hts, -⟩ := hst
  have hown : ss.vm.findClass RX8 = some mm.cls := hown
  have hl : lv_has ls 2 [(0, .ref (ad 0))] := hl
  have k1 := hts (.fieldLink RX8 19 "LastWordModel" "now" "[I") (List.mem_of_getElem? (i := 1) rfl)
  have k2 := hts (.fieldLink RX8 25 "LastWordModel" "aside" "[I") (List.mem_of_getElem? (i := 2) rfl)
  have iX8 : ∀ w ∈ u_ws RX8 TX8 18, w ∈ wsX8_backs := fun _ h => (List.mem_cons_of_mem _ (List.mem_append_right _ h))
  refine lv_iconst (v := 0) hx hb dX8_backs_0 (by decide) ?_
  refine lv_istore_n (lv' := [(1, .int 0), (0, .ref (ad 0))]) hx hb dX8_backs_1 rfl hl (by decide) rfl (fun ls hl => ?_)
  have lp2 : ∀ (n : Nat) (i : Nat), (i ≤ 46) → 46 - i < n → ∀ (H : Heap) (locs : List Loc), va_P D vwCl (modelW c ad (va_up μ 8 (fun k => if k < i then μ 12 k else μ 8 k)) r) H → va_D A (modelW c ad (va_up μ 8 (fun k => if k < i then μ 12 k else μ 8 k)) r) → va_S A H0 H locs → ∀ ls : Array Slot, lv_has ls 2 [(0, .ref (ad 0)), (1, .int (nI i))] → W pr l ev rmX8_backs ss mm args below meth cd H locs 0 0 Q (F0 mm 2 ls []) := by
    intro n
    induction n with
    | zero => intro i hi hn; exact absurd hn (Nat.not_lt_zero _)
    | succ n ih2 =>
      intro i hi hn H locs hP hD hS ls hl
      refine lv_iload_n hx hb dX8_backs_2 rfl (lv_at hl 1 rfl) ?_
      refine lv_bipush (v := 46) hx hb dX8_backs_3 (by decide) ?_
      refine wk_ge (tgt := 26) hx hb i 46 rfl rfl (by omega) (by omega) dX8_backs_5 (by decide) (fun h1 => ?_) (fun h1 => ?_)
      · have eg2 : va_up μ 8 (fun k => if k < i then μ 12 k else μ 8 k) = bkF μ := by rw [bkF, show i = 46 by omega]
        have hP : va_P D vwCl (modelW c ad (bkF μ) r) H := by rw [← eg2]; exact hP
        have hD : va_D A (modelW c ad (bkF μ) r) := by rw [← eg2]; exact hD
        exact ret 26 ls H _ hP hS dX8_backs_26
      refine lv_aload_n hx hb dX8_backs_8 rfl (lv_at hl 0 rfl) ?_
      refine wg_X8_8 hx hb hts iX8 hown hK hP 0 rfl k1 (v := .ref (ad 8)) rfl dX8_backs_9 ?_
      refine lv_iload_n hx hb dX8_backs_12 rfl (lv_at hl 1 rfl) ?_
      refine lv_aload_n hx hb dX8_backs_13 rfl (lv_at hl 0 rfl) ?_
      refine wg_X8_12 hx hb hts iX8 hown hK hP 0 rfl k2 (v := .ref (ad 12)) rfl dX8_backs_14 ?_
      refine lv_iload_n hx hb dX8_backs_17 rfl (lv_at hl 1 rfl) ?_
      refine wk_ald (f := μ 12) hx hb hK hP 6 0 rfl rfl i rfl (by omega) (by decide) dX8_backs_18 ?_
      refine wk_ast hx hb hK hP hD hS 4 0 rfl rfl i rfl (by omega) (by decide) dX8_backs_19 (ws' := modelW c ad (va_up μ 8 (upd (fun k => if k < i then μ 12 k else μ 8 k) i (μ 12 i))) r) rfl (fun H locs hP hD hS => ?_)
      refine lv_iinc (v := nI (i + 1)) (lv' := [(1, .int (nI (i + 1))), (0, .ref (ad 0))]) hx hb dX8_backs_20 hl (k := 1) rfl (nI_inc i 1) (by decide) rfl (fun ls hl => ?_)
      refine lv_goto (tgt := 2) hx hb dX8_backs_23 (by decide) ?_
      have eg3 : va_up μ 8 (upd (fun k => if k < i then μ 12 k else μ 8 k) i (μ 12 i)) = va_up μ 8 (fun k => if k < (i + 1) then μ 12 k else μ 8 k) := by exact congrArg (va_up μ 8) (fill_s (μ 12) (μ 8) i)
      have hP : va_P D vwCl (modelW c ad (va_up μ 8 (fun k => if k < (i + 1) then μ 12 k else μ 8 k)) r) H := by rw [← eg3]; exact hP
      have hD : va_D A (modelW c ad (va_up μ 8 (fun k => if k < (i + 1) then μ 12 k else μ 8 k)) r) := by rw [← eg3]; exact hD
      have hl : lv_has ls 2 [(0, .ref (ad 0)), (1, .int (nI (i + 1)))] := lv_sub hl [1, 0] rfl
      exact ih2 (i + 1) (by omega) (by omega) H _ hP hD hS ls hl
  have eg4 : μ = va_up μ 8 (fun k => if k < 0 then μ 12 k else μ 8 k) := by exact (up_self (fill_0 (μ 12) (μ 8))).symm
  have hP : va_P D vwCl (modelW c ad (va_up μ 8 (fun k => if k < 0 then μ 12 k else μ 8 k)) r) H := by rw [← eg4]; exact hP
  have hD : va_D A (modelW c ad (va_up μ 8 (fun k => if k < 0 then μ 12 k else μ 8 k)) r) := by rw [← eg4]; exact hD
  have hl : lv_has ls 2 [(0, .ref (ad 0)), (1, .int 0)] := lv_sub hl [1, 0] rfl
  have hl := wk_lset (y := nI 0) (lv_sub (l' := [(1, .int 0), (0, .ref (ad 0))]) hl [1, 0] rfl) (by rfl)
  have hl : lv_has ls 2 [(0, .ref (ad 0)), (1, .int (nI 0))] := lv_sub hl [1, 0] rfl
  exact lp2 _ 0 (by omega) (Nat.lt_succ_self _) H _ hP hD hS ls hl

abbrev rmX8_goesBy : Room := { frames := 4, cells := 0, slots := 0, locals := 95 }
theorem hd_X8_goesBy : yX8_goesBy.cls = RX8 ∧ yX8_goesBy.cls ≠ "java/lang/invoke/MethodHandle" ∧ yX8_goesBy.cls ≠ "java/lang/invoke/VarHandle" ∧ (parseMethodDescriptor yX8_goesBy.desc).map (fun d => d.parameters.length) = some 0 := by decide +kernel
set_option maxHeartbeats 4000000 in
set_option maxRecDepth 100000 in
theorem c_X8_goesBy (l : Launch) (D : va_G) (c : Nat → ClassId) (ad : Nat → Nat) (μ : Nat → Nat → Int32) (r : Int64) (hG : wfG μ) : wk_UpI l yX8_goesBy wsX8_goesBy rmX8_goesBy D (tysL c) [.ref (ad 0)] (modelW c ad μ r) (modelW c ad (gyS μ (qM μ)) r) (gyC μ (qM μ)) := by
  refine wk_mkU (cc := cX8_goesBy) (maxL := 4) (rt := .int) (by decide) rfl (Nat.le_of_ble_eq_true rfl) rfl ?_
  intro A pr ev ss mm args below meth cd ls H H0 locs Q hst hP hK hD hS hA hl ret
  obtain ⟨hx, hb, hml, hown, hts, -⟩ := hst
  have hown : ss.vm.findClass RX8 = some mm.cls := hown
  have hl : lv_has ls 4 [(0, .ref (ad 0))] := hl
  have k1 := hts (.fieldLink RX8 16 "LastWordModel" "paper" "[I") (List.mem_of_getElem? (i := 1) rfl)
  have k2 := hts (.fieldLink RX8 19 "LastWordModel" "now" "[I") (List.mem_of_getElem? (i := 2) rfl)
  have k3 := hts (.fieldLink RX8 139 "LastWordModel" "newly" "I") (List.mem_of_getElem? (i := 3) rfl)
  have iX8 : ∀ w ∈ u_ws RX8 TX8 18, w ∈ wsX8_goesBy := fun _ h => (List.mem_cons_of_mem _ (List.mem_append_right _ h))
  have hW6 := hG.1.1.2
  have hQ6 := hG.2.1.2
  refine lv_iconst (v := 0) hx hb dX8_goesBy_0 (by decide) ?_
  refine lv_istore_n (lv' := [(1, .int 0), (0, .ref (ad 0))]) hx hb dX8_goesBy_1 rfl hl (by decide) rfl (fun ls hl => ?_)
  have lp2 : ∀ (n : Nat) (i : Nat), (i ≤ nM μ) → nM μ - i < n → ∀ (H : Heap) (locs : List Loc), va_P D vwCl (modelW c ad (gwS μ i) r) H → va_D A (modelW c ad (gwS μ i) r) → va_S A H0 H locs → ∀ ls : Array Slot, lv_has ls 4 [(0, .ref (ad 0)), (1, .int (nI i))] → W pr l ev rmX8_goesBy ss mm args below meth cd H locs 0 0 Q (F0 mm 2 ls []) := by
    intro n
    induction n with
    | zero => intro i hi hn; exact absurd hn (Nat.not_lt_zero _)
    | succ n ih2 =>
      intro i hi hn H locs hP hD hS ls hl
      refine lv_iload_n hx hb dX8_goesBy_2 rfl (lv_at hl 1 rfl) ?_
      refine lv_aload_n hx hb dX8_goesBy_3 rfl (lv_at hl 0 rfl) ?_
      refine wg_X8_7 hx hb hts iX8 hown hK hP 0 rfl k1 (v := .ref (ad 7)) rfl dX8_goesBy_4 ?_
      refine lv_iconst (v := 0) hx hb dX8_goesBy_7 (by decide) ?_
      refine wk_ald (f := (gwS μ i) 7) hx hb hK hP 3 0 rfl rfl 0 rfl (by omega) (by decide) dX8_goesBy_8 ?_
      refine wk_eqi (y := nI (nM μ)) (by rw [gwS_of μ (by decide)]; exact hG.1.1.1) ?_
      refine wk_ge (tgt := 48) hx hb i (nM μ) rfl rfl (by omega) (by omega) dX8_goesBy_9 (by decide) (fun h1 => ?_) (fun h1 => ?_)
      · refine lv_aload_n hx hb dX8_goesBy_48 rfl (lv_at hl 0 rfl) ?_
        refine wg_X8_8 hx hb hts iX8 hown hK hP 0 rfl k2 (v := .ref (ad 8)) rfl dX8_goesBy_49 ?_
        refine lv_iconst (v := 0) hx hb dX8_goesBy_52 (by decide) ?_
        refine lv_dup2_11 hx hb dX8_goesBy_53 rfl rfl ?_
        refine wk_ald (f := (gwS μ i) 8) hx hb hK hP 4 0 rfl rfl 0 rfl (by omega) (by decide) dX8_goesBy_54 ?_
        refine lv_iconst (v := 1) hx hb dX8_goesBy_55 (by decide) ?_
        refine lv_iadd hx hb dX8_goesBy_56 ?_
        refine wk_ast hx hb hK hP hD hS 4 0 rfl rfl 0 rfl (by omega) (by decide) dX8_goesBy_57 (ws' := modelW c ad (va_up (gwS μ i) 8 (upd ((gwS μ i) 8) 0 (((gwS μ i) 8 0) + 1))) r) rfl (fun H locs hP hD hS => ?_)
        refine lv_iconst (v := 0) hx hb dX8_goesBy_58 (by decide) ?_
        refine lv_istore_n (lv' := [(1, .int 0), (0, .ref (ad 0))]) hx hb dX8_goesBy_59 rfl hl (by decide) rfl (fun ls hl => ?_)
        refine lv_aload_n hx hb dX8_goesBy_60 rfl (lv_at hl 1 rfl) ?_
        refine lv_bipush (v := -9) hx hb dX8_goesBy_61 (by decide) ?_
        refine wp_X8_11 hx hb hts iX8 hown hK hP hD hS 0 rfl k3 (Nat.le_of_ble_eq_true rfl) dX8_goesBy_63 (ws' := modelW c ad (va_up (va_up (gwS μ i) 8 (upd ((gwS μ i) 8) 0 (((gwS μ i) 8 0) + 1))) 11 (fun _ => (-9))) r) rfl (fun H locs hP hD hS => ?_)
        have eg2 : va_up (va_up (gwS μ i) 8 (upd ((gwS μ i) 8) 0 (((gwS μ i) 8 0) + 1))) 11 (fun _ => (-9)) = gy0 μ := by rw [gy0, show i = nM μ by omega]
        have hP : va_P D vwCl (modelW c ad (gy0 μ) r) H := by rw [← eg2]; exact hP
        have hD : va_D A (modelW c ad (gy0 μ) r) := by rw [← eg2]; exact hD
        refine lv_iconst (v := 0) hx hb dX8_goesBy_66 (by decide) ?_
        refine lv_istore_n (lv' := [(2, .int 0), (1, .int 0), (0, .ref (ad 0))]) hx hb dX8_goesBy_67 rfl hl (by decide) rfl (fun ls hl => ?_)
        have lp68 : ∀ (n : Nat) (q : Nat), (q ≤ qM μ) → qM μ - q < n → ∀ (H : Heap) (locs : List Loc), va_P D vwCl (modelW c ad (gyS μ q) r) H → va_D A (modelW c ad (gyS μ q) r) → va_S A H0 H locs → ∀ ls : Array Slot, lv_has ls 4 [(0, .ref (ad 0)), (1, .int (gyC μ q)), (2, .int (nI q))] → W pr l ev rmX8_goesBy ss mm args below meth cd H locs 0 0 Q (F0 mm 68 ls []) := by
          intro n
          induction n with
          | zero => intro q hq hn; exact absurd hn (Nat.not_lt_zero _)
          | succ n ih68 =>
            intro q hq hn H locs hP hD hS ls hl
            refine lv_iload_n hx hb dX8_goesBy_68 rfl (lv_at hl 2 rfl) ?_
            refine lv_aload_n hx hb dX8_goesBy_69 rfl (lv_at hl 0 rfl) ?_
            refine wg_X8_8 hx hb hts iX8 hown hK hP 0 rfl k2 (v := .ref (ad 8)) rfl dX8_goesBy_70 ?_
            refine lv_iconst (v := 1) hx hb dX8_goesBy_73 (by decide) ?_
            refine wk_ald (f := (gyS μ q) 8) hx hb hK hP 4 0 rfl rfl 1 rfl (by omega) (by decide) dX8_goesBy_74 ?_
            refine wk_eqi (y := nI (qM μ)) ((gyS_G hG q hq).2.trans hG.2.1.1) ?_
            refine wk_ge (tgt := 205) hx hb q (qM μ) rfl rfl (by omega) (by omega) dX8_goesBy_75 (by decide) (fun h3 => ?_) (fun h3 => ?_)
            · refine lv_iload_n hx hb dX8_goesBy_205 rfl (lv_at hl 1 rfl) ?_
              have eg4 : gyS μ q = gyS μ (qM μ) := by rw [show q = qM μ by omega]
              have hP : va_P D vwCl (modelW c ad (gyS μ (qM μ)) r) H := by rw [← eg4]; exact hP
              have hD : va_D A (modelW c ad (gyS μ (qM μ)) r) := by rw [← eg4]; exact hD
              exact ret 206 ls H _ (gyC μ q) (by rw [show q = qM μ by omega]) hP hS dX8_goesBy_206
            refine lv_aload_n hx hb dX8_goesBy_78 rfl (lv_at hl 0 rfl) ?_
            refine lv_iload_n hx hb dX8_goesBy_79 rfl (lv_at hl 2 rfl) ?_
            refine lv_iconst (v := 3) hx hb dX8_goesBy_80 (by decide) ?_
            refine wk_callRV (As := [.int (nI q), .int 3]) (rest := []) ⟨hx, hb, hml, hown, hts⟩ (c_X8_at l D c ad (gyS μ q) r q 3 (by omega) (by omega)) (cwV 2 hts gX8_goesBy_X8_at rfl rfl rfl hd_X8_at ⟨Nat.le_of_ble_eq_true rfl, Nat.le_of_ble_eq_true rfl⟩) hK hP [0, 1, 2, 3, 4, 5, 6, 7, 8] rfl 0 rfl rfl rfl hl.1 rfl (Nat.le_of_ble_eq_true rfl) dX8_goesBy_81 (Nat.zero_le _) (Nat.zero_le _) ?_
            refine lv_topi (fun v ev => ?_)
            refine lv_istore_n (lv' := [(3, .int v), (0, .ref (ad 0)), (1, .int (gyC μ q)), (2, .int (nI q))]) hx hb dX8_goesBy_84 rfl hl (by decide) rfl (fun ls hl => ?_)
            have hGq := (gyS_G hG q hq).1
            have eq1 : qM (gyS μ q) = qM μ := by unfold qM; rw [(gyS_G hG q hq).2]
            have hq3 : q < qM (gyS μ q) := by rw [eq1]; omega
            have hsq := hGq.2.2.1 q hq3
            have hn6 := hGq.1.1.2
            refine lv_iload_n hx hb dX8_goesBy_85 rfl (lv_at hl 0 rfl) ?_
            refine lv_bipush (v := -9) hx hb dX8_goesBy_86 (by decide) ?_
            refine lv_icmp_eq (tgt := 123) hx hb dX8_goesBy_88 (by decide) (fun h5 => ?_) (fun h5 => ?_)
            · refine lv_iload_n hx hb dX8_goesBy_123 rfl (lv_at hl 0 rfl) ?_
              refine lv_bipush (v := -9) hx hb dX8_goesBy_124 (by decide) ?_
              refine lv_icmp_eq (tgt := 199) hx hb dX8_goesBy_126 (by decide) (fun h6 => ?_) (fun h6 => ?_)
              rotate_left
              · contradiction
              refine lv_iinc (v := nI (q + 1)) (lv' := [(2, .int (nI (q + 1))), (3, .int v), (0, .ref (ad 0)), (1, .int (gyC μ q))]) hx hb dX8_goesBy_199 hl (k := 3) rfl (nI_inc q 1) (by decide) rfl (fun ls hl => ?_)
              refine lv_goto (tgt := 68) hx hb dX8_goesBy_202 (by decide) ?_
              have eg7 : gyS μ q = gyS μ (q + 1) := by first | rfl | contradiction | (simp [gyS, gyT, gyC, ltM, ← ev, h1, h3, h5, h6]; done)
              have hP : va_P D vwCl (modelW c ad (gyS μ (q + 1)) r) H := by rw [← eg7]; exact hP
              have hD : va_D A (modelW c ad (gyS μ (q + 1)) r) := by rw [← eg7]; exact hD
              have hl : lv_has ls 4 [(0, .ref (ad 0)), (1, .int (gyC μ q)), (2, .int (nI (q + 1)))] := lv_sub hl [2, 3, 0] rfl
              have hl := wk_lset (y := gyC μ (q + 1)) (lv_sub (l' := [(1, .int (gyC μ q)), (0, .ref (ad 0)), (2, .int (nI (q + 1)))]) hl [1, 0, 2] rfl) (by first | rfl | contradiction | (simp [gyS, gyT, gyC, ltM, ← ev, h1, h3, h5, h6]; done))
              have hl : lv_has ls 4 [(0, .ref (ad 0)), (1, .int (gyC μ (q + 1))), (2, .int (nI (q + 1)))] := lv_sub hl [1, 0, 2] rfl
              exact ih68 (q + 1) (by omega) (by omega) H _ hP hD hS ls hl
            refine lv_aload_n hx hb dX8_goesBy_91 rfl (lv_at hl 1 rfl) ?_
            refine lv_iload_n hx hb dX8_goesBy_92 rfl (lv_at hl 3 rfl) ?_
            refine lv_iconst (v := 4) hx hb dX8_goesBy_93 (by decide) ?_
            refine wk_callRV (As := [.int (nI q), .int 4]) (rest := []) ⟨hx, hb, hml, hown, hts⟩ (c_X8_at l D c ad (gyS μ q) r q 4 (by omega) (by omega)) (cwV 2 hts gX8_goesBy_X8_at rfl rfl rfl hd_X8_at ⟨Nat.le_of_ble_eq_true rfl, Nat.le_of_ble_eq_true rfl⟩) hK hP [0, 1, 2, 3, 4, 5, 6, 7, 8] rfl 0 rfl rfl rfl hl.1 rfl (Nat.le_of_ble_eq_true rfl) dX8_goesBy_94 (Nat.zero_le _) (Nat.zero_le _) ?_
            refine lv_if_ne (tgt := 123) hx hb dX8_goesBy_97 (by decide) (fun h8 => ?_) (fun h8 => ?_)
            rotate_left
            · have hov : ixOK v (nM (gyS μ q)) := by rw [ev]; exact (hGq.2.2.2 q hq3).resolve_left (fun e => h5 (ev.trans e))
              have ho2 := hov.2
              have han := anM_ix hGq hov.2 hsq
              refine lv_aload_n hx hb dX8_goesBy_100 rfl (lv_at hl 1 rfl) ?_
              refine lv_iload_n hx hb dX8_goesBy_101 rfl (lv_at hl 3 rfl) ?_
              refine lv_iload_n hx hb dX8_goesBy_102 rfl (lv_at hl 0 rfl) ?_
              refine lv_aload_n hx hb dX8_goesBy_103 rfl (lv_at hl 1 rfl) ?_
              refine lv_iload_n hx hb dX8_goesBy_104 rfl (lv_at hl 0 rfl) ?_
              refine wk_eqi (y := nI v.toNatClampNeg) (hov.1) ?_
              refine lv_aload_n hx hb dX8_goesBy_105 rfl (lv_at hl 1 rfl) ?_
              refine lv_iload_n hx hb dX8_goesBy_106 rfl (lv_at hl 3 rfl) ?_
              refine lv_iconst (v := 1) hx hb dX8_goesBy_107 (by decide) ?_
              refine wk_callRV (As := [.int (nI q), .int 1]) (rest := [.int (nI v.toNatClampNeg), .ref (ad 0), .int v, .int (nI q), .ref (ad 0)]) ⟨hx, hb, hml, hown, hts⟩ (c_X8_at l D c ad (gyS μ q) r q 1 (by omega) (by omega)) (cwV 2 hts gX8_goesBy_X8_at rfl rfl rfl hd_X8_at ⟨Nat.le_of_ble_eq_true rfl, Nat.le_of_ble_eq_true rfl⟩) hK hP [0, 1, 2, 3, 4, 5, 6, 7, 8] rfl 0 rfl rfl rfl hl.1 rfl (Nat.le_of_ble_eq_true rfl) dX8_goesBy_108 (Nat.zero_le _) (Nat.zero_le _) ?_
              refine wk_callRV (As := [.int (nI v.toNatClampNeg), .int (atV (gyS μ q) q 1)]) (rest := [.int v, .int (nI q), .ref (ad 0)]) ⟨hx, hb, hml, hown, hts⟩ (c_X8_answers l D c ad (gyS μ q) r v.toNatClampNeg (atV (gyS μ q) q 1) (by omega)) (cwV 2 hts gX8_goesBy_X8_answers rfl rfl rfl hd_X8_answers ⟨Nat.le_of_ble_eq_true rfl, Nat.le_of_ble_eq_true rfl⟩) hK hP [0, 1, 2, 3, 4, 5, 6, 7, 8] rfl 0 rfl rfl rfl hl.1 rfl (Nat.le_of_ble_eq_true rfl) dX8_goesBy_111 (Nat.zero_le _) (Nat.zero_le _) ?_
              refine wk_eqi (y := nI ((anM (gyS μ q) v.toNatClampNeg (atV (gyS μ q) q 1)).toNatClampNeg)) (han.1) ?_
              refine wk_callVV (As := [.int (nI q), .int v, .int (nI ((anM (gyS μ q) v.toNatClampNeg (atV (gyS μ q) q 1)).toNatClampNeg))]) (rest := []) ⟨hx, hb, hml, hown, hts⟩ (c_X8_prints l D c ad (gyS μ q) r q v ((anM (gyS μ q) v.toNatClampNeg (atV (gyS μ q) q 1)).toNatClampNeg) (hGq.1.1) (by omega) (han.2)) (cwV 3 hts gX8_goesBy_X8_prints rfl rfl rfl hd_X8_prints ⟨Nat.le_of_ble_eq_true rfl, Nat.le_of_ble_eq_true rfl⟩) hK hP hD hS hA [0, 1, 2, 3, 4, 5, 6, 7, 8] [] 9 rfl rfl [ad 0, ad 100, ad 6, ad 7, ad 8, ad 9, ad 12, ad 15, ad 17] rfl rfl (ws' := modelW c ad (prF (gyS μ q) q v ((anM (gyS μ q) v.toNatClampNeg (atV (gyS μ q) q 1)).toNatClampNeg)) r) rfl (wr := []) rfl rfl rfl rfl 0 rfl rfl rfl hl.1 rfl (Nat.le_of_ble_eq_true rfl) dX8_goesBy_114 (Nat.zero_le _) (Nat.zero_le _) (fun H locs hP hD hS => ?_)
              refine lv_iinc (v := gyC μ q + 1) (lv' := [(1, .int (gyC μ q + 1)), (3, .int v), (0, .ref (ad 0)), (2, .int (nI q))]) hx hb dX8_goesBy_117 hl (k := 2) rfl (rfl) (by decide) rfl (fun ls hl => ?_)
              refine lv_goto (tgt := 199) hx hb dX8_goesBy_120 (by decide) ?_
              refine lv_iinc (v := nI (q + 1)) (lv' := [(2, .int (nI (q + 1))), (1, .int (gyC μ q + 1)), (3, .int v), (0, .ref (ad 0))]) hx hb dX8_goesBy_199 hl (k := 3) rfl (nI_inc q 1) (by decide) rfl (fun ls hl => ?_)
              refine lv_goto (tgt := 68) hx hb dX8_goesBy_202 (by decide) ?_
              have eg16 : prF (gyS μ q) q v ((anM (gyS μ q) v.toNatClampNeg (atV (gyS μ q) q 1)).toNatClampNeg) = gyS μ (q + 1) := by first | rfl | contradiction | (simp [gyS, gyT, gyC, ltM, ← ev, h1, h3, h5, h8]; done)
              have hP : va_P D vwCl (modelW c ad (gyS μ (q + 1)) r) H := by rw [← eg16]; exact hP
              have hD : va_D A (modelW c ad (gyS μ (q + 1)) r) := by rw [← eg16]; exact hD
              have hl : lv_has ls 4 [(0, .ref (ad 0)), (1, .int (gyC μ q + 1)), (2, .int (nI (q + 1)))] := lv_sub hl [3, 1, 0] rfl
              have hl := wk_lset (y := gyC μ (q + 1)) (lv_sub (l' := [(1, .int (gyC μ q + 1)), (0, .ref (ad 0)), (2, .int (nI (q + 1)))]) hl [1, 0, 2] rfl) (by first | rfl | contradiction | (simp [gyS, gyT, gyC, ltM, ← ev, h1, h3, h5, h8]; done))
              have hl : lv_has ls 4 [(0, .ref (ad 0)), (1, .int (gyC μ (q + 1))), (2, .int (nI (q + 1)))] := lv_sub hl [1, 0, 2] rfl
              exact ih68 (q + 1) (by omega) (by omega) H _ hP hD hS ls hl
            refine lv_iload_n hx hb dX8_goesBy_123 rfl (lv_at hl 0 rfl) ?_
            refine lv_bipush (v := -9) hx hb dX8_goesBy_124 (by decide) ?_
            refine lv_icmp_eq (tgt := 199) hx hb dX8_goesBy_126 (by decide) (fun h9 => ?_) (fun h9 => ?_)
            · refine lv_iinc (v := nI (q + 1)) (lv' := [(2, .int (nI (q + 1))), (3, .int v), (0, .ref (ad 0)), (1, .int (gyC μ q))]) hx hb dX8_goesBy_199 hl (k := 3) rfl (nI_inc q 1) (by decide) rfl (fun ls hl => ?_)
              refine lv_goto (tgt := 68) hx hb dX8_goesBy_202 (by decide) ?_
              have eg10 : gyS μ q = gyS μ (q + 1) := by first | rfl | contradiction | (simp [gyS, gyT, gyC, ltM, ← ev, h1, h3, h5, h8, h9]; done)
              have hP : va_P D vwCl (modelW c ad (gyS μ (q + 1)) r) H := by rw [← eg10]; exact hP
              have hD : va_D A (modelW c ad (gyS μ (q + 1)) r) := by rw [← eg10]; exact hD
              have hl : lv_has ls 4 [(0, .ref (ad 0)), (1, .int (gyC μ q)), (2, .int (nI (q + 1)))] := lv_sub hl [2, 3, 0] rfl
              have hl := wk_lset (y := gyC μ (q + 1)) (lv_sub (l' := [(1, .int (gyC μ q)), (0, .ref (ad 0)), (2, .int (nI (q + 1)))]) hl [1, 0, 2] rfl) (by first | rfl | contradiction | (simp [gyS, gyT, gyC, ltM, ← ev, h1, h3, h5, h8, h9]; done))
              have hl : lv_has ls 4 [(0, .ref (ad 0)), (1, .int (gyC μ (q + 1))), (2, .int (nI (q + 1)))] := lv_sub hl [1, 0, 2] rfl
              exact ih68 (q + 1) (by omega) (by omega) H _ hP hD hS ls hl
            have hov : ixOK v (nM (gyS μ q)) := by rw [ev]; exact (hGq.2.2.2 q hq3).resolve_left (fun e => h9 (ev.trans e))
            have ho2 := hov.2
            refine lv_aload_n hx hb dX8_goesBy_129 rfl (lv_at hl 1 rfl) ?_
            refine lv_iload_n hx hb dX8_goesBy_130 rfl (lv_at hl 3 rfl) ?_
            refine lv_iconst (v := 2) hx hb dX8_goesBy_131 (by decide) ?_
            refine wk_callRV (As := [.int (nI q), .int 2]) (rest := []) ⟨hx, hb, hml, hown, hts⟩ (c_X8_at l D c ad (gyS μ q) r q 2 (by omega) (by omega)) (cwV 2 hts gX8_goesBy_X8_at rfl rfl rfl hd_X8_at ⟨Nat.le_of_ble_eq_true rfl, Nat.le_of_ble_eq_true rfl⟩) hK hP [0, 1, 2, 3, 4, 5, 6, 7, 8] rfl 0 rfl rfl rfl hl.1 rfl (Nat.le_of_ble_eq_true rfl) dX8_goesBy_132 (Nat.zero_le _) (Nat.zero_le _) ?_
            refine lv_aload_n hx hb dX8_goesBy_135 rfl (lv_at hl 1 rfl) ?_
            refine wg_X8_7 hx hb hts iX8 hown hK hP 0 rfl k1 (v := .ref (ad 7)) rfl dX8_goesBy_136 ?_
            refine lv_iconst (v := 1) hx hb dX8_goesBy_139 (by decide) ?_
            refine wk_ald (f := (gyS μ q) 7) hx hb hK hP 3 0 rfl rfl 1 rfl (by omega) (by decide) dX8_goesBy_140 ?_
            refine lv_iadd hx hb dX8_goesBy_141 ?_
            refine lv_aload_n hx hb dX8_goesBy_142 rfl (lv_at hl 1 rfl) ?_
            refine wg_X8_8 hx hb hts iX8 hown hK hP 0 rfl k2 (v := .ref (ad 8)) rfl dX8_goesBy_143 ?_
            refine lv_iconst (v := 0) hx hb dX8_goesBy_146 (by decide) ?_
            refine wk_ald (f := (gyS μ q) 8) hx hb hK hP 4 0 rfl rfl 0 rfl (by omega) (by decide) dX8_goesBy_147 ?_
            refine lv_icmp_ne (tgt := 199) hx hb dX8_goesBy_148 (by decide) (fun h11 => ?_) (fun h11 => ?_)
            · refine lv_iinc (v := nI (q + 1)) (lv' := [(2, .int (nI (q + 1))), (3, .int v), (0, .ref (ad 0)), (1, .int (gyC μ q))]) hx hb dX8_goesBy_199 hl (k := 3) rfl (nI_inc q 1) (by decide) rfl (fun ls hl => ?_)
              refine lv_goto (tgt := 68) hx hb dX8_goesBy_202 (by decide) ?_
              have eg12 : gyS μ q = gyS μ (q + 1) := by first | rfl | contradiction | (simp [gyS, gyT, gyC, ltM, ← ev, h1, h3, h5, h8, h9, h11]; done)
              have hP : va_P D vwCl (modelW c ad (gyS μ (q + 1)) r) H := by rw [← eg12]; exact hP
              have hD : va_D A (modelW c ad (gyS μ (q + 1)) r) := by rw [← eg12]; exact hD
              have hl : lv_has ls 4 [(0, .ref (ad 0)), (1, .int (gyC μ q)), (2, .int (nI (q + 1)))] := lv_sub hl [2, 3, 0] rfl
              have hl := wk_lset (y := gyC μ (q + 1)) (lv_sub (l' := [(1, .int (gyC μ q)), (0, .ref (ad 0)), (2, .int (nI (q + 1)))]) hl [1, 0, 2] rfl) (by first | rfl | contradiction | (simp [gyS, gyT, gyC, ltM, ← ev, h1, h3, h5, h8, h9, h11]; done))
              have hl : lv_has ls 4 [(0, .ref (ad 0)), (1, .int (gyC μ (q + 1))), (2, .int (nI (q + 1)))] := lv_sub hl [1, 0, 2] rfl
              exact ih68 (q + 1) (by omega) (by omega) H _ hP hD hS ls hl
            refine lv_aload_n hx hb dX8_goesBy_151 rfl (lv_at hl 1 rfl) ?_
            refine wg_X8_8 hx hb hts iX8 hown hK hP 0 rfl k2 (v := .ref (ad 8)) rfl dX8_goesBy_152 ?_
            refine lv_bipush (v := 10) hx hb dX8_goesBy_155 (by decide) ?_
            refine lv_bipush (v := 6) hx hb dX8_goesBy_157 (by decide) ?_
            refine lv_iload_n hx hb dX8_goesBy_159 rfl (lv_at hl 3 rfl) ?_
            refine lv_imul hx hb dX8_goesBy_160 ?_
            refine wk_eqi (pk_mul 6 q) ?_
            refine lv_iadd hx hb dX8_goesBy_161 ?_
            refine wk_eqi (nI_add 10 (6 * q)) ?_
            refine lv_iconst (v := 5) hx hb dX8_goesBy_162 (by decide) ?_
            refine lv_iadd hx hb dX8_goesBy_163 ?_
            refine wk_eqi (nI_add (10 + (6 * q)) 5) ?_
            refine lv_iconst (v := 1) hx hb dX8_goesBy_164 (by decide) ?_
            refine wk_ast hx hb hK hP hD hS 4 0 rfl rfl ((10 + (6 * q)) + 5) rfl (by omega) (by decide) dX8_goesBy_165 (ws' := modelW c ad (va_up (gyS μ q) 8 (upd ((gyS μ q) 8) ((10 + (6 * q)) + 5) 1)) r) rfl (fun H locs hP hD hS => ?_)
            refine lv_aload_n hx hb dX8_goesBy_166 rfl (lv_at hl 1 rfl) ?_
            refine wg_X8_8 hx hb hts iX8 hown hK hP 0 rfl k2 (v := .ref (ad 8)) rfl dX8_goesBy_167 ?_
            refine lv_iconst (v := 4) hx hb dX8_goesBy_170 (by decide) ?_
            refine lv_iload_n hx hb dX8_goesBy_171 rfl (lv_at hl 0 rfl) ?_
            refine wk_eqi (y := nI v.toNatClampNeg) (hov.1) ?_
            refine lv_iadd hx hb dX8_goesBy_172 ?_
            refine wk_eqi (nI_add 4 v.toNatClampNeg) ?_
            refine lv_dup2_11 hx hb dX8_goesBy_173 rfl rfl ?_
            refine wk_ald (f := upd ((gyS μ q) 8) ((10 + (6 * q)) + 5) 1) hx hb hK hP 4 0 rfl rfl (4 + v.toNatClampNeg) rfl (by omega) (by decide) dX8_goesBy_174 ?_
            refine wk_eqi (y := gyS μ q 8 (4 + v.toNatClampNeg)) (pk_un (by omega)) ?_
            refine lv_iconst (v := 1) hx hb dX8_goesBy_175 (by decide) ?_
            refine lv_iadd hx hb dX8_goesBy_176 ?_
            refine wk_ast hx hb hK hP hD hS 4 0 rfl rfl (4 + v.toNatClampNeg) rfl (by omega) (by decide) dX8_goesBy_177 (ws' := modelW c ad (va_up (gyS μ q) 8 (upd (upd ((gyS μ q) 8) ((10 + (6 * q)) + 5) 1) (4 + v.toNatClampNeg) ((gyS μ q 8 (4 + v.toNatClampNeg)) + 1))) r) rfl (fun H locs hP hD hS => ?_)
            refine lv_aload_n hx hb dX8_goesBy_178 rfl (lv_at hl 1 rfl) ?_
            refine lv_aload_n hx hb dX8_goesBy_179 rfl (lv_at hl 1 rfl) ?_
            refine wg_X8_11 hx hb hts iX8 hown hK hP 0 rfl k3 (v := .int ((gyS μ q) 11 0)) rfl dX8_goesBy_180 ?_
            refine lv_bipush (v := -9) hx hb dX8_goesBy_183 (by decide) ?_
            refine lv_icmp_ne (tgt := 192) hx hb dX8_goesBy_185 (by decide) (fun h13 => ?_) (fun h13 => ?_)
            · refine lv_aload_n hx hb dX8_goesBy_192 rfl (lv_at hl 1 rfl) ?_
              refine wg_X8_11 hx hb hts iX8 hown hK hP 0 rfl k3 (v := .int ((gyS μ q) 11 0)) rfl dX8_goesBy_193 ?_
              refine wp_X8_11 hx hb hts iX8 hown hK hP hD hS 0 rfl k3 (Nat.le_of_ble_eq_true rfl) dX8_goesBy_196 (ws' := modelW c ad (va_up (va_up (gyS μ q) 8 (upd (upd ((gyS μ q) 8) ((10 + (6 * q)) + 5) 1) (4 + v.toNatClampNeg) ((gyS μ q 8 (4 + v.toNatClampNeg)) + 1))) 11 (fun _ => (gyS μ q) 11 0)) r) rfl (fun H locs hP hD hS => ?_)
              refine lv_iinc (v := nI (q + 1)) (lv' := [(2, .int (nI (q + 1))), (3, .int v), (0, .ref (ad 0)), (1, .int (gyC μ q))]) hx hb dX8_goesBy_199 hl (k := 3) rfl (nI_inc q 1) (by decide) rfl (fun ls hl => ?_)
              refine lv_goto (tgt := 68) hx hb dX8_goesBy_202 (by decide) ?_
              have eg14 : va_up (va_up (gyS μ q) 8 (upd (upd ((gyS μ q) 8) ((10 + (6 * q)) + 5) 1) (4 + v.toNatClampNeg) ((gyS μ q 8 (4 + v.toNatClampNeg)) + 1))) 11 (fun _ => (gyS μ q) 11 0) = gyS μ (q + 1) := by first | rfl | contradiction | (simp [gyS, gyT, gyC, ltM, ← ev, h1, h3, h5, h8, h9, h11, h13]; done)
              have hP : va_P D vwCl (modelW c ad (gyS μ (q + 1)) r) H := by rw [← eg14]; exact hP
              have hD : va_D A (modelW c ad (gyS μ (q + 1)) r) := by rw [← eg14]; exact hD
              have hl : lv_has ls 4 [(0, .ref (ad 0)), (1, .int (gyC μ q)), (2, .int (nI (q + 1)))] := lv_sub hl [2, 3, 0] rfl
              have hl := wk_lset (y := gyC μ (q + 1)) (lv_sub (l' := [(1, .int (gyC μ q)), (0, .ref (ad 0)), (2, .int (nI (q + 1)))]) hl [1, 0, 2] rfl) (by first | rfl | contradiction | (simp [gyS, gyT, gyC, ltM, ← ev, h1, h3, h5, h8, h9, h11, h13]; done))
              have hl : lv_has ls 4 [(0, .ref (ad 0)), (1, .int (gyC μ (q + 1))), (2, .int (nI (q + 1)))] := lv_sub hl [1, 0, 2] rfl
              exact ih68 (q + 1) (by omega) (by omega) H _ hP hD hS ls hl
            refine lv_iload_n hx hb dX8_goesBy_188 rfl (lv_at hl 3 rfl) ?_
            refine lv_goto (tgt := 196) hx hb dX8_goesBy_189 (by decide) ?_
            refine wp_X8_11 hx hb hts iX8 hown hK hP hD hS 0 rfl k3 (Nat.le_of_ble_eq_true rfl) dX8_goesBy_196 (ws' := modelW c ad (va_up (va_up (gyS μ q) 8 (upd (upd ((gyS μ q) 8) ((10 + (6 * q)) + 5) 1) (4 + v.toNatClampNeg) ((gyS μ q 8 (4 + v.toNatClampNeg)) + 1))) 11 (fun _ => nI q)) r) rfl (fun H locs hP hD hS => ?_)
            refine lv_iinc (v := nI (q + 1)) (lv' := [(2, .int (nI (q + 1))), (3, .int v), (0, .ref (ad 0)), (1, .int (gyC μ q))]) hx hb dX8_goesBy_199 hl (k := 3) rfl (nI_inc q 1) (by decide) rfl (fun ls hl => ?_)
            refine lv_goto (tgt := 68) hx hb dX8_goesBy_202 (by decide) ?_
            have eg15 : va_up (va_up (gyS μ q) 8 (upd (upd ((gyS μ q) 8) ((10 + (6 * q)) + 5) 1) (4 + v.toNatClampNeg) ((gyS μ q 8 (4 + v.toNatClampNeg)) + 1))) 11 (fun _ => nI q) = gyS μ (q + 1) := by first | rfl | contradiction | (simp [gyS, gyT, gyC, ltM, ← ev, h1, h3, h5, h8, h9, h11, h13]; done)
            have hP : va_P D vwCl (modelW c ad (gyS μ (q + 1)) r) H := by rw [← eg15]; exact hP
            have hD : va_D A (modelW c ad (gyS μ (q + 1)) r) := by rw [← eg15]; exact hD
            have hl : lv_has ls 4 [(0, .ref (ad 0)), (1, .int (gyC μ q)), (2, .int (nI (q + 1)))] := lv_sub hl [2, 3, 0] rfl
            have hl := wk_lset (y := gyC μ (q + 1)) (lv_sub (l' := [(1, .int (gyC μ q)), (0, .ref (ad 0)), (2, .int (nI (q + 1)))]) hl [1, 0, 2] rfl) (by first | rfl | contradiction | (simp [gyS, gyT, gyC, ltM, ← ev, h1, h3, h5, h8, h9, h11, h13]; done))
            have hl : lv_has ls 4 [(0, .ref (ad 0)), (1, .int (gyC μ (q + 1))), (2, .int (nI (q + 1)))] := lv_sub hl [1, 0, 2] rfl
            exact ih68 (q + 1) (by omega) (by omega) H _ hP hD hS ls hl
        have eg17 : gy0 μ = gyS μ 0 := by first | rfl | contradiction | (simp [gyS, gyT, gyC, ltM, ← ev, h1]; done)
        have hP : va_P D vwCl (modelW c ad (gyS μ 0) r) H := by rw [← eg17]; exact hP
        have hD : va_D A (modelW c ad (gyS μ 0) r) := by rw [← eg17]; exact hD
        have hl : lv_has ls 4 [(0, .ref (ad 0)), (1, .int 0), (2, .int 0)] := lv_sub hl [2, 1, 0] rfl
        have hl := wk_lset (y := gyC μ 0) (lv_sub (l' := [(1, .int 0), (0, .ref (ad 0)), (2, .int 0)]) hl [1, 0, 2] rfl) (by first | rfl | contradiction | (simp [gyS, gyT, gyC, ltM, ← ev, h1]; done))
        have hl : lv_has ls 4 [(0, .ref (ad 0)), (1, .int (gyC μ 0)), (2, .int 0)] := lv_sub hl [1, 0, 2] rfl
        have hl := wk_lset (y := nI 0) (lv_sub (l' := [(2, .int 0), (0, .ref (ad 0)), (1, .int (gyC μ 0))]) hl [2, 0, 1] rfl) (by first | rfl | contradiction | (simp [gyS, gyT, gyC, ltM, ← ev, h1]; done))
        have hl : lv_has ls 4 [(0, .ref (ad 0)), (1, .int (gyC μ 0)), (2, .int (nI 0))] := lv_sub hl [1, 2, 0] rfl
        exact lp68 _ 0 (by omega) (Nat.lt_succ_self _) H locs hP hD hS ls hl
      refine lv_aload_n hx hb dX8_goesBy_12 rfl (lv_at hl 0 rfl) ?_
      refine lv_iload_n hx hb dX8_goesBy_13 rfl (lv_at hl 1 rfl) ?_
      refine wk_callRV (As := [.int (nI i)]) (rest := []) ⟨hx, hb, hml, hown, hts⟩ (c_X8_worksOn l D c ad (gwS μ i) r (nI i) ((gwS_G hG i).2.1)) (cwV 1 hts gX8_goesBy_X8_worksOn rfl rfl rfl hd_X8_worksOn ⟨Nat.le_of_ble_eq_true rfl, Nat.le_of_ble_eq_true rfl⟩) hK hP [0, 1, 2, 3, 4, 5, 6, 7, 8] rfl 0 rfl rfl rfl hl.1 rfl (Nat.le_of_ble_eq_true rfl) dX8_goesBy_14 (Nat.zero_le _) (Nat.zero_le _) ?_
      refine lv_topi (fun v ev => ?_)
      refine lv_istore_n (lv' := [(2, .int v), (0, .ref (ad 0)), (1, .int (nI i))]) hx hb dX8_goesBy_17 rfl hl (by decide) rfl (fun ls hl => ?_)
      refine lv_iload_n hx hb dX8_goesBy_18 rfl (lv_at hl 0 rfl) ?_
      refine lv_bipush (v := -9) hx hb dX8_goesBy_19 (by decide) ?_
      refine lv_icmp_eq (tgt := 42) hx hb dX8_goesBy_21 (by decide) (fun h18 => ?_) (fun h18 => ?_)
      · refine lv_iinc (v := nI (i + 1)) (lv' := [(1, .int (nI (i + 1))), (2, .int v), (0, .ref (ad 0))]) hx hb dX8_goesBy_42 hl (k := 2) rfl (nI_inc i 1) (by decide) rfl (fun ls hl => ?_)
        refine lv_goto (tgt := 2) hx hb dX8_goesBy_45 (by decide) ?_
        have eg19 : gwS μ i = gwS μ (i + 1) := by first | rfl | rw [gwS, ← ev, if_pos h18] | rw [gwS, ← ev, if_neg h18, ev2]
        have hP : va_P D vwCl (modelW c ad (gwS μ (i + 1)) r) H := by rw [← eg19]; exact hP
        have hD : va_D A (modelW c ad (gwS μ (i + 1)) r) := by rw [← eg19]; exact hD
        have hl : lv_has ls 4 [(0, .ref (ad 0)), (1, .int (nI (i + 1)))] := lv_sub hl [2, 0] rfl
        exact ih2 (i + 1) (by omega) (by omega) H _ hP hD hS ls hl
      refine lv_aload_n hx hb dX8_goesBy_24 rfl (lv_at hl 1 rfl) ?_
      refine wg_X8_8 hx hb hts iX8 hown hK hP 0 rfl k2 (v := .ref (ad 8)) rfl dX8_goesBy_25 ?_
      refine lv_bipush (v := 10) hx hb dX8_goesBy_28 (by decide) ?_
      refine lv_bipush (v := 6) hx hb dX8_goesBy_30 (by decide) ?_
      refine lv_iload_n hx hb dX8_goesBy_32 rfl (lv_at hl 0 rfl) ?_
      have hix := (woM_ix (gwS μ i) (nI i) (qM (gwS μ i)) (gwS_G hG i).2.1.2).resolve_left (fun e => h18 (ev.trans e))
      rw [← ev] at hix
      have hi2 := hix.2
      have hi3 := (gwS_G hG i).2.1.2
      refine wk_eqi (y := nI v.toNatClampNeg) (hix.1) ?_
      refine lv_imul hx hb dX8_goesBy_33 ?_
      refine wk_eqi (pk_mul 6 v.toNatClampNeg) ?_
      refine lv_iadd hx hb dX8_goesBy_34 ?_
      refine wk_eqi (nI_add 10 (6 * v.toNatClampNeg)) ?_
      refine lv_iconst (v := 4) hx hb dX8_goesBy_35 (by decide) ?_
      refine lv_iadd hx hb dX8_goesBy_36 ?_
      refine wk_eqi (nI_add (10 + (6 * v.toNatClampNeg)) 4) ?_
      refine lv_dup2_11 hx hb dX8_goesBy_37 rfl rfl ?_
      refine wk_ald (f := (gwS μ i) 8) hx hb hK hP 4 0 rfl rfl ((10 + (6 * v.toNatClampNeg)) + 4) rfl (by omega) (by decide) dX8_goesBy_38 ?_
      refine lv_iconst (v := 1) hx hb dX8_goesBy_39 (by decide) ?_
      refine lv_isub hx hb dX8_goesBy_40 ?_
      refine lv_topi (fun v2 ev2 => ?_)
      refine wk_ast hx hb hK hP hD hS 4 0 rfl rfl ((10 + (6 * v.toNatClampNeg)) + 4) rfl (by omega) (by decide) dX8_goesBy_41 (ws' := modelW c ad (va_up (gwS μ i) 8 (upd ((gwS μ i) 8) ((10 + (6 * v.toNatClampNeg)) + 4) v2)) r) rfl (fun H locs hP hD hS => ?_)
      refine lv_iinc (v := nI (i + 1)) (lv' := [(1, .int (nI (i + 1))), (2, .int v), (0, .ref (ad 0))]) hx hb dX8_goesBy_42 hl (k := 2) rfl (nI_inc i 1) (by decide) rfl (fun ls hl => ?_)
      refine lv_goto (tgt := 2) hx hb dX8_goesBy_45 (by decide) ?_
      have eg20 : va_up (gwS μ i) 8 (upd ((gwS μ i) 8) ((10 + (6 * v.toNatClampNeg)) + 4) v2) = gwS μ (i + 1) := by first | rfl | rw [gwS, ← ev, if_pos h18] | rw [gwS, ← ev, if_neg h18, ev2]
      have hP : va_P D vwCl (modelW c ad (gwS μ (i + 1)) r) H := by rw [← eg20]; exact hP
      have hD : va_D A (modelW c ad (gwS μ (i + 1)) r) := by rw [← eg20]; exact hD
      have hl : lv_has ls 4 [(0, .ref (ad 0)), (1, .int (nI (i + 1)))] := lv_sub hl [2, 0] rfl
      exact ih2 (i + 1) (by omega) (by omega) H _ hP hD hS ls hl
  have eg21 : μ = gwS μ 0 := by first | rfl | rw [gwS, ← ev, if_pos %L] | rw [gwS, ← ev, if_neg %L, ev2]
  have hP : va_P D vwCl (modelW c ad (gwS μ 0) r) H := by rw [← eg21]; exact hP
  have hD : va_D A (modelW c ad (gwS μ 0) r) := by rw [← eg21]; exact hD
  have hl : lv_has ls 4 [(0, .ref (ad 0)), (1, .int 0)] := lv_sub hl [1, 0] rfl
  have hl := wk_lset (y := nI 0) (lv_sub (l' := [(1, .int 0), (0, .ref (ad 0))]) hl [1, 0] rfl) (by first | rfl | rw [gwS, ← ev, if_pos %L] | rw [gwS, ← ev, if_neg %L, ev2])
  have hl : lv_has ls 4 [(0, .ref (ad 0)), (1, .int (nI 0))] := lv_sub hl [1, 0] rfl
  exact lp2 _ 0 (by omega) (Nat.lt_succ_self _) H _ hP hD hS ls hl

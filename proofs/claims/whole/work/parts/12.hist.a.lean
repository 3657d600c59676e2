/-! ===== Album and History ===== -/
def nK (η : wRec) : Nat := (η 1 0).toNatClampNeg
def nX (η : wRec) : Nat := (η 2 0).toNatClampNeg
def wfH (η : wRec) : Prop := (η 1 0 = nI (nK η) ∧ nK η ≤ 10) ∧ η 2 0 = nI (nX η) ∧ nX η < 10
def remF (η : wRec) : wRec := va_up (va_up η 2 (fun _ => nI ((nX η + 1) % 10))) 1 (fun _ => nI (min (nK η + 1) 10))
def recF (η : wRec) : wRec := va_up (va_up η 2 (fun _ => nI ((nX η + 9) % 10))) 1 (fun _ => nI (nK η) - 1)
def hdropF (η : wRec) : wRec := va_up η 1 (fun _ => 0)
def putF (α : wRec) (i : Nat) : wRec := va_up α 1 (fun _ => α 1 0 ||| ((1 : Int32) <<< (nI i &&& 31)))
theorem min10 {n : Nat} (h : n ≤ 11) : (if (10 : Int32) < nI n then (10 : Int32) else nI n) = nI (min n 10) := by
  by_cases e : n ≤ 10
  · rw [Nat.min_eq_left e, if_neg]
    intro q
    exact absurd ((nI_ltI (a := 10) (b := n) (by omega) (by omega)).mp q) (by omega)
  · rw [show n = 11 by omega]
    decide

abbrev rmX1_hasPlace : Room := { frames := 0, cells := 0, slots := 0, locals := 0 }
theorem hd_X1_hasPlace : yX1_hasPlace.cls = RX1 ∧ yX1_hasPlace.cls ≠ "java/lang/invoke/MethodHandle" ∧ yX1_hasPlace.cls ≠ "java/lang/invoke/VarHandle" ∧ (parseMethodDescriptor yX1_hasPlace.desc).map (fun d => d.parameters.length) = some 1 := by decide +kernel
set_option maxHeartbeats 4000000 in
set_option maxRecDepth 100000 in
theorem c_X1_hasPlace (l : Launch) (D : va_G) (c : Nat → ClassId) (g : Nat → Nat) (α : Nat → Nat → Int32) (i : Int32) : wk_RdI l yX1_hasPlace wsX1_hasPlace rmX1_hasPlace D (tysL c) [.ref (g 0), .int i] (albumW c g α) (if 0 ≤ i ∧ i < 2 then 1 else 0) := by
  refine wk_mkR (cc := cX1_hasPlace) (maxL := 2) (rt := .boolean) (by decide) rfl (Nat.le_of_ble_eq_true rfl) wk_narZ ?_
  intro pr ev ss mm args below meth cd ls H Q hst hP hK hl ret
  obtain ⟨hx, hb, hml, hown, hts, -⟩ := hst
  have hown : ss.vm.findClass RX1 = some mm.cls := hown
  have hl : lv_has ls 2 [(0, .ref (g 0)), (1, .int i)] := hl
  refine lv_iload_n hx hb dX1_hasPlace_0 rfl (lv_at hl 1 rfl) ?_
  refine lv_if_lt (tgt := 13) hx hb dX1_hasPlace_1 (by decide) (fun h1 => ?_) (fun h1 => ?_)
  · refine lv_iconst (v := 0) hx hb dX1_hasPlace_13 (by decide) ?_
    exact ret 14 ls 0 ((if_neg (fun q => absurd h1 (Int32.not_lt.mpr q.1))).symm) dX1_hasPlace_14
  refine lv_iload_n hx hb dX1_hasPlace_4 rfl (lv_at hl 1 rfl) ?_
  refine lv_iconst (v := 2) hx hb dX1_hasPlace_5 (by decide) ?_
  refine lv_icmp_ge (tgt := 13) hx hb dX1_hasPlace_6 (by decide) (fun h2 => ?_) (fun h2 => ?_)
  · refine lv_iconst (v := 0) hx hb dX1_hasPlace_13 (by decide) ?_
    exact ret 14 ls 0 ((if_neg (fun q => absurd q.2 (Int32.not_lt.mpr h2))).symm) dX1_hasPlace_14
  refine lv_iconst (v := 1) hx hb dX1_hasPlace_9 (by decide) ?_
  refine lv_goto (tgt := 14) hx hb dX1_hasPlace_10 (by decide) ?_
  exact ret 14 ls 1 ((if_pos ⟨Int32.not_lt.mp h1, Int32.not_le.mp h2⟩).symm) dX1_hasPlace_14

abbrev rmX1_isKept : Room := { frames := 0, cells := 0, slots := 0, locals := 0 }
theorem hd_X1_isKept : yX1_isKept.cls = RX1 ∧ yX1_isKept.cls ≠ "java/lang/invoke/MethodHandle" ∧ yX1_isKept.cls ≠ "java/lang/invoke/VarHandle" ∧ (parseMethodDescriptor yX1_isKept.desc).map (fun d => d.parameters.length) = some 1 := by decide +kernel
set_option maxHeartbeats 4000000 in
set_option maxRecDepth 100000 in
theorem c_X1_isKept (l : Launch) (D : va_G) (c : Nat → ClassId) (g : Nat → Nat) (α : Nat → Nat → Int32) (i : Int32) : wk_RdI l yX1_isKept wsX1_isKept rmX1_isKept D (tysL c) [.ref (g 0), .int i] (albumW c g α) (if (α 1 0 >>> (i &&& 31)) &&& 1 = 1 then 1 else 0) := by
  refine wk_mkR (cc := cX1_isKept) (maxL := 2) (rt := .boolean) (by decide) rfl (Nat.le_of_ble_eq_true rfl) wk_narZ ?_
  intro pr ev ss mm args below meth cd ls H Q hst hP hK hl ret
  obtain ⟨hx, hb, hml, hown, hts, -⟩ := hst
  have hown : ss.vm.findClass RX1 = some mm.cls := hown
  have hl : lv_has ls 2 [(0, .ref (g 0)), (1, .int i)] := hl
  have k1 := hts (.fieldLink RX1 18 "LastWord$Album" "kept" "I") (List.mem_of_getElem? (i := 1) rfl)
  have iX1 : ∀ w ∈ u_ws RX1 TX1 2, w ∈ wsX1_isKept := fun _ h => (List.mem_cons_of_mem _ (List.mem_append_right _ h))
  refine lv_aload_n hx hb dX1_isKept_0 rfl (lv_at hl 0 rfl) ?_
  refine wg_X1_1 hx hb hts iX1 hown hK hP 0 rfl k1 (v := .int (α 1 0)) rfl dX1_isKept_1 ?_
  refine lv_iload_n hx hb dX1_isKept_4 rfl (lv_at hl 1 rfl) ?_
  refine lv_ishr hx hb dX1_isKept_5 ?_
  refine lv_iconst (v := 1) hx hb dX1_isKept_6 (by decide) ?_
  refine lv_iand hx hb dX1_isKept_7 ?_
  refine lv_iconst (v := 1) hx hb dX1_isKept_8 (by decide) ?_
  refine lv_icmp_ne (tgt := 16) hx hb dX1_isKept_9 (by decide) (fun h1 => ?_) (fun h1 => ?_)
  · refine lv_iconst (v := 0) hx hb dX1_isKept_16 (by decide) ?_
    exact ret 17 ls 0 (by simp [h1]) dX1_isKept_17
  refine lv_iconst (v := 1) hx hb dX1_isKept_12 (by decide) ?_
  refine lv_goto (tgt := 17) hx hb dX1_isKept_13 (by decide) ?_
  exact ret 17 ls 1 (by simp [h1]) dX1_isKept_17

abbrev rmX1_drop : Room := { frames := 0, cells := 0, slots := 0, locals := 0 }
theorem hd_X1_drop : yX1_drop.cls = RX1 ∧ yX1_drop.cls ≠ "java/lang/invoke/MethodHandle" ∧ yX1_drop.cls ≠ "java/lang/invoke/VarHandle" ∧ (parseMethodDescriptor yX1_drop.desc).map (fun d => d.parameters.length) = some 0 := by decide +kernel
set_option maxHeartbeats 4000000 in
set_option maxRecDepth 100000 in
theorem c_X1_drop (l : Launch) (D : va_G) (c : Nat → ClassId) (g : Nat → Nat) (α : Nat → Nat → Int32) : wk_UpV l yX1_drop wsX1_drop rmX1_drop D (tysL c) [.ref (g 0)] (albumW c g α) (albumW c g (hdropF α)) := by
  refine wk_mkV (cc := cX1_drop) (maxL := 1) (by decide) rfl (Nat.le_of_ble_eq_true rfl) ?_
  intro A pr ev ss mm args below meth cd ls H H0 locs Q hst hP hK hD hS hA hl ret
  obtain ⟨hx, hb, hml, hown, hts, -⟩ := hst
  have hown : ss.vm.findClass RX1 = some mm.cls := hown
  have hl : lv_has ls 1 [(0, .ref (g 0))] := hl
  have k1 := hts (.fieldLink RX1 18 "LastWord$Album" "kept" "I") (List.mem_of_getElem? (i := 1) rfl)
  have iX1 : ∀ w ∈ u_ws RX1 TX1 2, w ∈ wsX1_drop := fun _ h => (List.mem_cons_of_mem _ (List.mem_append_right _ h))
  refine lv_aload_n hx hb dX1_drop_0 rfl (lv_at hl 0 rfl) ?_
  refine lv_iconst (v := 0) hx hb dX1_drop_1 (by decide) ?_
  refine wp_X1_1 hx hb hts iX1 hown hK hP hD hS 0 rfl k1 (Nat.le_of_ble_eq_true rfl) dX1_drop_2 (ws' := albumW c g (va_up α 1 (fun _ => 0))) rfl (fun H locs hP hD hS => ?_)
  exact ret 5 ls H _ hP hS dX1_drop_5

abbrev rmX1_put : Room := { frames := 2, cells := 0, slots := 0, locals := 85 }
theorem hd_X1_put : yX1_put.cls = RX1 ∧ yX1_put.cls ≠ "java/lang/invoke/MethodHandle" ∧ yX1_put.cls ≠ "java/lang/invoke/VarHandle" ∧ (parseMethodDescriptor yX1_put.desc).map (fun d => d.parameters.length) = some 2 := by decide +kernel
set_option maxHeartbeats 4000000 in
set_option maxRecDepth 100000 in
theorem c_X1_put (l : Launch) (D : va_G) (c : Nat → ClassId) (g : Nat → Nat) (α : Nat → Nat → Int32) (ρ : Nat → Nat → Int32) (a : Nat → Nat) (σ : Nat → Nat → Int32) (i : Nat) (hi : i < 2) : wk_UpV l yX1_put wsX1_put rmX1_put D (tysL c) [.ref (g 0), .int (nI i), .ref (a 0)] (albumW c g α ++ affW c (subA g i) ρ ++ affW c a σ) (albumW c g (putF α i) ++ affW c (subA g i) σ ++ affW c a σ) := by
  refine wk_mkV (cc := cX1_put) (maxL := 3) (by decide) rfl (Nat.le_of_ble_eq_true rfl) ?_
  intro A pr ev ss mm args below meth cd ls H H0 locs Q hst hP hK hD hS hA hl ret
  obtain ⟨hx, hb, hml, hown, hts, -⟩ := hst
  have hown : ss.vm.findClass RX1 = some mm.cls := hown
  have hl : lv_has ls 3 [(0, .ref (g 0)), (1, .int (nI i)), (2, .ref (a 0))] := hl
  have k1 := hts (.fieldLink RX1 11 "LastWord$Album" "images" "[LLastWord$Affairs;") (List.mem_of_getElem? (i := 1) rfl)
  have k2 := hts (.fieldLink RX1 18 "LastWord$Album" "kept" "I") (List.mem_of_getElem? (i := 2) rfl)
  have iX1 : ∀ w ∈ u_ws RX1 TX1 2, w ∈ wsX1_put := fun _ h => (List.mem_cons_of_mem _ (List.mem_append_left _ (List.mem_append_right _ h)))
  refine lv_aload_n hx hb dX1_put_0 rfl (lv_at hl 0 rfl) ?_
  refine wg_X1_0 hx hb hts iX1 hown hK hP 0 rfl k1 (v := .ref (g 3)) rfl dX1_put_1 ?_
  refine lv_iload_n hx hb dX1_put_4 rfl (lv_at hl 1 rfl) ?_
  refine wk_aald (r := subA g i 0) hx hb hK hP 1 1 rfl rfl rfl i rfl (by omega) (by decide) rfl dX1_put_5 ?_
  refine lv_aload_n hx hb dX1_put_6 rfl (lv_at hl 2 rfl) ?_
  refine wk_callVV (As := [.ref (a 0)]) (rest := []) ⟨hx, hb, hml, hown, hts⟩ (c_X0_copy l D c (subA g i) ρ a σ) (cwV 1 hts gX1_put_X0_copy rfl rfl rfl hd_X0_copy ⟨Nat.le_of_ble_eq_true rfl, Nat.le_of_ble_eq_true rfl⟩) hK hP hD hS hA [2, 3, 4, 5, 6, 7, 8, 9, 10, 11, 12, 13, 14, 15, 16, 17] [0, 1] 18 rfl rfl [subA g i 0, subA g i 4, subA g i 5, subA g i 6, subA g i 7, subA g i 8, subA g i 9, subA g i 10, a 0, a 4, a 5, a 6, a 7, a 8, a 9, a 10] rfl rfl (ws' := albumW c g α ++ affW c (subA g i) σ ++ affW c a σ) rfl (wr := albumW c g α) rfl rfl rfl rfl 0 rfl rfl rfl hl.1 rfl (Nat.le_of_ble_eq_true rfl) dX1_put_7 (Nat.zero_le _) (Nat.zero_le _) (fun H locs hP hD hS => ?_)
  refine lv_aload_n hx hb dX1_put_10 rfl (lv_at hl 0 rfl) ?_
  refine lv_dup hx hb dX1_put_11 rfl ?_
  refine wg_X1_1 hx hb hts iX1 hown hK hP 0 rfl k2 (v := .int (α 1 0)) rfl dX1_put_12 ?_
  refine lv_iconst (v := 1) hx hb dX1_put_15 (by decide) ?_
  refine lv_iload_n hx hb dX1_put_16 rfl (lv_at hl 1 rfl) ?_
  refine lv_ishl hx hb dX1_put_17 ?_
  refine lv_ior hx hb dX1_put_18 ?_
  refine wp_X1_1 hx hb hts iX1 hown hK hP hD hS 0 rfl k2 (Nat.le_of_ble_eq_true rfl) dX1_put_19 (ws' := albumW c g (va_up α 1 (fun _ => (α 1 0) ||| (1 <<< ((nI i) &&& 31)))) ++ affW c (subA g i) σ ++ affW c a σ) rfl (fun H locs hP hD hS => ?_)
  exact ret 22 ls H _ hP hS dX1_put_22

abbrev rmX1_take : Room := { frames := 2, cells := 0, slots := 0, locals := 85 }
theorem hd_X1_take : yX1_take.cls = RX1 ∧ yX1_take.cls ≠ "java/lang/invoke/MethodHandle" ∧ yX1_take.cls ≠ "java/lang/invoke/VarHandle" ∧ (parseMethodDescriptor yX1_take.desc).map (fun d => d.parameters.length) = some 2 := by decide +kernel
set_option maxHeartbeats 4000000 in
set_option maxRecDepth 100000 in
theorem c_X1_take (l : Launch) (D : va_G) (c : Nat → ClassId) (g : Nat → Nat) (α : Nat → Nat → Int32) (ρ : Nat → Nat → Int32) (a : Nat → Nat) (σ : Nat → Nat → Int32) (i : Nat) (hi : i < 2) : wk_UpV l yX1_take wsX1_take rmX1_take D (tysL c) [.ref (g 0), .int (nI i), .ref (a 0)] (albumW c g α ++ affW c (subA g i) ρ ++ affW c a σ) (albumW c g α ++ affW c (subA g i) ρ ++ affW c a ρ) := by
  refine wk_mkV (cc := cX1_take) (maxL := 3) (by decide) rfl (Nat.le_of_ble_eq_true rfl) ?_
  intro A pr ev ss mm args below meth cd ls H H0 locs Q hst hP hK hD hS hA hl ret
  obtain ⟨hx, hb, hml, hown, hts, -⟩ := hst
  have hown : ss.vm.findClass RX1 = some mm.cls := hown
  have hl : lv_has ls 3 [(0, .ref (g 0)), (1, .int (nI i)), (2, .ref (a 0))] := hl
  have k1 := hts (.fieldLink RX1 11 "LastWord$Album" "images" "[LLastWord$Affairs;") (List.mem_of_getElem? (i := 1) rfl)
  have iX1 : ∀ w ∈ u_ws RX1 TX1 2, w ∈ wsX1_take := fun _ h => (List.mem_cons_of_mem _ (List.mem_append_left _ (List.mem_append_right _ h)))
  refine lv_aload_n hx hb dX1_take_0 rfl (lv_at hl 2 rfl) ?_
  refine lv_aload_n hx hb dX1_take_1 rfl (lv_at hl 0 rfl) ?_
  refine wg_X1_0 hx hb hts iX1 hown hK hP 0 rfl k1 (v := .ref (g 3)) rfl dX1_take_2 ?_
  refine lv_iload_n hx hb dX1_take_5 rfl (lv_at hl 1 rfl) ?_
  refine wk_aald (r := subA g i 0) hx hb hK hP 1 1 rfl rfl rfl i rfl (by omega) (by decide) rfl dX1_take_6 ?_
  refine wk_callVV (As := [.ref (subA g i 0)]) (rest := []) ⟨hx, hb, hml, hown, hts⟩ (c_X0_copy l D c a σ (subA g i) ρ) (cwV 1 hts gX1_take_X0_copy rfl rfl rfl hd_X0_copy ⟨Nat.le_of_ble_eq_true rfl, Nat.le_of_ble_eq_true rfl⟩) hK hP hD hS hA [10, 11, 12, 13, 14, 15, 16, 17, 2, 3, 4, 5, 6, 7, 8, 9] [0, 1] 18 rfl rfl [a 0, a 4, a 5, a 6, a 7, a 8, a 9, a 10, subA g i 0, subA g i 4, subA g i 5, subA g i 6, subA g i 7, subA g i 8, subA g i 9, subA g i 10] rfl rfl (ws' := albumW c g α ++ affW c (subA g i) ρ ++ affW c a ρ) rfl (wr := albumW c g α) rfl rfl rfl rfl 0 rfl rfl rfl hl.1 rfl (Nat.le_of_ble_eq_true rfl) dX1_take_7 (Nat.zero_le _) (Nat.zero_le _) (fun H locs hP hD hS => ?_)
  exact ret 10 ls H _ hP hS dX1_take_10

abbrev rmX4_drop : Room := { frames := 0, cells := 0, slots := 0, locals := 0 }
theorem hd_X4_drop : yX4_drop.cls = RX4 ∧ yX4_drop.cls ≠ "java/lang/invoke/MethodHandle" ∧ yX4_drop.cls ≠ "java/lang/invoke/VarHandle" ∧ (parseMethodDescriptor yX4_drop.desc).map (fun d => d.parameters.length) = some 0 := by decide +kernel
set_option maxHeartbeats 4000000 in
set_option maxRecDepth 100000 in
theorem c_X4_drop (l : Launch) (D : va_G) (c : Nat → ClassId) (h : Nat → Nat) (η : Nat → Nat → Int32) : wk_UpV l yX4_drop wsX4_drop rmX4_drop D (tysL c) [.ref (h 0)] (histW c h η) (histW c h (hdropF η)) := by
  refine wk_mkV (cc := cX4_drop) (maxL := 1) (by decide) rfl (Nat.le_of_ble_eq_true rfl) ?_
  intro A pr ev ss mm args below meth cd ls H H0 locs Q hst hP hK hD hS hA hl ret
  obtain ⟨hx, hb, hml, hown, hts, -⟩ := hst
  have hown : ss.vm.findClass RX4 = some mm.cls := hown
  have hl : lv_has ls 1 [(0, .ref (h 0))] := hl
  have k1 := hts (.fieldLink RX4 26 "LastWord$History" "known" "I") (List.mem_of_getElem? (i := 1) rfl)
  have iX4 : ∀ w ∈ u_ws RX4 TX4 3, w ∈ wsX4_drop := fun _ h => (List.mem_cons_of_mem _ (List.mem_append_right _ h))
  refine lv_aload_n hx hb dX4_drop_0 rfl (lv_at hl 0 rfl) ?_
  refine lv_iconst (v := 0) hx hb dX4_drop_1 (by decide) ?_
  refine wp_X4_1 hx hb hts iX4 hown hK hP hD hS 0 rfl k1 (Nat.le_of_ble_eq_true rfl) dX4_drop_2 (ws' := histW c h (va_up η 1 (fun _ => 0))) rfl (fun H locs hP hD hS => ?_)
  exact ret 5 ls H _ hP hS dX4_drop_5

abbrev rmX4_remember : Room := { frames := 2, cells := 0, slots := 0, locals := 85 }
theorem hd_X4_remember : yX4_remember.cls = RX4 ∧ yX4_remember.cls ≠ "java/lang/invoke/MethodHandle" ∧ yX4_remember.cls ≠ "java/lang/invoke/VarHandle" ∧ (parseMethodDescriptor yX4_remember.desc).map (fun d => d.parameters.length) = some 1 := by decide +kernel
set_option maxHeartbeats 4000000 in
set_option maxRecDepth 100000 in
theorem c_X4_remember (l : Launch) (D : va_G) (c : Nat → ClassId) (h : Nat → Nat) (η : Nat → Nat → Int32) (ρ : Nat → Nat → Int32) (a : Nat → Nat) (σ : Nat → Nat → Int32) (hh : wfH η) : wk_UpV l yX4_remember wsX4_remember rmX4_remember D (tysL c) [.ref (h 0), .ref (a 0)] (histW c h η ++ affW c (subA h (nX η)) ρ ++ affW c a σ) (histW c h (remF η) ++ affW c (subA h (nX η)) σ ++ affW c a σ) := by
  refine wk_mkV (cc := cX4_remember) (maxL := 2) (by decide) rfl (Nat.le_of_ble_eq_true rfl) ?_
  intro A pr ev ss mm args below meth cd ls H H0 locs Q hst hP hK hD hS hA hl ret
  obtain ⟨hx, hb, hml, hown, hts, -⟩ := hst
  have hown : ss.vm.findClass RX4 = some mm.cls := hown
  have hl : lv_has ls 2 [(0, .ref (h 0)), (1, .ref (a 0))] := hl
  have k1 := hts (.fieldLink RX4 11 "LastWord$History" "ring" "[LLastWord$Affairs;") (List.mem_of_getElem? (i := 1) rfl)
  have k2 := hts (.fieldLink RX4 18 "LastWord$History" "next" "I") (List.mem_of_getElem? (i := 2) rfl)
  have k3 := hts (.fieldLink RX4 26 "LastWord$History" "known" "I") (List.mem_of_getElem? (i := 3) rfl)
  have k4 := hts (.methodLink RX4 29 Lib.Math.min.name) (List.mem_of_getElem? (i := 4) rfl)
  have k5 := hts (.static Lib.Math.min.name) (List.mem_of_getElem? (i := 5) rfl)
  have k6 := hts (.initialized "java/lang/Math") (List.mem_of_getElem? (i := 6) rfl)
  have k7 := hts (.code Lib.Math.min.name Lib.Math.min.code 2 (some .int)) (List.mem_of_getElem? (i := 7) rfl)
  have iX4 : ∀ w ∈ u_ws RX4 TX4 3, w ∈ wsX4_remember := fun _ h => (List.mem_cons_of_mem _ (List.mem_append_left _ (List.mem_append_right _ h)))
  have hx10 := hh.2.2
  have hk10 := hh.1.2
  refine lv_aload_n hx hb dX4_remember_0 rfl (lv_at hl 0 rfl) ?_
  refine wg_X4_0 hx hb hts iX4 hown hK hP 0 rfl k1 (v := .ref (h 3)) rfl dX4_remember_1 ?_
  refine lv_aload_n hx hb dX4_remember_4 rfl (lv_at hl 0 rfl) ?_
  refine wg_X4_2 hx hb hts iX4 hown hK hP 0 rfl k2 (v := .int (η 2 0)) rfl dX4_remember_5 ?_
  refine wk_eqi (hh.2.1) ?_
  refine wk_aald (r := subA h (nX η) 0) hx hb hK hP 1 1 rfl rfl rfl (nX η) rfl (by omega) (by decide) rfl dX4_remember_8 ?_
  refine lv_aload_n hx hb dX4_remember_9 rfl (lv_at hl 1 rfl) ?_
  refine wk_callVV (As := [.ref (a 0)]) (rest := []) ⟨hx, hb, hml, hown, hts⟩ (c_X0_copy l D c (subA h (nX η)) ρ a σ) (cwV 1 hts gX4_remember_X0_copy rfl rfl rfl hd_X0_copy ⟨Nat.le_of_ble_eq_true rfl, Nat.le_of_ble_eq_true rfl⟩) hK hP hD hS hA [2, 3, 4, 5, 6, 7, 8, 9, 10, 11, 12, 13, 14, 15, 16, 17] [0, 1] 18 rfl rfl [subA h (nX η) 0, subA h (nX η) 4, subA h (nX η) 5, subA h (nX η) 6, subA h (nX η) 7, subA h (nX η) 8, subA h (nX η) 9, subA h (nX η) 10, a 0, a 4, a 5, a 6, a 7, a 8, a 9, a 10] rfl rfl (ws' := histW c h η ++ affW c (subA h (nX η)) σ ++ affW c a σ) rfl (wr := histW c h η) rfl rfl rfl rfl 0 rfl rfl rfl hl.1 rfl (Nat.le_of_ble_eq_true rfl) dX4_remember_10 (Nat.zero_le _) (Nat.zero_le _) (fun H locs hP hD hS => ?_)
  refine lv_aload_n hx hb dX4_remember_13 rfl (lv_at hl 0 rfl) ?_
  refine lv_aload_n hx hb dX4_remember_14 rfl (lv_at hl 0 rfl) ?_
  refine wg_X4_2 hx hb hts iX4 hown hK hP 0 rfl k2 (v := .int (η 2 0)) rfl dX4_remember_15 ?_
  refine wk_eqi (hh.2.1) ?_
  refine lv_iconst (v := 1) hx hb dX4_remember_18 (by decide) ?_
  refine lv_iadd hx hb dX4_remember_19 ?_
  refine wk_eqi (nI_add (nX η) 1) ?_
  refine lv_bipush (v := 10) hx hb dX4_remember_20 (by decide) ?_
  refine lv_irem hx hb dX4_remember_22 (by decide) ?_
  refine wk_eqi (y := nI ((nX η + 1) % 10)) (pk_rem (a := nX η + 1) (d := 10) (by omega) (by omega) (by omega)) ?_
  refine wp_X4_2 hx hb hts iX4 hown hK hP hD hS 0 rfl k2 (Nat.le_of_ble_eq_true rfl) dX4_remember_23 (ws' := histW c h (va_up η 2 (fun _ => nI ((nX η + 1) % 10))) ++ affW c (subA h (nX η)) σ ++ affW c a σ) rfl (fun H locs hP hD hS => ?_)
  refine lv_aload_n hx hb dX4_remember_26 rfl (lv_at hl 0 rfl) ?_
  refine lv_aload_n hx hb dX4_remember_27 rfl (lv_at hl 0 rfl) ?_
  refine wg_X4_1 hx hb hts iX4 hown hK hP 0 rfl k3 (v := .int (η 1 0)) rfl dX4_remember_28 ?_
  refine wk_eqi (hh.1.1) ?_
  refine lv_iconst (v := 1) hx hb dX4_remember_31 (by decide) ?_
  refine lv_iadd hx hb dX4_remember_32 ?_
  refine wk_eqi (nI_add (nK η) 1) ?_
  refine lv_bipush (v := 10) hx hb dX4_remember_33 (by decide) ?_
  refine va_mmin hx hb (by rw [hml]; exact hl.1.symm) hown k4 k5 k6 k7 (Nat.le_of_ble_eq_true rfl) (Nat.le_of_ble_eq_true rfl) (Nat.zero_le _) (Nat.zero_le _) dX4_remember_35 ?_
  refine wk_eqi (y := nI (min (nK η + 1) 10)) (min10 (n := nK η + 1) (by omega)) ?_
  refine wp_X4_1 hx hb hts iX4 hown hK hP hD hS 0 rfl k3 (Nat.le_of_ble_eq_true rfl) dX4_remember_38 (ws' := histW c h (va_up (va_up η 2 (fun _ => nI ((nX η + 1) % 10))) 1 (fun _ => nI (min (nK η + 1) 10))) ++ affW c (subA h (nX η)) σ ++ affW c a σ) rfl (fun H locs hP hD hS => ?_)
  exact ret 41 ls H _ hP hS dX4_remember_41

abbrev rmX4_recall : Room := { frames := 2, cells := 0, slots := 0, locals := 85 }
theorem hd_X4_recall : yX4_recall.cls = RX4 ∧ yX4_recall.cls ≠ "java/lang/invoke/MethodHandle" ∧ yX4_recall.cls ≠ "java/lang/invoke/VarHandle" ∧ (parseMethodDescriptor yX4_recall.desc).map (fun d => d.parameters.length) = some 1 := by decide +kernel
set_option maxHeartbeats 4000000 in
set_option maxRecDepth 100000 in
theorem c_X4_recall (l : Launch) (D : va_G) (c : Nat → ClassId) (h : Nat → Nat) (η : Nat → Nat → Int32) (ρ : Nat → Nat → Int32) (a : Nat → Nat) (σ : Nat → Nat → Int32) (hh : wfH η) : wk_UpV l yX4_recall wsX4_recall rmX4_recall D (tysL c) [.ref (h 0), .ref (a 0)] (histW c h η ++ affW c (subA h ((nX η + 9) % 10)) ρ ++ affW c a σ) (histW c h (recF η) ++ affW c (subA h ((nX η + 9) % 10)) ρ ++ affW c a ρ) := by
  refine wk_mkV (cc := cX4_recall) (maxL := 2) (by decide) rfl (Nat.le_of_ble_eq_true rfl) ?_
  intro A pr ev ss mm args below meth cd ls H H0 locs Q hst hP hK hD hS hA hl ret
  obtain ⟨hx, hb, hml, hown, hts, -⟩ := hst
  have hown : ss.vm.findClass RX4 = some mm.cls := hown
  have hl : lv_has ls 2 [(0, .ref (h 0)), (1, .ref (a 0))] := hl
  have k1 := hts (.fieldLink RX4 18 "LastWord$History" "next" "I") (List.mem_of_getElem? (i := 1) rfl)
  have k2 := hts (.fieldLink RX4 26 "LastWord$History" "known" "I") (List.mem_of_getElem? (i := 2) rfl)
  have k3 := hts (.fieldLink RX4 11 "LastWord$History" "ring" "[LLastWord$Affairs;") (List.mem_of_getElem? (i := 3) rfl)
  have iX4 : ∀ w ∈ u_ws RX4 TX4 3, w ∈ wsX4_recall := fun _ h => (List.mem_cons_of_mem _ (List.mem_append_left _ (List.mem_append_right _ h)))
  have hx10 := hh.2.2
  have hk10 := hh.1.2
  refine lv_aload_n hx hb dX4_recall_0 rfl (lv_at hl 0 rfl) ?_
  refine lv_aload_n hx hb dX4_recall_1 rfl (lv_at hl 0 rfl) ?_
  refine wg_X4_2 hx hb hts iX4 hown hK hP 0 rfl k1 (v := .int (η 2 0)) rfl dX4_recall_2 ?_
  refine wk_eqi (hh.2.1) ?_
  refine lv_bipush (v := 10) hx hb dX4_recall_5 (by decide) ?_
  refine lv_iadd hx hb dX4_recall_7 ?_
  refine wk_eqi (nI_add (nX η) 10) ?_
  refine lv_iconst (v := 1) hx hb dX4_recall_8 (by decide) ?_
  refine lv_isub hx hb dX4_recall_9 ?_
  refine wk_eqi (pk_sub (a := (nX η) + 10) (b := 1) (by omega)) ?_
  refine lv_bipush (v := 10) hx hb dX4_recall_10 (by decide) ?_
  refine lv_irem hx hb dX4_recall_12 (by decide) ?_
  refine wk_eqi (y := nI ((nX η + 10 - 1) % 10)) (pk_rem (a := nX η + 10 - 1) (d := 10) (by omega) (by omega) (by omega)) ?_
  refine wp_X4_2 hx hb hts iX4 hown hK hP hD hS 0 rfl k1 (Nat.le_of_ble_eq_true rfl) dX4_recall_13 (ws' := histW c h (va_up η 2 (fun _ => nI ((nX η + 10 - 1) % 10))) ++ affW c (subA h ((nX η + 9) % 10)) ρ ++ affW c a σ) rfl (fun H locs hP hD hS => ?_)
  refine lv_aload_n hx hb dX4_recall_16 rfl (lv_at hl 0 rfl) ?_
  refine lv_dup hx hb dX4_recall_17 rfl ?_
  refine wg_X4_1 hx hb hts iX4 hown hK hP 0 rfl k2 (v := .int (η 1 0)) rfl dX4_recall_18 ?_
  refine wk_eqi (hh.1.1) ?_
  refine lv_iconst (v := 1) hx hb dX4_recall_21 (by decide) ?_
  refine lv_isub hx hb dX4_recall_22 ?_
  refine wp_X4_1 hx hb hts iX4 hown hK hP hD hS 0 rfl k2 (Nat.le_of_ble_eq_true rfl) dX4_recall_23 (ws' := histW c h (va_up (va_up η 2 (fun _ => nI ((nX η + 10 - 1) % 10))) 1 (fun _ => (nI (nK η)) - 1)) ++ affW c (subA h ((nX η + 9) % 10)) ρ ++ affW c a σ) rfl (fun H locs hP hD hS => ?_)
  refine lv_aload_n hx hb dX4_recall_26 rfl (lv_at hl 1 rfl) ?_
  refine lv_aload_n hx hb dX4_recall_27 rfl (lv_at hl 0 rfl) ?_
  refine wg_X4_0 hx hb hts iX4 hown hK hP 0 rfl k3 (v := .ref (h 3)) rfl dX4_recall_28 ?_
  refine lv_aload_n hx hb dX4_recall_31 rfl (lv_at hl 0 rfl) ?_
  refine wg_X4_2 hx hb hts iX4 hown hK hP 0 rfl k1 (v := .int (nI ((nX η + 10 - 1) % 10))) rfl dX4_recall_32 ?_
  refine wk_eqi (show nI ((nX η + 10 - 1) % 10) = nI ((nX η + 9) % 10) from rfl) ?_
  refine wk_aald (r := subA h ((nX η + 9) % 10) 0) hx hb hK hP 1 1 rfl rfl rfl ((nX η + 9) % 10) rfl (by omega) (by decide) rfl dX4_recall_35 ?_
  refine wk_callVV (As := [.ref (subA h ((nX η + 9) % 10) 0)]) (rest := []) ⟨hx, hb, hml, hown, hts⟩ (c_X0_copy l D c a σ (subA h ((nX η + 9) % 10)) ρ) (cwV 1 hts gX4_recall_X0_copy rfl rfl rfl hd_X0_copy ⟨Nat.le_of_ble_eq_true rfl, Nat.le_of_ble_eq_true rfl⟩) hK hP hD hS hA [10, 11, 12, 13, 14, 15, 16, 17, 2, 3, 4, 5, 6, 7, 8, 9] [0, 1] 18 rfl rfl [a 0, a 4, a 5, a 6, a 7, a 8, a 9, a 10, subA h ((nX η + 9) % 10) 0, subA h ((nX η + 9) % 10) 4, subA h ((nX η + 9) % 10) 5, subA h ((nX η + 9) % 10) 6, subA h ((nX η + 9) % 10) 7, subA h ((nX η + 9) % 10) 8, subA h ((nX η + 9) % 10) 9, subA h ((nX η + 9) % 10) 10] rfl rfl (ws' := histW c h (va_up (va_up η 2 (fun _ => nI ((nX η + 10 - 1) % 10))) 1 (fun _ => (nI (nK η)) - 1)) ++ affW c (subA h ((nX η + 9) % 10)) ρ ++ affW c a ρ) rfl (wr := histW c h (va_up (va_up η 2 (fun _ => nI ((nX η + 10 - 1) % 10))) 1 (fun _ => (nI (nK η)) - 1))) rfl rfl rfl rfl 0 rfl rfl rfl hl.1 rfl (Nat.le_of_ble_eq_true rfl) dX4_recall_36 (Nat.zero_le _) (Nat.zero_le _) (fun H locs hP hD hS => ?_)
  exact ret 39 ls H _ hP hS dX4_recall_39

/-! ===== LastWord, walked: what was found, odds, kinds, images ===== -/
abbrev rmX7_found : Room := { frames := 2, cells := 0, slots := 0, locals := 43 }
theorem hd_X7_found : yX7_found.cls = RX7 ∧ yX7_found.cls ≠ "java/lang/invoke/MethodHandle" ∧ yX7_found.cls ≠ "java/lang/invoke/VarHandle" ∧ (parseMethodDescriptor yX7_found.desc).map (fun d => d.parameters.length) = some 3 := by decide +kernel
set_option maxHeartbeats 4000000 in
set_option maxRecDepth 100000 in
theorem c_X7_found (l : Launch) (D : va_G) (c : Nat → ClassId) (x : Nat) (t : Nat → Nat) (p : Nat → Nat) (sp : Nat → Nat) (a : Nat → Nat) (b : Nat → Nat) (h : Nat → Nat) (g : Nat → Nat) (f : Nat → Nat) (o : Nat → Nat) (k : Int64) (π : Nat → Nat → Int32) (φ : Nat → Nat → Int32) (w : Int32) (s : Int32) (x2 : Int32) (hf : wfF φ) : wk_UpI l yX7_found wsX7_found rmX7_found D (tysL c) [.ref x, .int w, .int s, .int x2] (lwW x t p sp a b h g f o k ++ pageW c p π ++ findW c f φ) (lwW x t p sp a b h g f o k ++ pageW c p π ++ findW c f (foundF π φ w s x2)) (foundV π φ w s x2) := by
  refine wk_mkU (cc := cX7_found) (maxL := 4) (rt := .int) (by decide) rfl (Nat.le_of_ble_eq_true rfl) rfl ?_
  intro A pr ev ss mm args below meth cd ls H H0 locs Q hst hP hK hD hS hA hl ret
  obtain ⟨hx, hb, hml, hown, hts, -⟩ := hst
  have hown : ss.vm.findClass RX7 = some mm.cls := hown
  have hl : lv_has ls 4 [(0, .ref x), (1, .int w), (2, .int s), (3, .int x2)] := hl
  have k2 := hts (.fieldLink RX7 53 "LastWord" "findings" "LLastWord$Findings;") (List.mem_of_getElem? (i := 2) rfl)
  have k1 := hts (.fieldLink RX7 19 "LastWord" "page" "LLastWord$Page;") (List.mem_of_getElem? (i := 1) rfl)
  have iX7 : ∀ w ∈ u_ws RX7 TX7 10, w ∈ wsX7_found := fun _ h => (List.mem_cons_of_mem _ (List.mem_append_left _ (List.mem_append_left _ (List.mem_append_right _ h))))
  refine lv_aload_n hx hb dX7_found_0 rfl (lv_at hl 0 rfl) ?_
  refine lv_iload_n hx hb dX7_found_1 rfl (lv_at hl 1 rfl) ?_
  refine lv_iload_n hx hb dX7_found_2 rfl (lv_at hl 2 rfl) ?_
  refine wk_callRV (As := [.int w, .int s]) (rest := []) ⟨hx, hb, hml, hown, hts⟩ (c_X7_mayStand l D c x t p sp a b h g f o k π w s) (cwV 2 hts gX7_found_X7_mayStand rfl rfl rfl hd_X7_mayStand ⟨Nat.le_of_ble_eq_true rfl, Nat.le_of_ble_eq_true rfl⟩) hK hP [0, 1, 2, 3, 4, 5, 6, 7, 8, 9, 10] rfl 0 rfl rfl rfl hl.1 rfl (Nat.le_of_ble_eq_true rfl) dX7_found_3 (Nat.zero_le _) (Nat.zero_le _) ?_
  refine wk_bz (tgt := 25) hx hb dX7_found_6 (by decide) (fun h1 => ?_) (fun h1 => ?_)
  · refine lv_iconst (v := -1) hx hb dX7_found_25 (by decide) ?_
    have eg2 : φ = foundF π φ w s x2 := by rw [foundF, if_neg (fun q => absurd q.1 h1)]
    have hP : va_P D vwCl (lwW x t p sp a b h g f o k ++ pageW c p π ++ findW c f (foundF π φ w s x2)) H := by rw [← eg2]; exact hP
    have hD : va_D A (lwW x t p sp a b h g f o k ++ pageW c p π ++ findW c f (foundF π φ w s x2)) := by rw [← eg2]; exact hD
    exact ret 26 ls H _ ((-1)) (by rw [foundV, if_neg (fun q => absurd q.1 h1)]) hP hS dX7_found_26
  refine lv_iload_n hx hb dX7_found_9 rfl (lv_at hl 3 rfl) ?_
  refine lv_iconst (v := -1) hx hb dX7_found_10 (by decide) ?_
  refine lv_icmp_eq (tgt := 27) hx hb dX7_found_11 (by decide) (fun h3 => ?_) (fun h3 => ?_)
  · refine lv_aload_n hx hb dX7_found_27 rfl (lv_at hl 0 rfl) ?_
    refine wg_X7_7 hx hb hts iX7 hown hK hP 0 rfl k2 (v := .ref (f 0)) rfl dX7_found_28 ?_
    refine lv_iload_n hx hb dX7_found_31 rfl (lv_at hl 1 rfl) ?_
    refine lv_iload_n hx hb dX7_found_32 rfl (lv_at hl 2 rfl) ?_
    refine wk_eqi (y := nI s.toNatClampNeg) ((sb_ix h1.2).1) ?_
    refine lv_iload_n hx hb dX7_found_33 rfl (lv_at hl 3 rfl) ?_
    refine wk_callUV (As := [.int w, .int (nI s.toNatClampNeg), .int x2]) (rest := []) ⟨hx, hb, hml, hown, hts⟩ (c_X3_add l D c f φ w s.toNatClampNeg x2 (hf)) (cwV 3 hts gX7_found_X3_add rfl rfl rfl hd_X3_add ⟨Nat.le_of_ble_eq_true rfl, Nat.le_of_ble_eq_true rfl⟩) hK hP hD hS hA [11, 12, 13, 14] [0, 1, 2, 3, 4, 5, 6, 7, 8, 9, 10] 15 rfl rfl [f 0, f 1, f 2, f 3] rfl rfl (ws' := lwW x t p sp a b h g f o k ++ pageW c p π ++ findW c f (addF φ w s.toNatClampNeg x2)) rfl (wr := lwW x t p sp a b h g f o k ++ pageW c p π) rfl rfl rfl rfl 0 rfl rfl rfl hl.1 rfl (Nat.le_of_ble_eq_true rfl) dX7_found_34 (Nat.zero_le _) (Nat.zero_le _) (fun H locs hP hD hS => ?_)
    have eg4 : addF φ w s.toNatClampNeg x2 = foundF π φ w s x2 := by rw [foundF, if_pos ⟨h1, Or.inl h3⟩]
    have hP : va_P D vwCl (lwW x t p sp a b h g f o k ++ pageW c p π ++ findW c f (foundF π φ w s x2)) H := by rw [← eg4]; exact hP
    have hD : va_D A (lwW x t p sp a b h g f o k ++ pageW c p π ++ findW c f (foundF π φ w s x2)) := by rw [← eg4]; exact hD
    exact ret 37 ls H _ (if nF φ < 5 then nI (nF φ + 1) else -3) (by rw [foundV]; exact (if_pos ⟨h1, Or.inl h3⟩).symm) hP hS dX7_found_37
  refine lv_aload_n hx hb dX7_found_14 rfl (lv_at hl 0 rfl) ?_
  refine wg_X7_1 hx hb hts iX7 hown hK hP 0 rfl k1 (v := .ref (p 0)) rfl dX7_found_15 ?_
  refine lv_iload_n hx hb dX7_found_18 rfl (lv_at hl 3 rfl) ?_
  refine wk_callRV (As := [.int x2]) (rest := []) ⟨hx, hb, hml, hown, hts⟩ (c_X5_hasWriter l D c p π x2) (cwV 1 hts gX7_found_X5_hasWriter rfl rfl rfl hd_X5_hasWriter ⟨Nat.le_of_ble_eq_true rfl, Nat.le_of_ble_eq_true rfl⟩) hK hP [1, 2, 3, 4, 5, 6, 7, 8, 9, 10] rfl 0 rfl rfl rfl hl.1 rfl (Nat.le_of_ble_eq_true rfl) dX7_found_19 (Nat.zero_le _) (Nat.zero_le _) ?_
  refine wk_bnz (tgt := 27) hx hb dX7_found_22 (by decide) (fun h9 => ?_) (fun h9 => ?_)
  rotate_left
  · refine lv_iconst (v := -1) hx hb dX7_found_25 (by decide) ?_
    have eg7 : φ = foundF π φ w s x2 := by rw [foundF, if_neg (fun q => q.2.elim (fun e => absurd e h3) (fun e => absurd e h9))]
    have hP : va_P D vwCl (lwW x t p sp a b h g f o k ++ pageW c p π ++ findW c f (foundF π φ w s x2)) H := by rw [← eg7]; exact hP
    have hD : va_D A (lwW x t p sp a b h g f o k ++ pageW c p π ++ findW c f (foundF π φ w s x2)) := by rw [← eg7]; exact hD
    exact ret 26 ls H _ ((-1)) (by rw [foundV, if_neg (fun q => q.2.elim (fun e => absurd e h3) (fun e => absurd e h9))]) hP hS dX7_found_26
  refine lv_aload_n hx hb dX7_found_27 rfl (lv_at hl 0 rfl) ?_
  refine wg_X7_7 hx hb hts iX7 hown hK hP 0 rfl k2 (v := .ref (f 0)) rfl dX7_found_28 ?_
  refine lv_iload_n hx hb dX7_found_31 rfl (lv_at hl 1 rfl) ?_
  refine lv_iload_n hx hb dX7_found_32 rfl (lv_at hl 2 rfl) ?_
  refine wk_eqi (y := nI s.toNatClampNeg) ((sb_ix h1.2).1) ?_
  refine lv_iload_n hx hb dX7_found_33 rfl (lv_at hl 3 rfl) ?_
  refine wk_callUV (As := [.int w, .int (nI s.toNatClampNeg), .int x2]) (rest := []) ⟨hx, hb, hml, hown, hts⟩ (c_X3_add l D c f φ w s.toNatClampNeg x2 (hf)) (cwV 3 hts gX7_found_X3_add rfl rfl rfl hd_X3_add ⟨Nat.le_of_ble_eq_true rfl, Nat.le_of_ble_eq_true rfl⟩) hK hP hD hS hA [11, 12, 13, 14] [0, 1, 2, 3, 4, 5, 6, 7, 8, 9, 10] 15 rfl rfl [f 0, f 1, f 2, f 3] rfl rfl (ws' := lwW x t p sp a b h g f o k ++ pageW c p π ++ findW c f (addF φ w s.toNatClampNeg x2)) rfl (wr := lwW x t p sp a b h g f o k ++ pageW c p π) rfl rfl rfl rfl 0 rfl rfl rfl hl.1 rfl (Nat.le_of_ble_eq_true rfl) dX7_found_34 (Nat.zero_le _) (Nat.zero_le _) (fun H locs hP hD hS => ?_)
  have eg6 : addF φ w s.toNatClampNeg x2 = foundF π φ w s x2 := by rw [foundF, if_pos ⟨h1, Or.inr h9⟩]
  have hP : va_P D vwCl (lwW x t p sp a b h g f o k ++ pageW c p π ++ findW c f (foundF π φ w s x2)) H := by rw [← eg6]; exact hP
  have hD : va_D A (lwW x t p sp a b h g f o k ++ pageW c p π ++ findW c f (foundF π φ w s x2)) := by rw [← eg6]; exact hD
  exact ret 37 ls H _ (if nF φ < 5 then nI (nF φ + 1) else -3) (by rw [foundV]; exact (if_pos ⟨h1, Or.inr h9⟩).symm) hP hS dX7_found_37

abbrev rmX7_forget : Room := { frames := 1, cells := 0, slots := 0, locals := 21 }
theorem hd_X7_forget : yX7_forget.cls = RX7 ∧ yX7_forget.cls ≠ "java/lang/invoke/MethodHandle" ∧ yX7_forget.cls ≠ "java/lang/invoke/VarHandle" ∧ (parseMethodDescriptor yX7_forget.desc).map (fun d => d.parameters.length) = some 0 := by decide +kernel
set_option maxHeartbeats 4000000 in
set_option maxRecDepth 100000 in
theorem c_X7_forget (l : Launch) (D : va_G) (c : Nat → ClassId) (x : Nat) (t : Nat → Nat) (p : Nat → Nat) (sp : Nat → Nat) (a : Nat → Nat) (b : Nat → Nat) (h : Nat → Nat) (g : Nat → Nat) (f : Nat → Nat) (o : Nat → Nat) (k : Int64) (φ : Nat → Nat → Int32) : wk_UpI l yX7_forget wsX7_forget rmX7_forget D (tysL c) [.ref x] (lwW x t p sp a b h g f o k ++ findW c f φ) (lwW x t p sp a b h g f o k ++ findW c f (dropF φ)) (φ 0 0) := by
  refine wk_mkU (cc := cX7_forget) (maxL := 1) (rt := .int) (by decide) rfl (Nat.le_of_ble_eq_true rfl) rfl ?_
  intro A pr ev ss mm args below meth cd ls H H0 locs Q hst hP hK hD hS hA hl ret
  obtain ⟨hx, hb, hml, hown, hts, -⟩ := hst
  have hown : ss.vm.findClass RX7 = some mm.cls := hown
  have hl : lv_has ls 1 [(0, .ref x)] := hl
  have k1 := hts (.fieldLink RX7 53 "LastWord" "findings" "LLastWord$Findings;") (List.mem_of_getElem? (i := 1) rfl)
  have iX7 : ∀ w ∈ u_ws RX7 TX7 10, w ∈ wsX7_forget := fun _ h => (List.mem_cons_of_mem _ (List.mem_append_left _ (List.mem_append_right _ h)))
  refine lv_aload_n hx hb dX7_forget_0 rfl (lv_at hl 0 rfl) ?_
  refine wg_X7_7 hx hb hts iX7 hown hK hP 0 rfl k1 (v := .ref (f 0)) rfl dX7_forget_1 ?_
  refine wk_callUV (As := []) (rest := []) ⟨hx, hb, hml, hown, hts⟩ (c_X3_drop l D c f φ) (cwV 0 hts gX7_forget_X3_drop rfl rfl rfl hd_X3_drop ⟨Nat.le_of_ble_eq_true rfl, Nat.le_of_ble_eq_true rfl⟩) hK hP hD hS hA [1, 2, 3, 4] [0] 5 rfl rfl [f 0, f 1, f 2, f 3] rfl rfl (ws' := lwW x t p sp a b h g f o k ++ findW c f (dropF φ)) rfl (wr := lwW x t p sp a b h g f o k) rfl rfl rfl rfl 0 rfl rfl rfl hl.1 rfl (Nat.le_of_ble_eq_true rfl) dX7_forget_4 (Nat.zero_le _) (Nat.zero_le _) (fun H locs hP hD hS => ?_)
  exact ret 7 ls H _ (φ 0 0) (by rfl) hP hS dX7_forget_7

abbrev rmX7_mayBe : Room := { frames := 2, cells := 0, slots := 0, locals := 49 }
theorem hd_X7_mayBe : yX7_mayBe.cls = RX7 ∧ yX7_mayBe.cls ≠ "java/lang/invoke/MethodHandle" ∧ yX7_mayBe.cls ≠ "java/lang/invoke/VarHandle" ∧ (parseMethodDescriptor yX7_mayBe.desc).map (fun d => d.parameters.length) = some 2 := by decide +kernel
set_option maxHeartbeats 4000000 in
set_option maxRecDepth 100000 in
theorem c_X7_mayBe (l : Launch) (D : va_G) (c : Nat → ClassId) (x : Nat) (t : Nat → Nat) (p : Nat → Nat) (sp : Nat → Nat) (a : Nat → Nat) (b : Nat → Nat) (h : Nat → Nat) (g : Nat → Nat) (f : Nat → Nat) (o : Nat → Nat) (k : Int64) (π : Nat → Nat → Int32) (φ : Nat → Nat → Int32) (w : Int32) (s : Int32) (hp : wfP π) (hf : wfF φ) : wk_UpI l yX7_mayBe wsX7_mayBe rmX7_mayBe D (tysL c) [.ref x, .int w, .int s] (lwW x t p sp a b h g f o k ++ pageW c p π ++ findW c f φ) (lwW x t p sp a b h g f o k ++ pageW c p π ++ findW c f φ) (mayBeV π φ w s) := by
  refine wk_mkU (cc := cX7_mayBe) (maxL := 6) (rt := .int) (by decide) rfl (Nat.le_of_ble_eq_true rfl) rfl ?_
  intro A pr ev ss mm args below meth cd ls H H0 locs Q hst hP hK hD hS hA hl ret
  obtain ⟨hx, hb, hml, hown, hts, -⟩ := hst
  have hown : ss.vm.findClass RX7 = some mm.cls := hown
  have hl : lv_has ls 6 [(0, .ref x), (1, .int w), (2, .int s)] := hl
  have k1 := hts (.fieldLink RX7 19 "LastWord" "page" "LLastWord$Page;") (List.mem_of_getElem? (i := 1) rfl)
  have k2 := hts (.fieldLink RX7 105 "LastWord$Page" "near" "[[I") (List.mem_of_getElem? (i := 2) rfl)
  have k3 := hts (.fieldLink RX7 53 "LastWord" "findings" "LLastWord$Findings;") (List.mem_of_getElem? (i := 3) rfl)
  have iX5 : ∀ w ∈ u_ws RX5 TX5 5, w ∈ wsX7_mayBe := fun _ h => (List.mem_cons_of_mem _ (List.mem_append_left _ (List.mem_append_right _ h)))
  have iX7 : ∀ w ∈ u_ws RX7 TX7 10, w ∈ wsX7_mayBe := fun _ h => (List.mem_cons_of_mem _ (List.mem_append_left _ (List.mem_append_left _ (List.mem_append_right _ h))))
  refine lv_aload_n hx hb dX7_mayBe_0 rfl (lv_at hl 0 rfl) ?_
  refine lv_iload_n hx hb dX7_mayBe_1 rfl (lv_at hl 1 rfl) ?_
  refine lv_iload_n hx hb dX7_mayBe_2 rfl (lv_at hl 2 rfl) ?_
  refine wk_callRV (As := [.int w, .int s]) (rest := []) ⟨hx, hb, hml, hown, hts⟩ (c_X7_mayStand l D c x t p sp a b h g f o k π w s) (cwV 2 hts gX7_mayBe_X7_mayStand rfl rfl rfl hd_X7_mayStand ⟨Nat.le_of_ble_eq_true rfl, Nat.le_of_ble_eq_true rfl⟩) hK hP [0, 1, 2, 3, 4, 5, 6, 7, 8, 9, 10] rfl 0 rfl rfl rfl hl.1 rfl (Nat.le_of_ble_eq_true rfl) dX7_mayBe_3 (Nat.zero_le _) (Nat.zero_le _) ?_
  refine wk_bnz (tgt := 11) hx hb dX7_mayBe_6 (by decide) (fun h1 => ?_) (fun h1 => ?_)
  rotate_left
  · refine lv_iconst (v := -1) hx hb dX7_mayBe_9 (by decide) ?_
    exact ret 10 ls H _ ((-1)) (by rw [mayBeV, if_neg h1]) hP hS dX7_mayBe_10
  obtain ⟨hw0, hw1⟩ := wr_ix hp.n h1.1
  obtain ⟨hs0, hs1⟩ := sb_ix h1.2
  have hn6 := hp.2.1
  refine lv_aload_n hx hb dX7_mayBe_11 rfl (lv_at hl 0 rfl) ?_
  refine wg_X7_1 hx hb hts iX7 hown hK hP 0 rfl k1 (v := .ref (p 0)) rfl dX7_mayBe_12 ?_
  refine wg_X5_4 hx hb hts iX5 hown hK hP 1 rfl k2 (v := .ref (p 4)) rfl dX7_mayBe_15 ?_
  refine lv_iload_n hx hb dX7_mayBe_18 rfl (lv_at hl 1 rfl) ?_
  refine wk_eqi (y := nI w.toNatClampNeg) (hw0) ?_
  refine wk_aald hx hb hK hP 4 2 rfl rfl rfl w.toNatClampNeg rfl (by omega) (by decide) rfl dX7_mayBe_19 ?_
  refine lv_iload_n hx hb dX7_mayBe_20 rfl (lv_at hl 2 rfl) ?_
  refine wk_eqi (y := nI s.toNatClampNeg) (hs0) ?_
  refine wk_ald hx hb hK hP (5 + w.toNatClampNeg) 0 (pageW_row (by omega) (a := (lwW x t p sp a b h g f o k : va_W)) (b := (findW c f φ : va_W)) rfl rfl) rfl s.toNatClampNeg rfl (by omega) (by decide) dX7_mayBe_21 ?_
  refine lv_istore_n (lv' := [(3, .int (π (5 + w.toNatClampNeg) s.toNatClampNeg)), (0, .ref x), (1, .int w), (2, .int s)]) hx hb dX7_mayBe_22 rfl hl (by decide) rfl (fun ls hl => ?_)
  refine lv_iconst (v := 0) hx hb dX7_mayBe_23 (by decide) ?_
  refine lv_istore (lv' := [(4, .int 0), (3, .int (π (5 + w.toNatClampNeg) s.toNatClampNeg)), (0, .ref x), (1, .int w), (2, .int s)]) hx hb dX7_mayBe_24 hl (by decide) rfl (fun ls hl => ?_)
  refine lv_iconst (v := 0) hx hb dX7_mayBe_26 (by decide) ?_
  refine lv_istore (lv' := [(5, .int 0), (4, .int 0), (3, .int (π (5 + w.toNatClampNeg) s.toNatClampNeg)), (0, .ref x), (1, .int w), (2, .int s)]) hx hb dX7_mayBe_27 hl (by decide) rfl (fun ls hl => ?_)
  have lp29 : ∀ (n : Nat) (i : Nat) (π2 : wRec), (i ≤ 10) → (∀ v, setN π2 (w.toNatClampNeg) (s.toNatClampNeg) v = setN π (w.toNatClampNeg) (s.toNatClampNeg) v) → 10 - i < n → ∀ (H : Heap) (locs : List Loc), va_P D vwCl (lwW x t p sp a b h g f o k ++ pageW c p π2 ++ findW c f φ) H → va_D A (lwW x t p sp a b h g f o k ++ pageW c p π2 ++ findW c f φ) → va_S A H0 H locs → ∀ ls : Array Slot, lv_has ls 6 [(0, .ref x), (1, .int (nI w.toNatClampNeg)), (2, .int (nI s.toNatClampNeg)), (3, .int (π (5 + w.toNatClampNeg) (s.toNatClampNeg))), (4, .int (mbL π φ (w.toNatClampNeg) (s.toNatClampNeg) i)), (5, .int (nI i))] → W pr l ev rmX7_mayBe ss mm args below meth cd H locs 0 0 Q (F0 mm 29 ls []) := by
    intro n
    induction n with
    | zero => intro i π2 hi hπ hn; exact absurd hn (Nat.not_lt_zero _)
    | succ n ih29 =>
      intro i π2 hi hπ hn H locs hP hD hS ls hl
      refine lv_iload hx hb dX7_mayBe_29 (lv_at hl 5 rfl) ?_
      refine lv_bipush (v := 9) hx hb dX7_mayBe_31 (by decide) ?_
      refine wk_gt (tgt := 78) hx hb i 9 rfl rfl (by omega) (by omega) dX7_mayBe_33 (by decide) (fun h2 => ?_) (fun h2 => ?_)
      · refine lv_aload_n hx hb dX7_mayBe_78 rfl (lv_at hl 0 rfl) ?_
        refine wg_X7_1 hx hb hts iX7 hown hK hP 0 rfl k1 (v := .ref (p 0)) rfl dX7_mayBe_79 ?_
        refine wg_X5_4 hx hb hts iX5 hown hK hP 1 rfl k2 (v := .ref (p 4)) rfl dX7_mayBe_82 ?_
        refine lv_iload_n hx hb dX7_mayBe_85 rfl (lv_at hl 1 rfl) ?_
        refine wk_aald hx hb hK hP 4 2 rfl rfl rfl w.toNatClampNeg rfl (by omega) (by decide) rfl dX7_mayBe_86 ?_
        refine lv_iload_n hx hb dX7_mayBe_87 rfl (lv_at hl 2 rfl) ?_
        refine lv_iload_n hx hb dX7_mayBe_88 rfl (lv_at hl 3 rfl) ?_
        refine wk_ast hx hb hK hP hD hS (5 + w.toNatClampNeg) 0 (pageW_row (by omega) (a := (lwW x t p sp a b h g f o k : va_W)) (b := (findW c f φ : va_W)) rfl rfl) rfl s.toNatClampNeg rfl (by omega) (by decide) dX7_mayBe_89 (ws' := lwW x t p sp a b h g f o k ++ pageW c p (setN π2 w.toNatClampNeg s.toNatClampNeg (π (5 + w.toNatClampNeg) (s.toNatClampNeg))) ++ findW c f φ) (pageW_set (by omega) (a := (lwW x t p sp a b h g f o k : va_W)) (b := (findW c f φ : va_W)) rfl rfl rfl) (fun H locs hP hD hS => ?_)
        have eg3 : setN π2 w.toNatClampNeg s.toNatClampNeg (π (5 + w.toNatClampNeg) (s.toNatClampNeg)) = π := by rw [hπ, setN_self]
        have hP : va_P D vwCl (lwW x t p sp a b h g f o k ++ pageW c p π ++ findW c f φ) H := by rw [← eg3]; exact hP
        have hD : va_D A (lwW x t p sp a b h g f o k ++ pageW c p π ++ findW c f φ) := by rw [← eg3]; exact hD
        refine lv_iload hx hb dX7_mayBe_90 (lv_at hl 4 rfl) ?_
        exact ret 92 ls H _ (mbL π φ (w.toNatClampNeg) (s.toNatClampNeg) i) (by rw [mayBeV, if_pos h1, show i = 10 by omega]) hP hS dX7_mayBe_92
      refine lv_aload_n hx hb dX7_mayBe_36 rfl (lv_at hl 0 rfl) ?_
      refine wg_X7_1 hx hb hts iX7 hown hK hP 0 rfl k1 (v := .ref (p 0)) rfl dX7_mayBe_37 ?_
      refine wg_X5_4 hx hb hts iX5 hown hK hP 1 rfl k2 (v := .ref (p 4)) rfl dX7_mayBe_40 ?_
      refine lv_iload_n hx hb dX7_mayBe_43 rfl (lv_at hl 1 rfl) ?_
      refine wk_aald hx hb hK hP 4 2 rfl rfl rfl w.toNatClampNeg rfl (by omega) (by decide) rfl dX7_mayBe_44 ?_
      refine lv_iload_n hx hb dX7_mayBe_45 rfl (lv_at hl 2 rfl) ?_
      refine lv_iload hx hb dX7_mayBe_46 (lv_at hl 5 rfl) ?_
      refine wk_ast hx hb hK hP hD hS (5 + w.toNatClampNeg) 0 (pageW_row (by omega) (a := (lwW x t p sp a b h g f o k : va_W)) (b := (findW c f φ : va_W)) rfl rfl) rfl s.toNatClampNeg rfl (by omega) (by decide) dX7_mayBe_48 (ws' := lwW x t p sp a b h g f o k ++ pageW c p (setN π2 w.toNatClampNeg s.toNatClampNeg (nI i)) ++ findW c f φ) (pageW_set (by omega) (a := (lwW x t p sp a b h g f o k : va_W)) (b := (findW c f φ : va_W)) rfl rfl rfl) (fun H locs hP hD hS => ?_)
      have eg4 : setN π2 w.toNatClampNeg s.toNatClampNeg (nI i) = setN π (w.toNatClampNeg) (s.toNatClampNeg) (nI i) := by exact hπ _
      have hP : va_P D vwCl (lwW x t p sp a b h g f o k ++ pageW c p (setN π (w.toNatClampNeg) (s.toNatClampNeg) (nI i)) ++ findW c f φ) H := by rw [← eg4]; exact hP
      have hD : va_D A (lwW x t p sp a b h g f o k ++ pageW c p (setN π (w.toNatClampNeg) (s.toNatClampNeg) (nI i)) ++ findW c f φ) := by rw [← eg4]; exact hD
      refine lv_aload_n hx hb dX7_mayBe_49 rfl (lv_at hl 0 rfl) ?_
      refine wg_X7_7 hx hb hts iX7 hown hK hP 0 rfl k3 (v := .ref (f 0)) rfl dX7_mayBe_50 ?_
      refine lv_aload_n hx hb dX7_mayBe_53 rfl (lv_at hl 0 rfl) ?_
      refine wg_X7_1 hx hb hts iX7 hown hK hP 0 rfl k1 (v := .ref (p 0)) rfl dX7_mayBe_54 ?_
      refine wk_callRV (As := [.ref (p 0)]) (rest := []) ⟨hx, hb, hml, hown, hts⟩ (c_X3_areSo l D c f φ p (setN π (w.toNatClampNeg) (s.toNatClampNeg) (nI i)) (setN_wf hp _ _ _) (hf)) (cwV 1 hts gX7_mayBe_X3_areSo rfl rfl rfl hd_X3_areSo ⟨Nat.le_of_ble_eq_true rfl, Nat.le_of_ble_eq_true rfl⟩) hK hP [11, 12, 13, 14, 1, 2, 3, 4, 5, 6, 7, 8, 9, 10] rfl 0 rfl rfl rfl hl.1 rfl (Nat.le_of_ble_eq_true rfl) dX7_mayBe_57 (Nat.zero_le _) (Nat.zero_le _) ?_
      refine wk_bz (tgt := 72) hx hb dX7_mayBe_60 (by decide) (fun h5 => ?_) (fun h5 => ?_)
      · refine lv_iinc (v := nI (i + 1)) (lv' := [(5, .int (nI (i + 1))), (0, .ref x), (1, .int (nI w.toNatClampNeg)), (2, .int (nI s.toNatClampNeg)), (3, .int (π (5 + w.toNatClampNeg) (s.toNatClampNeg))), (4, .int (mbL π φ (w.toNatClampNeg) (s.toNatClampNeg) i))]) hx hb dX7_mayBe_72 hl (k := 5) rfl (nI_inc i 1) (by decide) rfl (fun ls hl => ?_)
        refine lv_goto (tgt := 29) hx hb dX7_mayBe_75 (by decide) ?_
        have eg6 : setN π (w.toNatClampNeg) (s.toNatClampNeg) (nI i) = (setN π (w.toNatClampNeg) (s.toNatClampNeg) (nI i)) := by first | exact hw0 | exact hs0 | rfl | rw [mbL, if_pos h5] | rw [mbL, if_neg h5]
        have hP : va_P D vwCl (lwW x t p sp a b h g f o k ++ pageW c p ((setN π (w.toNatClampNeg) (s.toNatClampNeg) (nI i))) ++ findW c f φ) H := by rw [← eg6]; exact hP
        have hD : va_D A (lwW x t p sp a b h g f o k ++ pageW c p ((setN π (w.toNatClampNeg) (s.toNatClampNeg) (nI i))) ++ findW c f φ) := by rw [← eg6]; exact hD
        have hl : lv_has ls 6 [(0, .ref x), (1, .int (nI w.toNatClampNeg)), (2, .int (nI s.toNatClampNeg)), (3, .int (π (5 + w.toNatClampNeg) (s.toNatClampNeg))), (4, .int (mbL π φ (w.toNatClampNeg) (s.toNatClampNeg) i)), (5, .int (nI (i + 1)))] := lv_sub hl [1, 2, 3, 4, 5, 0] rfl
        have hl := wk_lset (y := mbL π φ (w.toNatClampNeg) (s.toNatClampNeg) (i + 1)) (lv_sub (l' := [(4, .int (mbL π φ (w.toNatClampNeg) (s.toNatClampNeg) i)), (0, .ref x), (1, .int (nI w.toNatClampNeg)), (2, .int (nI s.toNatClampNeg)), (3, .int (π (5 + w.toNatClampNeg) (s.toNatClampNeg))), (5, .int (nI (i + 1)))]) hl [4, 0, 1, 2, 3, 5] rfl) (by first | exact hw0 | exact hs0 | rfl | rw [mbL, if_pos h5] | rw [mbL, if_neg h5])
        have hl : lv_has ls 6 [(0, .ref x), (1, .int (nI w.toNatClampNeg)), (2, .int (nI s.toNatClampNeg)), (3, .int (π (5 + w.toNatClampNeg) (s.toNatClampNeg))), (4, .int (mbL π φ (w.toNatClampNeg) (s.toNatClampNeg) (i + 1))), (5, .int (nI (i + 1)))] := lv_sub hl [1, 2, 3, 4, 0, 5] rfl
        exact ih29 (i + 1) (setN π (w.toNatClampNeg) (s.toNatClampNeg) (nI i)) (by omega) (fun v => setN_set π _ _ _ v) (by omega) H _ hP hD hS ls hl
      refine lv_iload hx hb dX7_mayBe_63 (lv_at hl 4 rfl) ?_
      refine lv_iconst (v := 1) hx hb dX7_mayBe_65 (by decide) ?_
      refine lv_iload hx hb dX7_mayBe_66 (lv_at hl 5 rfl) ?_
      refine lv_ishl hx hb dX7_mayBe_68 ?_
      refine lv_ior hx hb dX7_mayBe_69 ?_
      refine lv_istore (lv' := [(4, .int ((mbL π φ (w.toNatClampNeg) (s.toNatClampNeg) i) ||| (1 <<< ((nI i) &&& 31)))), (0, .ref x), (1, .int (nI w.toNatClampNeg)), (2, .int (nI s.toNatClampNeg)), (3, .int (π (5 + w.toNatClampNeg) (s.toNatClampNeg))), (5, .int (nI i))]) hx hb dX7_mayBe_70 hl (by decide) rfl (fun ls hl => ?_)
      refine lv_iinc (v := nI (i + 1)) (lv' := [(5, .int (nI (i + 1))), (4, .int ((mbL π φ (w.toNatClampNeg) (s.toNatClampNeg) i) ||| (1 <<< ((nI i) &&& 31)))), (0, .ref x), (1, .int (nI w.toNatClampNeg)), (2, .int (nI s.toNatClampNeg)), (3, .int (π (5 + w.toNatClampNeg) (s.toNatClampNeg)))]) hx hb dX7_mayBe_72 hl (k := 5) rfl (nI_inc i 1) (by decide) rfl (fun ls hl => ?_)
      refine lv_goto (tgt := 29) hx hb dX7_mayBe_75 (by decide) ?_
      have eg7 : setN π (w.toNatClampNeg) (s.toNatClampNeg) (nI i) = (setN π (w.toNatClampNeg) (s.toNatClampNeg) (nI i)) := by first | exact hw0 | exact hs0 | rfl | rw [mbL, if_pos h5] | rw [mbL, if_neg h5]
      have hP : va_P D vwCl (lwW x t p sp a b h g f o k ++ pageW c p ((setN π (w.toNatClampNeg) (s.toNatClampNeg) (nI i))) ++ findW c f φ) H := by rw [← eg7]; exact hP
      have hD : va_D A (lwW x t p sp a b h g f o k ++ pageW c p ((setN π (w.toNatClampNeg) (s.toNatClampNeg) (nI i))) ++ findW c f φ) := by rw [← eg7]; exact hD
      have hl : lv_has ls 6 [(0, .ref x), (1, .int (nI w.toNatClampNeg)), (2, .int (nI s.toNatClampNeg)), (3, .int (π (5 + w.toNatClampNeg) (s.toNatClampNeg))), (4, .int ((mbL π φ (w.toNatClampNeg) (s.toNatClampNeg) i) ||| (1 <<< ((nI i) &&& 31)))), (5, .int (nI (i + 1)))] := lv_sub hl [2, 3, 4, 5, 1, 0] rfl
      have hl := wk_lset (y := mbL π φ (w.toNatClampNeg) (s.toNatClampNeg) (i + 1)) (lv_sub (l' := [(4, .int ((mbL π φ (w.toNatClampNeg) (s.toNatClampNeg) i) ||| (1 <<< ((nI i) &&& 31)))), (0, .ref x), (1, .int (nI w.toNatClampNeg)), (2, .int (nI s.toNatClampNeg)), (3, .int (π (5 + w.toNatClampNeg) (s.toNatClampNeg))), (5, .int (nI (i + 1)))]) hl [4, 0, 1, 2, 3, 5] rfl) (by first | exact hw0 | exact hs0 | rfl | rw [mbL, if_pos h5] | rw [mbL, if_neg h5])
      have hl : lv_has ls 6 [(0, .ref x), (1, .int (nI w.toNatClampNeg)), (2, .int (nI s.toNatClampNeg)), (3, .int (π (5 + w.toNatClampNeg) (s.toNatClampNeg))), (4, .int (mbL π φ (w.toNatClampNeg) (s.toNatClampNeg) (i + 1))), (5, .int (nI (i + 1)))] := lv_sub hl [1, 2, 3, 4, 0, 5] rfl
      exact ih29 (i + 1) (setN π (w.toNatClampNeg) (s.toNatClampNeg) (nI i)) (by omega) (fun v => setN_set π _ _ _ v) (by omega) H _ hP hD hS ls hl
  have hl : lv_has ls 6 [(0, .ref x), (1, .int w), (2, .int s), (3, .int (π (5 + w.toNatClampNeg) s.toNatClampNeg)), (4, .int 0), (5, .int 0)] := lv_sub hl [3, 4, 5, 2, 1, 0] rfl
  have hl := wk_lset (y := nI w.toNatClampNeg) (lv_sub (l' := [(1, .int w), (0, .ref x), (2, .int s), (3, .int (π (5 + w.toNatClampNeg) s.toNatClampNeg)), (4, .int 0), (5, .int 0)]) hl [1, 0, 2, 3, 4, 5] rfl) (by first | exact hw0 | exact hs0 | rfl | rw [mbL, if_pos h1] | rw [mbL, if_neg h1])
  have hl : lv_has ls 6 [(0, .ref x), (1, .int (nI w.toNatClampNeg)), (2, .int s), (3, .int (π (5 + w.toNatClampNeg) s.toNatClampNeg)), (4, .int 0), (5, .int 0)] := lv_sub hl [1, 0, 2, 3, 4, 5] rfl
  have hl := wk_lset (y := nI s.toNatClampNeg) (lv_sub (l' := [(2, .int s), (0, .ref x), (1, .int (nI w.toNatClampNeg)), (3, .int (π (5 + w.toNatClampNeg) s.toNatClampNeg)), (4, .int 0), (5, .int 0)]) hl [2, 0, 1, 3, 4, 5] rfl) (by first | exact hw0 | exact hs0 | rfl | rw [mbL, if_pos h1] | rw [mbL, if_neg h1])
  have hl : lv_has ls 6 [(0, .ref x), (1, .int (nI w.toNatClampNeg)), (2, .int (nI s.toNatClampNeg)), (3, .int (π (5 + w.toNatClampNeg) s.toNatClampNeg)), (4, .int 0), (5, .int 0)] := lv_sub hl [1, 2, 0, 3, 4, 5] rfl
  have hl := wk_lset (y := π (5 + w.toNatClampNeg) (s.toNatClampNeg)) (lv_sub (l' := [(3, .int (π (5 + w.toNatClampNeg) s.toNatClampNeg)), (0, .ref x), (1, .int (nI w.toNatClampNeg)), (2, .int (nI s.toNatClampNeg)), (4, .int 0), (5, .int 0)]) hl [3, 0, 1, 2, 4, 5] rfl) (by first | exact hw0 | exact hs0 | rfl | rw [mbL, if_pos h1] | rw [mbL, if_neg h1])
  have hl : lv_has ls 6 [(0, .ref x), (1, .int (nI w.toNatClampNeg)), (2, .int (nI s.toNatClampNeg)), (3, .int (π (5 + w.toNatClampNeg) (s.toNatClampNeg))), (4, .int 0), (5, .int 0)] := lv_sub hl [1, 2, 3, 0, 4, 5] rfl
  have hl := wk_lset (y := mbL π φ (w.toNatClampNeg) (s.toNatClampNeg) 0) (lv_sub (l' := [(4, .int 0), (0, .ref x), (1, .int (nI w.toNatClampNeg)), (2, .int (nI s.toNatClampNeg)), (3, .int (π (5 + w.toNatClampNeg) (s.toNatClampNeg))), (5, .int 0)]) hl [4, 0, 1, 2, 3, 5] rfl) (by first | exact hw0 | exact hs0 | rfl | rw [mbL, if_pos h1] | rw [mbL, if_neg h1])
  have hl : lv_has ls 6 [(0, .ref x), (1, .int (nI w.toNatClampNeg)), (2, .int (nI s.toNatClampNeg)), (3, .int (π (5 + w.toNatClampNeg) (s.toNatClampNeg))), (4, .int (mbL π φ (w.toNatClampNeg) (s.toNatClampNeg) 0)), (5, .int 0)] := lv_sub hl [1, 2, 3, 4, 0, 5] rfl
  have hl := wk_lset (y := nI 0) (lv_sub (l' := [(5, .int 0), (0, .ref x), (1, .int (nI w.toNatClampNeg)), (2, .int (nI s.toNatClampNeg)), (3, .int (π (5 + w.toNatClampNeg) (s.toNatClampNeg))), (4, .int (mbL π φ (w.toNatClampNeg) (s.toNatClampNeg) 0))]) hl [5, 0, 1, 2, 3, 4] rfl) (by first | exact hw0 | exact hs0 | rfl | rw [mbL, if_pos h1] | rw [mbL, if_neg h1])
  have hl : lv_has ls 6 [(0, .ref x), (1, .int (nI w.toNatClampNeg)), (2, .int (nI s.toNatClampNeg)), (3, .int (π (5 + w.toNatClampNeg) (s.toNatClampNeg))), (4, .int (mbL π φ (w.toNatClampNeg) (s.toNatClampNeg) 0)), (5, .int (nI 0))] := lv_sub hl [1, 2, 3, 4, 5, 0] rfl
  exact lp29 _ 0 π (by omega) (fun _ => rfl) (Nat.lt_succ_self _) H _ hP hD hS ls hl

theorem clamp_lt (x : Int32) : x.toNatClampNeg < 2147483648 := by
  by_cases h : x < 0
  · have h1 := Int32.lt_iff_toInt_lt.mp h
    rw [show (0 : Int32).toInt = 0 from by decide] at h1
    show x.toInt.toNat < _
    omega
  · obtain ⟨j, hj, e⟩ := nI_of h
    rw [e, nI_clamp hj]
    exact hj
theorem lt_of_nI {i : Nat} {x : Int32} (hi : i < 2147483648) (h : ¬ x ≤ nI i) : i < x.toNatClampNeg := by
  have h1 := Int32.not_le.mp h
  have h2 := Int32.lt_iff_toInt_lt.mp h1
  rw [nI_toInt (by omega)] at h2
  show i < x.toInt.toNat
  omega
theorem ge_of_nI {i : Nat} {x : Int32} (hi : i < 2147483648) (h : x ≤ nI i) : x.toNatClampNeg ≤ i := by
  have h2 := Int32.le_iff_toInt_le.mp h
  rw [nI_toInt (by omega)] at h2
  show x.toInt.toNat ≤ i
  omega

abbrev rmX7_power : Room := { frames := 0, cells := 0, slots := 0, locals := 0 }
theorem hd_X7_power : yX7_power.cls ≠ "java/lang/invoke/MethodHandle" ∧ yX7_power.cls ≠ "java/lang/invoke/VarHandle" ∧ (parseMethodDescriptor yX7_power.desc).map (fun d => d.parameters.length) = some 2 := by decide +kernel
set_option maxHeartbeats 4000000 in
set_option maxRecDepth 100000 in
theorem c_X7_power (l : Launch) (D : va_G) (c : Nat → ClassId) (b : Int32) (e2 : Int32) : wk_RdI l yX7_power wsX7_power rmX7_power D (tysL c) [.int b, .int e2] ([]) (powF b (tn e2)) := by
  refine wk_mkR (cc := cX7_power) (maxL := 4) (rt := .int) (by decide) rfl (Nat.le_of_ble_eq_true rfl) rfl ?_
  intro pr ev ss mm args below meth cd ls H Q hst hP hK hl ret
  obtain ⟨hx, hb, hml, hown, hts, -⟩ := hst
  have hown : ss.vm.findClass RX7 = some mm.cls := hown
  have hl : lv_has ls 4 [(0, .int b), (1, .int e2)] := hl
  have he32 : e2.toNatClampNeg < 2147483648 := clamp_lt e2
  refine lv_iconst (v := 1) hx hb dX7_power_0 (by decide) ?_
  refine lv_istore_n (lv' := [(2, .int 1), (0, .int b), (1, .int e2)]) hx hb dX7_power_1 rfl hl (by decide) rfl (fun ls hl => ?_)
  refine lv_iconst (v := 0) hx hb dX7_power_2 (by decide) ?_
  refine lv_istore_n (lv' := [(3, .int 0), (2, .int 1), (0, .int b), (1, .int e2)]) hx hb dX7_power_3 rfl hl (by decide) rfl (fun ls hl => ?_)
  have lp4 : ∀ (n : Nat) (i : Nat), (i ≤ e2.toNatClampNeg) → e2.toNatClampNeg - i < n → ∀ ls : Array Slot, lv_has ls 4 [(0, .int b), (1, .int e2), (2, .int (powF b i)), (3, .int (nI i))] → W pr l ev rmX7_power ss mm args below meth cd H [] 0 0 Q (F0 mm 4 ls []) := by
    intro n
    induction n with
    | zero => intro i hi hn; exact absurd hn (Nat.not_lt_zero _)
    | succ n ih4 =>
      intro i hi hn ls hl
      refine lv_iload_n hx hb dX7_power_4 rfl (lv_at hl 3 rfl) ?_
      refine lv_iload_n hx hb dX7_power_5 rfl (lv_at hl 1 rfl) ?_
      refine lv_icmp_ge (tgt := 19) hx hb dX7_power_6 (by decide) (fun h1 => ?_) (fun h1 => ?_)
      · have hge : e2.toNatClampNeg ≤ i := ge_of_nI (by omega) h1
        refine lv_iload_n hx hb dX7_power_19 rfl (lv_at hl 2 rfl) ?_
        exact ret 20 ls (powF b i) (by rw [show i = e2.toNatClampNeg by omega]) dX7_power_20
      have hlt : i < e2.toNatClampNeg := lt_of_nI (by omega) h1
      refine lv_iload_n hx hb dX7_power_9 rfl (lv_at hl 2 rfl) ?_
      refine lv_iload_n hx hb dX7_power_10 rfl (lv_at hl 0 rfl) ?_
      refine lv_imul hx hb dX7_power_11 ?_
      refine lv_istore_n (lv' := [(2, .int ((powF b i) * b)), (0, .int b), (1, .int e2), (3, .int (nI i))]) hx hb dX7_power_12 rfl hl (by decide) rfl (fun ls hl => ?_)
      refine lv_iinc (v := nI (i + 1)) (lv' := [(3, .int (nI (i + 1))), (2, .int ((powF b i) * b)), (0, .int b), (1, .int e2)]) hx hb dX7_power_13 hl (k := 3) rfl (nI_inc i 1) (by decide) rfl (fun ls hl => ?_)
      refine lv_goto (tgt := 4) hx hb dX7_power_16 (by decide) ?_
      have hl : lv_has ls 4 [(0, .int b), (1, .int e2), (2, .int ((powF b i) * b)), (3, .int (nI (i + 1)))] := lv_sub hl [2, 3, 1, 0] rfl
      have hl := wk_lset (y := powF b (i + 1)) (lv_sub (l' := [(2, .int ((powF b i) * b)), (0, .int b), (1, .int e2), (3, .int (nI (i + 1)))]) hl [2, 0, 1, 3] rfl) (by rfl)
      have hl : lv_has ls 4 [(0, .int b), (1, .int e2), (2, .int (powF b (i + 1))), (3, .int (nI (i + 1)))] := lv_sub hl [1, 2, 0, 3] rfl
      exact ih4 (i + 1) (by omega) (by omega) ls hl
  have hl : lv_has ls 4 [(0, .int b), (1, .int e2), (2, .int 1), (3, .int 0)] := lv_sub hl [2, 3, 1, 0] rfl
  have hl := wk_lset (y := powF b 0) (lv_sub (l' := [(2, .int 1), (0, .int b), (1, .int e2), (3, .int 0)]) hl [2, 0, 1, 3] rfl) (by rfl)
  have hl : lv_has ls 4 [(0, .int b), (1, .int e2), (2, .int (powF b 0)), (3, .int 0)] := lv_sub hl [1, 2, 0, 3] rfl
  have hl := wk_lset (y := nI 0) (lv_sub (l' := [(3, .int 0), (0, .int b), (1, .int e2), (2, .int (powF b 0))]) hl [3, 0, 1, 2] rfl) (by rfl)
  have hl : lv_has ls 4 [(0, .int b), (1, .int e2), (2, .int (powF b 0)), (3, .int (nI 0))] := lv_sub hl [1, 2, 3, 0] rfl
  exact lp4 _ 0 (by omega) (Nat.lt_succ_self _) ls hl

abbrev rmX7_commonDivisor : Room := { frames := 0, cells := 0, slots := 0, locals := 0 }
theorem hd_X7_commonDivisor : yX7_commonDivisor.cls ≠ "java/lang/invoke/MethodHandle" ∧ yX7_commonDivisor.cls ≠ "java/lang/invoke/VarHandle" ∧ (parseMethodDescriptor yX7_commonDivisor.desc).map (fun d => d.parameters.length) = some 2 := by decide +kernel
set_option maxHeartbeats 4000000 in
set_option maxRecDepth 100000 in
theorem c_X7_commonDivisor (l : Launch) (D : va_G) (c : Nat → ClassId) (a2 : Int32) (b2 : Nat) (hB : b2 < 2147483647) : wk_RdI l yX7_commonDivisor wsX7_commonDivisor rmX7_commonDivisor D (tysL c) [.int a2, .int (nI b2)] ([]) (cdL (b2 + 1) a2 (nI b2)) := by
  refine wk_mkR (cc := cX7_commonDivisor) (maxL := 6) (rt := .int) (by decide) rfl (Nat.le_of_ble_eq_true rfl) rfl ?_
  intro pr ev ss mm args below meth cd ls H Q hst hP hK hl ret
  obtain ⟨hx, hb, hml, hown, hts, -⟩ := hst
  have hown : ss.vm.findClass RX7 = some mm.cls := hown
  have hl : lv_has ls 6 [(0, .int a2), (1, .int (nI b2))] := hl
  refine lv_iload_n hx hb dX7_commonDivisor_0 rfl (lv_at hl 0 rfl) ?_
  refine lv_istore_n (lv' := [(2, .int a2), (0, .int a2), (1, .int (nI b2))]) hx hb dX7_commonDivisor_1 rfl hl (by decide) rfl (fun ls hl => ?_)
  refine lv_iload_n hx hb dX7_commonDivisor_2 rfl (lv_at hl 2 rfl) ?_
  refine lv_istore_n (lv' := [(3, .int (nI b2)), (2, .int a2), (0, .int a2), (1, .int (nI b2))]) hx hb dX7_commonDivisor_3 rfl hl (by decide) rfl (fun ls hl => ?_)
  refine lv_iconst (v := 0) hx hb dX7_commonDivisor_4 (by decide) ?_
  refine lv_istore (lv' := [(4, .int 0), (3, .int (nI b2)), (2, .int a2), (0, .int a2), (1, .int (nI b2))]) hx hb dX7_commonDivisor_5 hl (by decide) rfl (fun ls hl => ?_)
  have lp7 : ∀ (n : Nat) (i : Nat) (u : Int32) (v : Int32), (i ≤ b2 + 1) → (cdL (b2 + 1 - i) u v = cdL (b2 + 1) a2 (nI b2)) → b2 + 1 - i < n → ∀ ls : Array Slot, lv_has ls 6 [(0, .int a2), (1, .int (nI b2)), (2, .int u), (3, .int v), (4, .int (nI i))] → W pr l ev rmX7_commonDivisor ss mm args below meth cd H [] 0 0 Q (F0 mm 7 ls []) := by
    intro n
    induction n with
    | zero => intro i u v hi hv hn; exact absurd hn (Nat.not_lt_zero _)
    | succ n ih7 =>
      intro i u v hi hv hn ls hl
      refine lv_iload hx hb dX7_commonDivisor_7 (lv_at hl 4 rfl) ?_
      refine lv_iload_n hx hb dX7_commonDivisor_9 rfl (lv_at hl 1 rfl) ?_
      refine wk_gt (tgt := 33) hx hb i b2 rfl rfl (by omega) (by omega) dX7_commonDivisor_10 (by decide) (fun h1 => ?_) (fun h1 => ?_)
      · refine lv_iload_n hx hb dX7_commonDivisor_33 rfl (lv_at hl 2 rfl) ?_
        exact ret 34 ls u (by rw [← hv, show b2 + 1 - i = 0 by omega]; rfl) dX7_commonDivisor_34
      refine lv_iload_n hx hb dX7_commonDivisor_13 rfl (lv_at hl 3 rfl) ?_
      refine lv_if_eq (tgt := 33) hx hb dX7_commonDivisor_14 (by decide) (fun h2 => ?_) (fun h2 => ?_)
      · refine lv_iload_n hx hb dX7_commonDivisor_33 rfl (lv_at hl 2 rfl) ?_
        exact ret 34 ls u (by rw [← hv, show b2 + 1 - i = (b2 + 1 - (i + 1)) + 1 by omega, cdL, if_pos h2]) dX7_commonDivisor_34
      have h9 := h2
      refine lv_iload_n hx hb dX7_commonDivisor_17 rfl (lv_at hl 2 rfl) ?_
      refine lv_iload_n hx hb dX7_commonDivisor_18 rfl (lv_at hl 3 rfl) ?_
      refine lv_irem hx hb dX7_commonDivisor_19 h9 ?_
      refine lv_istore (lv' := [(5, .int (u - u / v * v)), (0, .int a2), (1, .int (nI b2)), (2, .int u), (3, .int v), (4, .int (nI i))]) hx hb dX7_commonDivisor_20 hl (by decide) rfl (fun ls hl => ?_)
      refine lv_iload_n hx hb dX7_commonDivisor_22 rfl (lv_at hl 4 rfl) ?_
      refine lv_istore_n (lv' := [(2, .int v), (5, .int (u - u / v * v)), (0, .int a2), (1, .int (nI b2)), (3, .int v), (4, .int (nI i))]) hx hb dX7_commonDivisor_23 rfl hl (by decide) rfl (fun ls hl => ?_)
      refine lv_iload hx hb dX7_commonDivisor_24 (lv_at hl 1 rfl) ?_
      refine lv_istore_n (lv' := [(3, .int (u - u / v * v)), (2, .int v), (5, .int (u - u / v * v)), (0, .int a2), (1, .int (nI b2)), (4, .int (nI i))]) hx hb dX7_commonDivisor_26 rfl hl (by decide) rfl (fun ls hl => ?_)
      refine lv_iinc (v := nI (i + 1)) (lv' := [(4, .int (nI (i + 1))), (3, .int (u - u / v * v)), (2, .int v), (5, .int (u - u / v * v)), (0, .int a2), (1, .int (nI b2))]) hx hb dX7_commonDivisor_27 hl (k := 5) rfl (nI_inc i 1) (by decide) rfl (fun ls hl => ?_)
      refine lv_goto (tgt := 7) hx hb dX7_commonDivisor_30 (by decide) ?_
      have hl : lv_has ls 6 [(0, .int a2), (1, .int (nI b2)), (2, .int v), (3, .int (u - u / v * v)), (4, .int (nI (i + 1)))] := lv_sub hl [4, 5, 2, 1, 0] rfl
      have hl := wk_lset (y := (u - u / v * v)) (lv_sub (l' := [(3, .int (u - u / v * v)), (0, .int a2), (1, .int (nI b2)), (2, .int v), (4, .int (nI (i + 1)))]) hl [3, 0, 1, 2, 4] rfl) (by rfl)
      have hl : lv_has ls 6 [(0, .int a2), (1, .int (nI b2)), (2, .int v), (3, .int ((u - u / v * v))), (4, .int (nI (i + 1)))] := lv_sub hl [1, 2, 3, 0, 4] rfl
      exact ih7 (i + 1) v (u - u / v * v) (by omega) (by rw [← hv, show b2 + 1 - i = (b2 + 1 - (i + 1)) + 1 by omega, cdL, if_neg h2]) (by omega) ls hl
  have hl : lv_has ls 6 [(0, .int a2), (1, .int (nI b2)), (2, .int a2), (3, .int (nI b2)), (4, .int 0)] := lv_sub hl [3, 4, 2, 1, 0] rfl
  have hl := wk_lset (y := (nI b2)) (lv_sub (l' := [(3, .int (nI b2)), (0, .int a2), (1, .int (nI b2)), (2, .int a2), (4, .int 0)]) hl [3, 0, 1, 2, 4] rfl) (by rfl)
  have hl : lv_has ls 6 [(0, .int a2), (1, .int (nI b2)), (2, .int a2), (3, .int ((nI b2))), (4, .int 0)] := lv_sub hl [1, 2, 3, 0, 4] rfl
  have hl := wk_lset (y := nI 0) (lv_sub (l' := [(4, .int 0), (0, .int a2), (1, .int (nI b2)), (2, .int a2), (3, .int ((nI b2)))]) hl [4, 0, 1, 2, 3] rfl) (by rfl)
  have hl : lv_has ls 6 [(0, .int a2), (1, .int (nI b2)), (2, .int a2), (3, .int ((nI b2))), (4, .int (nI 0))] := lv_sub hl [1, 2, 3, 4, 0] rfl
  exact lp7 _ 0 a2 (nI b2) (by omega) (rfl) (Nat.lt_succ_self _) ls hl

abbrev rmX7_odds : Room := { frames := 3, cells := 0, slots := 0, locals := 78 }
theorem hd_X7_odds : yX7_odds.cls = RX7 ∧ yX7_odds.cls ≠ "java/lang/invoke/MethodHandle" ∧ yX7_odds.cls ≠ "java/lang/invoke/VarHandle" ∧ (parseMethodDescriptor yX7_odds.desc).map (fun d => d.parameters.length) = some 4 := by decide +kernel
set_option maxHeartbeats 4000000 in
set_option maxRecDepth 100000 in
theorem c_X7_odds (l : Launch) (D : va_G) (c : Nat → ClassId) (x : Nat) (t : Nat → Nat) (p : Nat → Nat) (sp : Nat → Nat) (a : Nat → Nat) (b : Nat → Nat) (h : Nat → Nat) (g : Nat → Nat) (f : Nat → Nat) (o : Nat → Nat) (k : Int64) (π : Nat → Nat → Int32) (σ : Nat → Nat → Int32) (κ : Nat → Nat → Int32) (w : Int32) (s : Int32) (p2 : Int32) (x2 : Int32) (hp : wfP π) : wk_UpJ l yX7_odds wsX7_odds rmX7_odds D (tysL c) [.ref x, .int w, .int s, .int p2, .int x2] (lwW x t p sp a b h g f o k ++ pageW c p π ++ affW c a σ ++ courseW c o κ) (fun j1 j2 => lwW x t p sp a b h g f o k ++ pageW c p π ++ affW c a σ ++ courseW c o j2) (oddsV π σ w s p2 x2) := by
  refine wk_mkJ (cc := cX7_odds) (maxL := 10) (rt := .int) (by decide) rfl (Nat.le_of_ble_eq_true rfl) rfl ?_
  intro A pr ev ss mm args below meth cd ls H H0 locs Q hst hP hK hD hS hA hl ret
  obtain ⟨hx, hb, hml, hown, hts, -⟩ := hst
  have hown : ss.vm.findClass RX7 = some mm.cls := hown
  have hl : lv_has ls 10 [(0, .ref x), (1, .int w), (2, .int s), (3, .int p2), (4, .int x2)] := hl
  have k1 := hts (.fieldLink RX7 29 "LastWord" "affairs" "LLastWord$Affairs;") (List.mem_of_getElem? (i := 1) rfl)
  have k2 := hts (.fieldLink RX7 19 "LastWord" "page" "LLastWord$Page;") (List.mem_of_getElem? (i := 2) rfl)
  have k3 := hts (.fieldLink RX7 134 "LastWord$Affairs" "laid" "I") (List.mem_of_getElem? (i := 3) rfl)
  have iX0 : ∀ w ∈ u_ws RX0 TX0 11, w ∈ wsX7_odds := fun _ h => (List.mem_cons_of_mem _ (List.mem_append_left _ (List.mem_append_left _ (List.mem_append_right _ h))))
  have iX7 : ∀ w ∈ u_ws RX7 TX7 10, w ∈ wsX7_odds := fun _ h => (List.mem_cons_of_mem _ (List.mem_append_left _ (List.mem_append_left _ (List.mem_append_left _ (List.mem_append_right _ h)))))
  refine lv_aload_n hx hb dX7_odds_0 rfl (lv_at hl 0 rfl) ?_
  refine lv_iload_n hx hb dX7_odds_1 rfl (lv_at hl 1 rfl) ?_
  refine lv_iload_n hx hb dX7_odds_2 rfl (lv_at hl 2 rfl) ?_
  refine wk_callRV (As := [.int w, .int s]) (rest := []) ⟨hx, hb, hml, hown, hts⟩ (c_X7_mayStand l D c x t p sp a b h g f o k π w s) (cwV 2 hts gX7_odds_X7_mayStand rfl rfl rfl hd_X7_mayStand ⟨Nat.le_of_ble_eq_true rfl, Nat.le_of_ble_eq_true rfl⟩) hK hP [0, 1, 2, 3, 4, 5, 6, 7, 8, 9, 10] rfl 0 rfl rfl rfl hl.1 rfl (Nat.le_of_ble_eq_true rfl) dX7_odds_3 (Nat.zero_le _) (Nat.zero_le _) ?_
  refine wk_bz (tgt := 30) hx hb dX7_odds_6 (by decide) (fun h1 => ?_) (fun h1 => ?_)
  · refine lv_iconst (v := -1) hx hb dX7_odds_30 (by decide) ?_
    exact ret 31 ls H _ ((-1)) π κ (by rw [oddsV, if_neg (fun q => absurd q.1 h1)]) hP hS dX7_odds_31
  refine lv_iload_n hx hb dX7_odds_9 rfl (lv_at hl 3 rfl) ?_
  refine lv_if_lt (tgt := 30) hx hb dX7_odds_10 (by decide) (fun h2 => ?_) (fun h2 => ?_)
  · refine lv_iconst (v := -1) hx hb dX7_odds_30 (by decide) ?_
    exact ret 31 ls H _ ((-1)) π κ (by rw [oddsV, if_neg (fun q => absurd h2 (Int32.not_lt.mpr q.2.1.1))]) hP hS dX7_odds_31
  refine lv_iload_n hx hb dX7_odds_13 rfl (lv_at hl 3 rfl) ?_
  refine lv_bipush (v := 10) hx hb dX7_odds_14 (by decide) ?_
  refine lv_icmp_gt (tgt := 30) hx hb dX7_odds_16 (by decide) (fun h3 => ?_) (fun h3 => ?_)
  · refine lv_iconst (v := -1) hx hb dX7_odds_30 (by decide) ?_
    exact ret 31 ls H _ ((-1)) π κ (by rw [oddsV, if_neg (fun q => absurd h3 (Int32.not_lt.mpr q.2.1.2))]) hP hS dX7_odds_31
  refine lv_iload hx hb dX7_odds_19 (lv_at hl 4 rfl) ?_
  refine lv_if_lt (tgt := 30) hx hb dX7_odds_21 (by decide) (fun h4 => ?_) (fun h4 => ?_)
  · refine lv_iconst (v := -1) hx hb dX7_odds_30 (by decide) ?_
    exact ret 31 ls H _ ((-1)) π κ (by rw [oddsV, if_neg (fun q => absurd h4 (Int32.not_lt.mpr q.2.2.1))]) hP hS dX7_odds_31
  refine lv_iload hx hb dX7_odds_24 (lv_at hl 4 rfl) ?_
  refine lv_iconst (v := 1) hx hb dX7_odds_26 (by decide) ?_
  refine lv_icmp_le (tgt := 32) hx hb dX7_odds_27 (by decide) (fun h5 => ?_) (fun h5 => ?_)
  rotate_left
  · refine lv_iconst (v := -1) hx hb dX7_odds_30 (by decide) ?_
    exact ret 31 ls H _ ((-1)) π κ (by rw [oddsV, if_neg (fun q => absurd q.2.2.2 h5)]) hP hS dX7_odds_31
  refine lv_aload_n hx hb dX7_odds_32 rfl (lv_at hl 0 rfl) ?_
  refine wg_X7_3 hx hb hts iX7 hown hK hP 0 rfl k1 (v := .ref (a 0)) rfl dX7_odds_33 ?_
  refine lv_iload_n hx hb dX7_odds_36 rfl (lv_at hl 1 rfl) ?_
  refine wk_callRV (As := [.int w]) (rest := []) ⟨hx, hb, hml, hown, hts⟩ (c_X0_hasLaid l D c a σ w) (cwV 1 hts gX7_odds_X0_hasLaid rfl rfl rfl hd_X0_hasLaid ⟨Nat.le_of_ble_eq_true rfl, Nat.le_of_ble_eq_true rfl⟩) hK hP [11, 12, 13, 14, 15, 16, 17, 18] rfl 0 rfl rfl rfl hl.1 rfl (Nat.le_of_ble_eq_true rfl) dX7_odds_37 (Nat.zero_le _) (Nat.zero_le _) ?_
  refine wk_bz (tgt := 46) hx hb dX7_odds_40 (by decide) (fun hL => ?_) (fun hL => ?_)
  rotate_left
  · refine lv_bipush (v := -2) hx hb dX7_odds_43 (by decide) ?_
    exact ret 45 ls H _ ((-2)) π κ (by rw [oddsV, if_pos ⟨h1, ⟨Int32.not_lt.mp h2, Int32.not_lt.mp h3⟩, Int32.not_lt.mp h4, h5⟩, if_pos hL]) hP hS dX7_odds_45
  obtain ⟨hs0, hs1⟩ := sb_ix h1.2
  have hok : odOK π w s p2 x2 := ⟨h1, ⟨Int32.not_lt.mp h2, Int32.not_lt.mp h3⟩, Int32.not_lt.mp h4, h5⟩
  refine lv_aload_n hx hb dX7_odds_46 rfl (lv_at hl 0 rfl) ?_
  refine wg_X7_1 hx hb hts iX7 hown hK hP 0 rfl k2 (v := .ref (p 0)) rfl dX7_odds_47 ?_
  refine wk_callRV (As := []) (rest := []) ⟨hx, hb, hml, hown, hts⟩ (c_X5_everybody l D c p π) (cwV 0 hts gX7_odds_X5_everybody rfl rfl rfl hd_X5_everybody ⟨Nat.le_of_ble_eq_true rfl, Nat.le_of_ble_eq_true rfl⟩) hK hP [1, 2, 3, 4, 5, 6, 7, 8, 9, 10] rfl 0 rfl rfl rfl hl.1 rfl (Nat.le_of_ble_eq_true rfl) dX7_odds_50 (Nat.zero_le _) (Nat.zero_le _) ?_
  refine lv_aload_n hx hb dX7_odds_53 rfl (lv_at hl 0 rfl) ?_
  refine wg_X7_3 hx hb hts iX7 hown hK hP 0 rfl k1 (v := .ref (a 0)) rfl dX7_odds_54 ?_
  refine wg_X0_3 hx hb hts iX0 hown hK hP 11 rfl k3 (v := .int (σ 3 0)) rfl dX7_odds_57 ?_
  refine lv_iconst (v := -1) hx hb dX7_odds_60 (by decide) ?_
  refine lv_ixor hx hb dX7_odds_61 ?_
  refine lv_iand hx hb dX7_odds_62 ?_
  refine lv_iconst (v := 1) hx hb dX7_odds_63 (by decide) ?_
  refine lv_iload_n hx hb dX7_odds_64 rfl (lv_at hl 1 rfl) ?_
  refine lv_ishl hx hb dX7_odds_65 ?_
  refine lv_iconst (v := -1) hx hb dX7_odds_66 (by decide) ?_
  refine lv_ixor hx hb dX7_odds_67 ?_
  refine lv_iand hx hb dX7_odds_68 ?_
  refine wk_eqi (y := othB π σ w) rfl ?_
  refine lv_istore (lv' := [(5, .int (othB π σ w)), (0, .ref x), (1, .int w), (2, .int s), (3, .int p2), (4, .int x2)]) hx hb dX7_odds_69 hl (by decide) rfl (fun ls hl => ?_)
  refine lv_iload hx hb dX7_odds_71 (lv_at hl 0 rfl) ?_
  refine wk_callRS (As := [.int (othB π σ w)]) (rest := []) ⟨hx, hb, hml, hown, hts⟩ (c_J6_bitCount_0f7a4 l D c (othB π σ w)) (va_cwS 1 hts gX7_odds_J6_bitCount_0f7a4 rfl rfl rfl hd_J6_bitCount_0f7a4 ⟨Nat.le_of_ble_eq_true rfl, Nat.le_of_ble_eq_true rfl⟩) hK hP [] rfl rfl hl.1 rfl (Nat.le_of_ble_eq_true rfl) dX7_odds_73 (Nat.zero_le _) (Nat.zero_le _) ?_
  refine lv_istore (lv' := [(6, .int (bcF (othB π σ w))), (5, .int (othB π σ w)), (0, .ref x), (1, .int w), (2, .int s), (3, .int p2), (4, .int x2)]) hx hb dX7_odds_76 hl (by decide) rfl (fun ls hl => ?_)
  refine lv_iconst (v := 0) hx hb dX7_odds_78 (by decide) ?_
  refine lv_istore (lv' := [(7, .int 0), (6, .int (bcF (othB π σ w))), (5, .int (othB π σ w)), (0, .ref x), (1, .int w), (2, .int s), (3, .int p2), (4, .int x2)]) hx hb dX7_odds_79 hl (by decide) rfl (fun ls hl => ?_)
  refine lv_iconst (v := 0) hx hb dX7_odds_81 (by decide) ?_
  refine lv_istore (lv' := [(8, .int 0), (7, .int 0), (6, .int (bcF (othB π σ w))), (5, .int (othB π σ w)), (0, .ref x), (1, .int w), (2, .int s), (3, .int p2), (4, .int x2)]) hx hb dX7_odds_82 hl (by decide) rfl (fun ls hl => ?_)
  have lp84 : ∀ (n : Nat) (i : Nat) (κ2 : wRec), (i ≤ 64) → 64 - i < n → ∀ (H : Heap) (locs : List Loc), va_P D vwCl (lwW x t p sp a b h g f o k ++ pageW c p π ++ affW c a σ ++ courseW c o κ2) H → va_D A (lwW x t p sp a b h g f o k ++ pageW c p π ++ affW c a σ ++ courseW c o κ2) → va_S A H0 H locs → ∀ ls : Array Slot, lv_has ls 10 [(0, .ref x), (1, .int w), (2, .int (nI s.toNatClampNeg)), (3, .int p2), (4, .int x2), (5, .int (othB π σ w)), (6, .int (bcF (othB π σ w))), (7, .int (odU π σ w (s.toNatClampNeg) p2 (othB π σ w) i)), (8, .int (nI i))] → W pr l ev rmX7_odds ss mm args below meth cd H locs 0 0 Q (F0 mm 84 ls []) := by
    intro n
    induction n with
    | zero => intro i κ2 hi hn; exact absurd hn (Nat.not_lt_zero _)
    | succ n ih84 =>
      intro i κ2 hi hn H locs hP hD hS ls hl
      refine lv_iload hx hb dX7_odds_84 (lv_at hl 8 rfl) ?_
      refine lv_bipush (v := 64) hx hb dX7_odds_86 (by decide) ?_
      refine wk_ge (tgt := 157) hx hb i 64 rfl rfl (by omega) (by omega) dX7_odds_88 (by decide) (fun h7 => ?_) (fun h7 => ?_)
      · have hi64 : i = 64 := by omega
        subst hi64
        refine lv_bipush (v := 10) hx hb dX7_odds_157 (by decide) ?_
        refine lv_iload hx hb dX7_odds_159 (lv_at hl 6 rfl) ?_
        refine wk_callRS (As := [.int 10, .int (bcF (othB π σ w))]) (rest := []) ⟨hx, hb, hml, hown, hts⟩ (c_X7_power l D c 10 (bcF (othB π σ w))) (va_cwS 2 hts gX7_odds_X7_power rfl rfl rfl hd_X7_power ⟨Nat.le_of_ble_eq_true rfl, Nat.le_of_ble_eq_true rfl⟩) hK hP [] rfl rfl hl.1 rfl (Nat.le_of_ble_eq_true rfl) dX7_odds_161 (Nat.zero_le _) (Nat.zero_le _) ?_
        refine wk_eqi (y := nI (odN (othB π σ w))) (powF_nat 10 (tn (bcF (othB π σ w)))) ?_
        refine lv_istore (lv' := [(8, .int (nI (odN (othB π σ w)))), (0, .ref x), (1, .int w), (2, .int (nI s.toNatClampNeg)), (3, .int p2), (4, .int x2), (5, .int (othB π σ w)), (6, .int (bcF (othB π σ w))), (7, .int (odU π σ w (s.toNatClampNeg) p2 (othB π σ w) 64))]) hx hb dX7_odds_164 hl (by decide) rfl (fun ls hl => ?_)
        refine lv_iload hx hb dX7_odds_166 (lv_at hl 8 rfl) ?_
        refine lv_iload hx hb dX7_odds_168 (lv_at hl 0 rfl) ?_
        refine wk_callRS (As := [.int (odU π σ w (s.toNatClampNeg) p2 (othB π σ w) 64), .int (nI (odN (othB π σ w)))]) (rest := []) ⟨hx, hb, hml, hown, hts⟩ (c_X7_commonDivisor l D c (odU π σ w (s.toNatClampNeg) p2 (othB π σ w) 64) (odN (othB π σ w)) (by have := odN_lt hp.n σ w; omega)) (va_cwS 2 hts gX7_odds_X7_commonDivisor rfl rfl rfl hd_X7_commonDivisor ⟨Nat.le_of_ble_eq_true rfl, Nat.le_of_ble_eq_true rfl⟩) hK hP [] rfl rfl hl.1 rfl (Nat.le_of_ble_eq_true rfl) dX7_odds_170 (Nat.zero_le _) (Nat.zero_le _) ?_
        refine wk_eqi (y := odG π σ w (s.toNatClampNeg) p2 (othB π σ w)) rfl ?_
        refine lv_istore (lv' := [(9, .int (odG π σ w (s.toNatClampNeg) p2 (othB π σ w))), (8, .int (nI (odN (othB π σ w)))), (0, .ref x), (1, .int w), (2, .int (nI s.toNatClampNeg)), (3, .int p2), (4, .int x2), (5, .int (othB π σ w)), (6, .int (bcF (othB π σ w))), (7, .int (odU π σ w (s.toNatClampNeg) p2 (othB π σ w) 64))]) hx hb dX7_odds_173 hl (by decide) rfl (fun ls hl => ?_)
        refine lv_iload hx hb dX7_odds_175 (lv_at hl 0 rfl) ?_
        refine lv_if_ne (tgt := 183) hx hb dX7_odds_177 (by decide) (fun h8 => ?_) (fun h8 => ?_)
        rotate_left
        · refine lv_bipush (v := -9) hx hb dX7_odds_180 (by decide) ?_
          exact ret 182 ls H _ ((-9)) π κ2 (by rw [oddsV, if_pos hok, if_neg hL, odR, if_pos h8]) hP hS dX7_odds_182
        have h177 : ¬ odG π σ w (s.toNatClampNeg) p2 (othB π σ w) = 0 := h8
        refine lv_iload hx hb dX7_odds_183 (lv_at hl 6 rfl) ?_
        refine lv_if_ne (tgt := 196) hx hb dX7_odds_185 (by decide) (fun h9 => ?_) (fun h9 => ?_)
        · refine lv_iload hx hb dX7_odds_196 (lv_at hl 1 rfl) ?_
          refine lv_iload hx hb dX7_odds_198 (lv_at hl 0 rfl) ?_
          refine lv_idiv hx hb dX7_odds_200 h177 ?_
          exact ret 201 ls H _ ((nI (odN (othB π σ w))) / (odG π σ w (s.toNatClampNeg) p2 (othB π σ w))) π κ2 (by rw [oddsV, if_pos hok, if_neg hL, odR, if_neg h177, if_neg h9]) hP hS dX7_odds_201
        refine lv_iload hx hb dX7_odds_188 (lv_at hl 9 rfl) ?_
        refine lv_iload hx hb dX7_odds_190 (lv_at hl 0 rfl) ?_
        refine lv_idiv hx hb dX7_odds_192 h177 ?_
        refine lv_goto (tgt := 201) hx hb dX7_odds_193 (by decide) ?_
        exact ret 201 ls H _ ((odU π σ w (s.toNatClampNeg) p2 (othB π σ w) 64) / (odG π σ w (s.toNatClampNeg) p2 (othB π σ w))) π κ2 (by rw [oddsV, if_pos hok, if_neg hL, odR, if_neg h177, if_pos h9]) hP hS dX7_odds_201
      refine lv_iload hx hb dX7_odds_91 (lv_at hl 8 rfl) ?_
      refine lv_iload hx hb dX7_odds_93 (lv_at hl 5 rfl) ?_
      refine lv_iconst (v := -1) hx hb dX7_odds_95 (by decide) ?_
      refine lv_ixor hx hb dX7_odds_96 ?_
      refine lv_iand hx hb dX7_odds_97 ?_
      refine lv_if_ne (tgt := 151) hx hb dX7_odds_98 (by decide) (fun h10 => ?_) (fun h10 => ?_)
      · refine lv_iinc (v := nI (i + 1)) (lv' := [(8, .int (nI (i + 1))), (0, .ref x), (1, .int w), (2, .int (nI s.toNatClampNeg)), (3, .int p2), (4, .int x2), (5, .int (othB π σ w)), (6, .int (bcF (othB π σ w))), (7, .int (odU π σ w (s.toNatClampNeg) p2 (othB π σ w) i))]) hx hb dX7_odds_151 hl (k := 8) rfl (nI_inc i 1) (by decide) rfl (fun ls hl => ?_)
        refine lv_goto (tgt := 84) hx hb dX7_odds_154 (by decide) ?_
        have hl : lv_has ls 10 [(0, .ref x), (1, .int w), (2, .int (nI s.toNatClampNeg)), (3, .int p2), (4, .int x2), (5, .int (othB π σ w)), (6, .int (bcF (othB π σ w))), (7, .int (odU π σ w (s.toNatClampNeg) p2 (othB π σ w) i)), (8, .int (nI (i + 1)))] := lv_sub hl [1, 2, 3, 4, 5, 6, 7, 8, 0] rfl
        have hl := wk_lset (y := odU π σ w (s.toNatClampNeg) p2 (othB π σ w) (i + 1)) (lv_sub (l' := [(7, .int (odU π σ w (s.toNatClampNeg) p2 (othB π σ w) i)), (0, .ref x), (1, .int w), (2, .int (nI s.toNatClampNeg)), (3, .int p2), (4, .int x2), (5, .int (othB π σ w)), (6, .int (bcF (othB π σ w))), (8, .int (nI (i + 1)))]) hl [7, 0, 1, 2, 3, 4, 5, 6, 8] rfl) (by first | exact hs0 | rfl | (rw [odU, if_pos ⟨hO1, hO2⟩]; done) | (rw [odU, if_neg (fun z => absurd z.1 h10)]; done) | (rw [odU, if_neg (fun z => absurd z.2 h10)]; done))
        have hl : lv_has ls 10 [(0, .ref x), (1, .int w), (2, .int (nI s.toNatClampNeg)), (3, .int p2), (4, .int x2), (5, .int (othB π σ w)), (6, .int (bcF (othB π σ w))), (7, .int (odU π σ w (s.toNatClampNeg) p2 (othB π σ w) (i + 1))), (8, .int (nI (i + 1)))] := lv_sub hl [1, 2, 3, 4, 5, 6, 7, 0, 8] rfl
        exact ih84 (i + 1) κ2 (by omega) (by omega) H _ hP hD hS ls hl
      have hO1 := h10
      refine lv_aload_n hx hb dX7_odds_101 rfl (lv_at hl 0 rfl) ?_
      refine lv_iload_n hx hb dX7_odds_102 rfl (lv_at hl 1 rfl) ?_
      refine lv_iload_n hx hb dX7_odds_103 rfl (lv_at hl 2 rfl) ?_
      refine lv_aload_n hx hb dX7_odds_104 rfl (lv_at hl 0 rfl) ?_
      refine wg_X7_3 hx hb hts iX7 hown hK hP 0 rfl k1 (v := .ref (a 0)) rfl dX7_odds_105 ?_
      refine wg_X0_3 hx hb hts iX0 hown hK hP 11 rfl k3 (v := .int (σ 3 0)) rfl dX7_odds_108 ?_
      refine lv_iload hx hb dX7_odds_111 (lv_at hl 8 rfl) ?_
      refine lv_ior hx hb dX7_odds_113 ?_
      refine wk_callJV (As := [.int w, .int (nI s.toNatClampNeg), .int ((σ 3 0) ||| (nI i))]) (rest := []) ⟨hx, hb, hml, hown, hts⟩ (c_X7_hasLastWord l D c x t p sp a b h g f o k π κ2 w s.toNatClampNeg ((σ 3 0) ||| (nI i)) (hp) (hs1)) (cwV 3 hts gX7_odds_X7_hasLastWord rfl rfl rfl hd_X7_hasLastWord ⟨Nat.le_of_ble_eq_true rfl, Nat.le_of_ble_eq_true rfl⟩) hK hP hD hS hA [0, 1, 2, 3, 4, 5, 6, 7, 8, 9, 10, 19] [11, 12, 13, 14, 15, 16, 17, 18] 20 rfl rfl [x, p 0, p 2, p 3, p 4, p (5 + 0), p (5 + 1), p (5 + 2), p (5 + 3), p (5 + 4), p (5 + 5), o 0] rfl (fun _ _ => rfl) (ws' := fun ja11 jb12 => lwW x t p sp a b h g f o k ++ pageW c p π ++ affW c a σ ++ courseW c o jb12) (fun _ _ => rfl) (wr := affW c a σ) rfl (fun _ _ => rfl) (fun _ _ => rfl) rfl 0 rfl rfl rfl hl.1 rfl (Nat.le_of_ble_eq_true rfl) dX7_odds_114 (Nat.zero_le _) (Nat.zero_le _) (fun ja11 jb12 H locs hP hD hS => ?_)
      have hP : va_P D vwCl (lwW x t p sp a b h g f o k ++ pageW c p π ++ affW c a σ ++ courseW c o jb12) H := hP
      have hD : va_D A (lwW x t p sp a b h g f o k ++ pageW c p π ++ affW c a σ ++ courseW c o jb12) := hD
      refine wk_bz (tgt := 151) hx hb dX7_odds_117 (by decide) (fun hO2 => ?_) (fun hO2 => ?_)
      · refine lv_iinc (v := nI (i + 1)) (lv' := [(8, .int (nI (i + 1))), (0, .ref x), (1, .int w), (2, .int (nI s.toNatClampNeg)), (3, .int p2), (4, .int x2), (5, .int (othB π σ w)), (6, .int (bcF (othB π σ w))), (7, .int (odU π σ w (s.toNatClampNeg) p2 (othB π σ w) i))]) hx hb dX7_odds_151 hl (k := 8) rfl (nI_inc i 1) (by decide) rfl (fun ls hl => ?_)
        refine lv_goto (tgt := 84) hx hb dX7_odds_154 (by decide) ?_
        have hl : lv_has ls 10 [(0, .ref x), (1, .int w), (2, .int (nI s.toNatClampNeg)), (3, .int p2), (4, .int x2), (5, .int (othB π σ w)), (6, .int (bcF (othB π σ w))), (7, .int (odU π σ w (s.toNatClampNeg) p2 (othB π σ w) i)), (8, .int (nI (i + 1)))] := lv_sub hl [1, 2, 3, 4, 5, 6, 7, 8, 0] rfl
        have hl := wk_lset (y := odU π σ w (s.toNatClampNeg) p2 (othB π σ w) (i + 1)) (lv_sub (l' := [(7, .int (odU π σ w (s.toNatClampNeg) p2 (othB π σ w) i)), (0, .ref x), (1, .int w), (2, .int (nI s.toNatClampNeg)), (3, .int p2), (4, .int x2), (5, .int (othB π σ w)), (6, .int (bcF (othB π σ w))), (8, .int (nI (i + 1)))]) hl [7, 0, 1, 2, 3, 4, 5, 6, 8] rfl) (by first | exact hs0 | rfl | (rw [odU, if_pos ⟨hO1, hO2⟩]; done) | (rw [odU, if_neg (fun z => absurd z.1 hO2)]; done) | (rw [odU, if_neg (fun z => absurd z.2 hO2)]; done))
        have hl : lv_has ls 10 [(0, .ref x), (1, .int w), (2, .int (nI s.toNatClampNeg)), (3, .int p2), (4, .int x2), (5, .int (othB π σ w)), (6, .int (bcF (othB π σ w))), (7, .int (odU π σ w (s.toNatClampNeg) p2 (othB π σ w) (i + 1))), (8, .int (nI (i + 1)))] := lv_sub hl [1, 2, 3, 4, 5, 6, 7, 0, 8] rfl
        exact ih84 (i + 1) jb12 (by omega) (by omega) H _ hP hD hS ls hl
      refine lv_iload hx hb dX7_odds_120 (lv_at hl 8 rfl) ?_
      refine wk_callRS (As := [.int (nI i)]) (rest := []) ⟨hx, hb, hml, hown, hts⟩ (c_J6_bitCount_0f7a4 l D c (nI i)) (va_cwS 1 hts gX7_odds_J6_bitCount_0f7a4 rfl rfl rfl hd_J6_bitCount_0f7a4 ⟨Nat.le_of_ble_eq_true rfl, Nat.le_of_ble_eq_true rfl⟩) hK hP [] rfl rfl hl.1 rfl (Nat.le_of_ble_eq_true rfl) dX7_odds_122 (Nat.zero_le _) (Nat.zero_le _) ?_
      refine lv_istore (lv' := [(9, .int (bcF (nI i))), (0, .ref x), (1, .int w), (2, .int (nI s.toNatClampNeg)), (3, .int p2), (4, .int x2), (5, .int (othB π σ w)), (6, .int (bcF (othB π σ w))), (7, .int (odU π σ w (s.toNatClampNeg) p2 (othB π σ w) i)), (8, .int (nI i))]) hx hb dX7_odds_125 hl (by decide) rfl (fun ls hl => ?_)
      refine lv_iload hx hb dX7_odds_127 (lv_at hl 8 rfl) ?_
      refine lv_iload_n hx hb dX7_odds_129 rfl (lv_at hl 4 rfl) ?_
      refine lv_iload hx hb dX7_odds_130 (lv_at hl 0 rfl) ?_
      refine wk_callRS (As := [.int p2, .int (bcF (nI i))]) (rest := [.int (odU π σ w (s.toNatClampNeg) p2 (othB π σ w) i)]) ⟨hx, hb, hml, hown, hts⟩ (c_X7_power l D c p2 (bcF (nI i))) (va_cwS 2 hts gX7_odds_X7_power rfl rfl rfl hd_X7_power ⟨Nat.le_of_ble_eq_true rfl, Nat.le_of_ble_eq_true rfl⟩) hK hP [] rfl rfl hl.1 rfl (Nat.le_of_ble_eq_true rfl) dX7_odds_132 (Nat.zero_le _) (Nat.zero_le _) ?_
      refine lv_bipush (v := 10) hx hb dX7_odds_135 (by decide) ?_
      refine lv_iload_n hx hb dX7_odds_137 rfl (lv_at hl 4 rfl) ?_
      refine lv_isub hx hb dX7_odds_138 ?_
      refine lv_iload hx hb dX7_odds_139 (lv_at hl 7 rfl) ?_
      refine lv_iload hx hb dX7_odds_141 (lv_at hl 0 rfl) ?_
      refine lv_isub hx hb dX7_odds_143 ?_
      refine wk_callRS (As := [.int (10 - p2), .int ((bcF (othB π σ w)) - (bcF (nI i)))]) (rest := [.int (powF p2 (tn (bcF (nI i)))), .int (odU π σ w (s.toNatClampNeg) p2 (othB π σ w) i)]) ⟨hx, hb, hml, hown, hts⟩ (c_X7_power l D c (10 - p2) ((bcF (othB π σ w)) - (bcF (nI i)))) (va_cwS 2 hts gX7_odds_X7_power rfl rfl rfl hd_X7_power ⟨Nat.le_of_ble_eq_true rfl, Nat.le_of_ble_eq_true rfl⟩) hK hP [] rfl rfl hl.1 rfl (Nat.le_of_ble_eq_true rfl) dX7_odds_144 (Nat.zero_le _) (Nat.zero_le _) ?_
      refine lv_imul hx hb dX7_odds_147 ?_
      refine lv_iadd hx hb dX7_odds_148 ?_
      refine lv_istore (lv' := [(7, .int ((odU π σ w (s.toNatClampNeg) p2 (othB π σ w) i) + ((powF p2 (tn (bcF (nI i)))) * (powF (10 - p2) (tn ((bcF (othB π σ w)) - (bcF (nI i)))))))), (9, .int (bcF (nI i))), (0, .ref x), (1, .int w), (2, .int (nI s.toNatClampNeg)), (3, .int p2), (4, .int x2), (5, .int (othB π σ w)), (6, .int (bcF (othB π σ w))), (8, .int (nI i))]) hx hb dX7_odds_149 hl (by decide) rfl (fun ls hl => ?_)
      refine lv_iinc (v := nI (i + 1)) (lv' := [(8, .int (nI (i + 1))), (7, .int ((odU π σ w (s.toNatClampNeg) p2 (othB π σ w) i) + ((powF p2 (tn (bcF (nI i)))) * (powF (10 - p2) (tn ((bcF (othB π σ w)) - (bcF (nI i)))))))), (9, .int (bcF (nI i))), (0, .ref x), (1, .int w), (2, .int (nI s.toNatClampNeg)), (3, .int p2), (4, .int x2), (5, .int (othB π σ w)), (6, .int (bcF (othB π σ w)))]) hx hb dX7_odds_151 hl (k := 9) rfl (nI_inc i 1) (by decide) rfl (fun ls hl => ?_)
      refine lv_goto (tgt := 84) hx hb dX7_odds_154 (by decide) ?_
      have hl : lv_has ls 10 [(0, .ref x), (1, .int w), (2, .int (nI s.toNatClampNeg)), (3, .int p2), (4, .int x2), (5, .int (othB π σ w)), (6, .int (bcF (othB π σ w))), (7, .int ((odU π σ w (s.toNatClampNeg) p2 (othB π σ w) i) + ((powF p2 (tn (bcF (nI i)))) * (powF (10 - p2) (tn ((bcF (othB π σ w)) - (bcF (nI i)))))))), (8, .int (nI (i + 1)))] := lv_sub hl [3, 4, 5, 6, 7, 8, 9, 1, 0] rfl
      have hl := wk_lset (y := odU π σ w (s.toNatClampNeg) p2 (othB π σ w) (i + 1)) (lv_sub (l' := [(7, .int ((odU π σ w (s.toNatClampNeg) p2 (othB π σ w) i) + ((powF p2 (tn (bcF (nI i)))) * (powF (10 - p2) (tn ((bcF (othB π σ w)) - (bcF (nI i)))))))), (0, .ref x), (1, .int w), (2, .int (nI s.toNatClampNeg)), (3, .int p2), (4, .int x2), (5, .int (othB π σ w)), (6, .int (bcF (othB π σ w))), (8, .int (nI (i + 1)))]) hl [7, 0, 1, 2, 3, 4, 5, 6, 8] rfl) (by first | exact hs0 | rfl | (rw [odU, if_pos ⟨hO1, hO2⟩]; done) | (rw [odU, if_neg (fun z => absurd z.1 hO2)]; done) | (rw [odU, if_neg (fun z => absurd z.2 hO2)]; done))
      have hl : lv_has ls 10 [(0, .ref x), (1, .int w), (2, .int (nI s.toNatClampNeg)), (3, .int p2), (4, .int x2), (5, .int (othB π σ w)), (6, .int (bcF (othB π σ w))), (7, .int (odU π σ w (s.toNatClampNeg) p2 (othB π σ w) (i + 1))), (8, .int (nI (i + 1)))] := lv_sub hl [1, 2, 3, 4, 5, 6, 7, 0, 8] rfl
      exact ih84 (i + 1) jb12 (by omega) (by omega) H _ hP hD hS ls hl
  have hl : lv_has ls 10 [(0, .ref x), (1, .int w), (2, .int s), (3, .int p2), (4, .int x2), (5, .int (othB π σ w)), (6, .int (bcF (othB π σ w))), (7, .int 0), (8, .int 0)] := lv_sub hl [4, 5, 6, 7, 8, 3, 2, 1, 0] rfl
  have hl := wk_lset (y := nI s.toNatClampNeg) (lv_sub (l' := [(2, .int s), (0, .ref x), (1, .int w), (3, .int p2), (4, .int x2), (5, .int (othB π σ w)), (6, .int (bcF (othB π σ w))), (7, .int 0), (8, .int 0)]) hl [2, 0, 1, 3, 4, 5, 6, 7, 8] rfl) (by first | exact hs0 | rfl | (rw [odU, if_pos ⟨hO1, hO2⟩]; done) | (rw [odU, if_neg (fun z => absurd z.1 hL)]; done) | (rw [odU, if_neg (fun z => absurd z.2 hL)]; done))
  have hl : lv_has ls 10 [(0, .ref x), (1, .int w), (2, .int (nI s.toNatClampNeg)), (3, .int p2), (4, .int x2), (5, .int (othB π σ w)), (6, .int (bcF (othB π σ w))), (7, .int 0), (8, .int 0)] := lv_sub hl [1, 2, 0, 3, 4, 5, 6, 7, 8] rfl
  have hl := wk_lset (y := odU π σ w (s.toNatClampNeg) p2 (othB π σ w) 0) (lv_sub (l' := [(7, .int 0), (0, .ref x), (1, .int w), (2, .int (nI s.toNatClampNeg)), (3, .int p2), (4, .int x2), (5, .int (othB π σ w)), (6, .int (bcF (othB π σ w))), (8, .int 0)]) hl [7, 0, 1, 2, 3, 4, 5, 6, 8] rfl) (by first | exact hs0 | rfl | (rw [odU, if_pos ⟨hO1, hO2⟩]; done) | (rw [odU, if_neg (fun z => absurd z.1 hL)]; done) | (rw [odU, if_neg (fun z => absurd z.2 hL)]; done))
  have hl : lv_has ls 10 [(0, .ref x), (1, .int w), (2, .int (nI s.toNatClampNeg)), (3, .int p2), (4, .int x2), (5, .int (othB π σ w)), (6, .int (bcF (othB π σ w))), (7, .int (odU π σ w (s.toNatClampNeg) p2 (othB π σ w) 0)), (8, .int 0)] := lv_sub hl [1, 2, 3, 4, 5, 6, 7, 0, 8] rfl
  have hl := wk_lset (y := nI 0) (lv_sub (l' := [(8, .int 0), (0, .ref x), (1, .int w), (2, .int (nI s.toNatClampNeg)), (3, .int p2), (4, .int x2), (5, .int (othB π σ w)), (6, .int (bcF (othB π σ w))), (7, .int (odU π σ w (s.toNatClampNeg) p2 (othB π σ w) 0))]) hl [8, 0, 1, 2, 3, 4, 5, 6, 7] rfl) (by first | exact hs0 | rfl | (rw [odU, if_pos ⟨hO1, hO2⟩]; done) | (rw [odU, if_neg (fun z => absurd z.1 hL)]; done) | (rw [odU, if_neg (fun z => absurd z.2 hL)]; done))
  have hl : lv_has ls 10 [(0, .ref x), (1, .int w), (2, .int (nI s.toNatClampNeg)), (3, .int p2), (4, .int x2), (5, .int (othB π σ w)), (6, .int (bcF (othB π σ w))), (7, .int (odU π σ w (s.toNatClampNeg) p2 (othB π σ w) 0)), (8, .int (nI 0))] := lv_sub hl [1, 2, 3, 4, 5, 6, 7, 8, 0] rfl
  exact lp84 _ 0 κ (by omega) (Nat.lt_succ_self _) H _ hP hD hS ls hl

abbrev rmX7_most : Room := { frames := 1, cells := 0, slots := 0, locals := 23 }
theorem hd_X7_most : yX7_most.cls = RX7 ∧ yX7_most.cls ≠ "java/lang/invoke/MethodHandle" ∧ yX7_most.cls ≠ "java/lang/invoke/VarHandle" ∧ (parseMethodDescriptor yX7_most.desc).map (fun d => d.parameters.length) = some 0 := by decide +kernel
set_option maxHeartbeats 4000000 in
set_option maxRecDepth 100000 in
theorem c_X7_most (l : Launch) (D : va_G) (c : Nat → ClassId) (x : Nat) (t : Nat → Nat) (p : Nat → Nat) (sp : Nat → Nat) (a : Nat → Nat) (b : Nat → Nat) (h : Nat → Nat) (g : Nat → Nat) (f : Nat → Nat) (o : Nat → Nat) (k : Int64) (π : Nat → Nat → Int32) (σ : Nat → Nat → Int32) (hn : wfN π) (hq : wfQ σ) : wk_RdI l yX7_most wsX7_most rmX7_most D (tysL c) [.ref x] (lwW x t p sp a b h g f o k ++ pageW c p π ++ affW c a σ) (mostV π σ) := by
  refine wk_mkR (cc := cX7_most) (maxL := 5) (rt := .int) (by decide) rfl (Nat.le_of_ble_eq_true rfl) rfl ?_
  intro pr ev ss mm args below meth cd ls H Q hst hP hK hl ret
  obtain ⟨hx, hb, hml, hown, hts, -⟩ := hst
  have hown : ss.vm.findClass RX7 = some mm.cls := hown
  have hl : lv_has ls 5 [(0, .ref x)] := hl
  have k1 := hts (.fieldLink RX7 19 "LastWord" "page" "LLastWord$Page;") (List.mem_of_getElem? (i := 1) rfl)
  have k2 := hts (.fieldLink RX7 231 "LastWord$Page" "writers" "I") (List.mem_of_getElem? (i := 2) rfl)
  have k3 := hts (.fieldLink RX7 29 "LastWord" "affairs" "LLastWord$Affairs;") (List.mem_of_getElem? (i := 3) rfl)
  have iX5 : ∀ w ∈ u_ws RX5 TX5 5, w ∈ wsX7_most := fun _ h => (List.mem_cons_of_mem _ (List.mem_append_left _ (List.mem_append_right _ h)))
  have iX7 : ∀ w ∈ u_ws RX7 TX7 10, w ∈ wsX7_most := fun _ h => (List.mem_cons_of_mem _ (List.mem_append_left _ (List.mem_append_left _ (List.mem_append_right _ h))))
  have hn6 := hn.2
  have hnn := hn
  refine lv_bipush (v := -9) hx hb dX7_most_0 (by decide) ?_
  refine lv_istore_n (lv' := [(1, .int ((-9))), (0, .ref x)]) hx hb dX7_most_2 rfl hl (by decide) rfl (fun ls hl => ?_)
  refine lv_iconst (v := 0) hx hb dX7_most_3 (by decide) ?_
  refine lv_istore_n (lv' := [(2, .int 0), (1, .int ((-9))), (0, .ref x)]) hx hb dX7_most_4 rfl hl (by decide) rfl (fun ls hl => ?_)
  refine lv_iconst (v := 0) hx hb dX7_most_5 (by decide) ?_
  refine lv_istore_n (lv' := [(3, .int 0), (2, .int 0), (1, .int ((-9))), (0, .ref x)]) hx hb dX7_most_6 rfl hl (by decide) rfl (fun ls hl => ?_)
  have lp7 : ∀ (n : Nat) (i : Nat), (i ≤ nW π) → nW π - i < n → ∀ ls : Array Slot, lv_has ls 5 [(0, .ref x), (1, .int ((moL σ i).1)), (2, .int ((moL σ i).2)), (3, .int (nI i))] → W pr l ev rmX7_most ss mm args below meth cd H [] 0 0 Q (F0 mm 7 ls []) := by
    intro n
    induction n with
    | zero => intro i hi hn; exact absurd hn (Nat.not_lt_zero _)
    | succ n ih7 =>
      intro i hi hn ls hl
      refine lv_iload_n hx hb dX7_most_7 rfl (lv_at hl 3 rfl) ?_
      refine lv_aload_n hx hb dX7_most_8 rfl (lv_at hl 0 rfl) ?_
      refine wg_X7_1 hx hb hts iX7 hown hK hP 0 rfl k1 (v := .ref (p 0)) rfl dX7_most_9 ?_
      refine wg_X5_0 hx hb hts iX5 hown hK hP 1 rfl k2 (v := .int (π 0 0)) rfl dX7_most_12 ?_
      refine wk_eqi (hnn.1) ?_
      refine wk_ge (tgt := 45) hx hb i (nW π) rfl rfl (by omega) (by omega) dX7_most_15 (by decide) (fun h1 => ?_) (fun h1 => ?_)
      · refine lv_iload_n hx hb dX7_most_45 rfl (lv_at hl 1 rfl) ?_
        exact ret 46 ls ((moL σ i).1) (by rw [mostV, show i = nW π by omega]) dX7_most_46
      refine lv_aload_n hx hb dX7_most_18 rfl (lv_at hl 0 rfl) ?_
      refine wg_X7_3 hx hb hts iX7 hown hK hP 0 rfl k3 (v := .ref (a 0)) rfl dX7_most_19 ?_
      refine lv_iload_n hx hb dX7_most_22 rfl (lv_at hl 3 rfl) ?_
      refine wk_callRV (As := [.int (nI i)]) (rest := []) ⟨hx, hb, hml, hown, hts⟩ (c_X0_lastWordsOf l D c a σ (nI i) (hq)) (cwV 1 hts gX7_most_X0_lastWordsOf rfl rfl rfl hd_X0_lastWordsOf ⟨Nat.le_of_ble_eq_true rfl, Nat.le_of_ble_eq_true rfl⟩) hK hP [11, 12, 13, 14, 15, 16, 17, 18] rfl 0 rfl rfl rfl hl.1 rfl (Nat.le_of_ble_eq_true rfl) dX7_most_23 (Nat.zero_le _) (Nat.zero_le _) ?_
      refine lv_istore (lv' := [(4, .int (lwL (σ 8) (σ 5) (nI i) (nQ σ))), (0, .ref x), (1, .int ((moL σ i).1)), (2, .int ((moL σ i).2)), (3, .int (nI i))]) hx hb dX7_most_26 hl (by decide) rfl (fun ls hl => ?_)
      refine lv_iload hx hb dX7_most_28 (lv_at hl 0 rfl) ?_
      refine lv_iload_n hx hb dX7_most_30 rfl (lv_at hl 3 rfl) ?_
      refine lv_icmp_le (tgt := 39) hx hb dX7_most_31 (by decide) (fun h2 => ?_) (fun h2 => ?_)
      · refine lv_iinc (v := nI (i + 1)) (lv' := [(3, .int (nI (i + 1))), (4, .int (lwL (σ 8) (σ 5) (nI i) (nQ σ))), (0, .ref x), (1, .int ((moL σ i).1)), (2, .int ((moL σ i).2))]) hx hb dX7_most_39 hl (k := 4) rfl (nI_inc i 1) (by decide) rfl (fun ls hl => ?_)
        refine lv_goto (tgt := 7) hx hb dX7_most_42 (by decide) ?_
        have hl : lv_has ls 5 [(0, .ref x), (1, .int ((moL σ i).1)), (2, .int ((moL σ i).2)), (3, .int (nI (i + 1)))] := lv_sub hl [2, 3, 4, 0] rfl
        have hl := wk_lset (y := (moL σ (i + 1)).1) (lv_sub (l' := [(1, .int ((moL σ i).1)), (0, .ref x), (2, .int ((moL σ i).2)), (3, .int (nI (i + 1)))]) hl [1, 0, 2, 3] rfl) (by first | rfl | rw [moL, if_pos h2] | rw [moL, if_neg h2])
        have hl : lv_has ls 5 [(0, .ref x), (1, .int ((moL σ (i + 1)).1)), (2, .int ((moL σ i).2)), (3, .int (nI (i + 1)))] := lv_sub hl [1, 0, 2, 3] rfl
        have hl := wk_lset (y := (moL σ (i + 1)).2) (lv_sub (l' := [(2, .int ((moL σ i).2)), (0, .ref x), (1, .int ((moL σ (i + 1)).1)), (3, .int (nI (i + 1)))]) hl [2, 0, 1, 3] rfl) (by first | rfl | rw [moL, if_pos h2] | rw [moL, if_neg h2])
        have hl : lv_has ls 5 [(0, .ref x), (1, .int ((moL σ (i + 1)).1)), (2, .int ((moL σ (i + 1)).2)), (3, .int (nI (i + 1)))] := lv_sub hl [1, 2, 0, 3] rfl
        exact ih7 (i + 1) (by omega) (by omega) ls hl
      refine lv_iload hx hb dX7_most_34 (lv_at hl 0 rfl) ?_
      refine lv_istore_n (lv' := [(2, .int (lwL (σ 8) (σ 5) (nI i) (nQ σ))), (4, .int (lwL (σ 8) (σ 5) (nI i) (nQ σ))), (0, .ref x), (1, .int ((moL σ i).1)), (3, .int (nI i))]) hx hb dX7_most_36 rfl hl (by decide) rfl (fun ls hl => ?_)
      refine lv_iload_n hx hb dX7_most_37 rfl (lv_at hl 4 rfl) ?_
      refine lv_istore_n (lv' := [(1, .int (nI i)), (2, .int (lwL (σ 8) (σ 5) (nI i) (nQ σ))), (4, .int (lwL (σ 8) (σ 5) (nI i) (nQ σ))), (0, .ref x), (3, .int (nI i))]) hx hb dX7_most_38 rfl hl (by decide) rfl (fun ls hl => ?_)
      refine lv_iinc (v := nI (i + 1)) (lv' := [(3, .int (nI (i + 1))), (1, .int (nI i)), (2, .int (lwL (σ 8) (σ 5) (nI i) (nQ σ))), (4, .int (lwL (σ 8) (σ 5) (nI i) (nQ σ))), (0, .ref x)]) hx hb dX7_most_39 hl (k := 4) rfl (nI_inc i 1) (by decide) rfl (fun ls hl => ?_)
      refine lv_goto (tgt := 7) hx hb dX7_most_42 (by decide) ?_
      have hl : lv_has ls 5 [(0, .ref x), (1, .int (nI i)), (2, .int (lwL (σ 8) (σ 5) (nI i) (nQ σ))), (3, .int (nI (i + 1)))] := lv_sub hl [4, 1, 2, 0] rfl
      have hl := wk_lset (y := (moL σ (i + 1)).1) (lv_sub (l' := [(1, .int (nI i)), (0, .ref x), (2, .int (lwL (σ 8) (σ 5) (nI i) (nQ σ))), (3, .int (nI (i + 1)))]) hl [1, 0, 2, 3] rfl) (by first | rfl | rw [moL, if_pos h2] | rw [moL, if_neg h2])
      have hl : lv_has ls 5 [(0, .ref x), (1, .int ((moL σ (i + 1)).1)), (2, .int (lwL (σ 8) (σ 5) (nI i) (nQ σ))), (3, .int (nI (i + 1)))] := lv_sub hl [1, 0, 2, 3] rfl
      have hl := wk_lset (y := (moL σ (i + 1)).2) (lv_sub (l' := [(2, .int (lwL (σ 8) (σ 5) (nI i) (nQ σ))), (0, .ref x), (1, .int ((moL σ (i + 1)).1)), (3, .int (nI (i + 1)))]) hl [2, 0, 1, 3] rfl) (by first | rfl | rw [moL, if_pos h2] | rw [moL, if_neg h2])
      have hl : lv_has ls 5 [(0, .ref x), (1, .int ((moL σ (i + 1)).1)), (2, .int ((moL σ (i + 1)).2)), (3, .int (nI (i + 1)))] := lv_sub hl [1, 2, 0, 3] rfl
      exact ih7 (i + 1) (by omega) (by omega) ls hl
  have hl : lv_has ls 5 [(0, .ref x), (1, .int ((-9))), (2, .int 0), (3, .int 0)] := lv_sub hl [3, 2, 1, 0] rfl
  have hl := wk_lset (y := (moL σ 0).1) (lv_sub (l' := [(1, .int ((-9))), (0, .ref x), (2, .int 0), (3, .int 0)]) hl [1, 0, 2, 3] rfl) (by first | rfl | rw [moL, if_pos %L] | rw [moL, if_neg %L])
  have hl : lv_has ls 5 [(0, .ref x), (1, .int ((moL σ 0).1)), (2, .int 0), (3, .int 0)] := lv_sub hl [1, 0, 2, 3] rfl
  have hl := wk_lset (y := (moL σ 0).2) (lv_sub (l' := [(2, .int 0), (0, .ref x), (1, .int ((moL σ 0).1)), (3, .int 0)]) hl [2, 0, 1, 3] rfl) (by first | rfl | rw [moL, if_pos %L] | rw [moL, if_neg %L])
  have hl : lv_has ls 5 [(0, .ref x), (1, .int ((moL σ 0).1)), (2, .int ((moL σ 0).2)), (3, .int 0)] := lv_sub hl [1, 2, 0, 3] rfl
  have hl := wk_lset (y := nI 0) (lv_sub (l' := [(3, .int 0), (0, .ref x), (1, .int ((moL σ 0).1)), (2, .int ((moL σ 0).2))]) hl [3, 0, 1, 2] rfl) (by first | rfl | rw [moL, if_pos %L] | rw [moL, if_neg %L])
  have hl : lv_has ls 5 [(0, .ref x), (1, .int ((moL σ 0).1)), (2, .int ((moL σ 0).2)), (3, .int (nI 0))] := lv_sub hl [1, 2, 3, 0] rfl
  exact lp7 _ 0 (by omega) (Nat.lt_succ_self _) ls hl

abbrev rmX7_titles : Room := { frames := 1, cells := 0, slots := 0, locals := 21 }
theorem hd_X7_titles : yX7_titles.cls = RX7 ∧ yX7_titles.cls ≠ "java/lang/invoke/MethodHandle" ∧ yX7_titles.cls ≠ "java/lang/invoke/VarHandle" ∧ (parseMethodDescriptor yX7_titles.desc).map (fun d => d.parameters.length) = some 2 := by decide +kernel
set_option maxHeartbeats 4000000 in
set_option maxRecDepth 100000 in
theorem c_X7_titles (l : Launch) (D : va_G) (c : Nat → ClassId) (x : Nat) (t : Nat → Nat) (p : Nat → Nat) (sp : Nat → Nat) (a : Nat → Nat) (b : Nat → Nat) (h : Nat → Nat) (g : Nat → Nat) (f : Nat → Nat) (o : Nat → Nat) (k : Int64) (π : Nat → Nat → Int32) (w : Int32) (v : Int32) (hn : wfN π) : wk_RdI l yX7_titles wsX7_titles rmX7_titles D (tysL c) [.ref x, .int w, .int v] (lwW x t p sp a b h g f o k ++ pageW c p π) (titlesV π w v) := by
  refine wk_mkR (cc := cX7_titles) (maxL := 5) (rt := .int) (by decide) rfl (Nat.le_of_ble_eq_true rfl) rfl ?_
  intro pr ev ss mm args below meth cd ls H Q hst hP hK hl ret
  obtain ⟨hx, hb, hml, hown, hts, -⟩ := hst
  have hown : ss.vm.findClass RX7 = some mm.cls := hown
  have hl : lv_has ls 5 [(0, .ref x), (1, .int w), (2, .int v)] := hl
  have k1 := hts (.fieldLink RX7 19 "LastWord" "page" "LLastWord$Page;") (List.mem_of_getElem? (i := 1) rfl)
  have k2 := hts (.fieldLink RX7 105 "LastWord$Page" "near" "[[I") (List.mem_of_getElem? (i := 2) rfl)
  have iX5 : ∀ w ∈ u_ws RX5 TX5 5, w ∈ wsX7_titles := fun _ h => (List.mem_cons_of_mem _ (List.mem_append_right _ h))
  have iX7 : ∀ w ∈ u_ws RX7 TX7 10, w ∈ wsX7_titles := fun _ h => (List.mem_cons_of_mem _ (List.mem_append_left _ (List.mem_append_right _ h)))
  refine lv_aload_n hx hb dX7_titles_0 rfl (lv_at hl 0 rfl) ?_
  refine wg_X7_1 hx hb hts iX7 hown hK hP 0 rfl k1 (v := .ref (p 0)) rfl dX7_titles_1 ?_
  refine lv_iload_n hx hb dX7_titles_4 rfl (lv_at hl 1 rfl) ?_
  refine wk_callRV (As := [.int w]) (rest := []) ⟨hx, hb, hml, hown, hts⟩ (c_X5_hasWriter l D c p π w) (cwV 1 hts gX7_titles_X5_hasWriter rfl rfl rfl hd_X5_hasWriter ⟨Nat.le_of_ble_eq_true rfl, Nat.le_of_ble_eq_true rfl⟩) hK hP [1, 2, 3, 4, 5, 6, 7, 8, 9, 10] rfl 0 rfl rfl rfl hl.1 rfl (Nat.le_of_ble_eq_true rfl) dX7_titles_5 (Nat.zero_le _) (Nat.zero_le _) ?_
  refine wk_bz (tgt := 27) hx hb dX7_titles_8 (by decide) (fun h1 => ?_) (fun h1 => ?_)
  · refine lv_iconst (v := -1) hx hb dX7_titles_27 (by decide) ?_
    exact ret 28 ls ((-1)) (by rw [titlesV, if_neg (fun q => absurd q.1 h1)]) dX7_titles_28
  refine lv_aload_n hx hb dX7_titles_11 rfl (lv_at hl 0 rfl) ?_
  refine wg_X7_1 hx hb hts iX7 hown hK hP 0 rfl k1 (v := .ref (p 0)) rfl dX7_titles_12 ?_
  refine lv_iload_n hx hb dX7_titles_15 rfl (lv_at hl 2 rfl) ?_
  refine wk_callRV (As := [.int v]) (rest := []) ⟨hx, hb, hml, hown, hts⟩ (c_X5_hasWriter l D c p π v) (cwV 1 hts gX7_titles_X5_hasWriter rfl rfl rfl hd_X5_hasWriter ⟨Nat.le_of_ble_eq_true rfl, Nat.le_of_ble_eq_true rfl⟩) hK hP [1, 2, 3, 4, 5, 6, 7, 8, 9, 10] rfl 0 rfl rfl rfl hl.1 rfl (Nat.le_of_ble_eq_true rfl) dX7_titles_16 (Nat.zero_le _) (Nat.zero_le _) ?_
  refine wk_bz (tgt := 27) hx hb dX7_titles_19 (by decide) (fun h2 => ?_) (fun h2 => ?_)
  · refine lv_iconst (v := -1) hx hb dX7_titles_27 (by decide) ?_
    exact ret 28 ls ((-1)) (by rw [titlesV, if_neg (fun q => absurd q.2.1 h2)]) dX7_titles_28
  refine lv_iload_n hx hb dX7_titles_22 rfl (lv_at hl 1 rfl) ?_
  refine lv_iload_n hx hb dX7_titles_23 rfl (lv_at hl 2 rfl) ?_
  refine lv_icmp_ne (tgt := 29) hx hb dX7_titles_24 (by decide) (fun h3 => ?_) (fun h3 => ?_)
  rotate_left
  · refine lv_iconst (v := -1) hx hb dX7_titles_27 (by decide) ?_
    exact ret 28 ls ((-1)) (by rw [titlesV, if_neg (fun q => q.2.2 h3)]) dX7_titles_28
  obtain ⟨hw0, hw1⟩ := wr_ix hn h1
  obtain ⟨hv0, hv1⟩ := wr_ix hn h2
  have hn6 := hn.2
  have hne : tiOK π w v := ⟨h1, h2, h3⟩
  refine lv_iconst (v := 0) hx hb dX7_titles_29 (by decide) ?_
  refine lv_istore_n (lv' := [(3, .int 0), (0, .ref x), (1, .int w), (2, .int v)]) hx hb dX7_titles_30 rfl hl (by decide) rfl (fun ls hl => ?_)
  refine lv_iconst (v := 0) hx hb dX7_titles_31 (by decide) ?_
  refine lv_istore (lv' := [(4, .int 0), (3, .int 0), (0, .ref x), (1, .int w), (2, .int v)]) hx hb dX7_titles_32 hl (by decide) rfl (fun ls hl => ?_)
  have lp34 : ∀ (n : Nat) (i : Nat), (i ≤ 5) → 5 - i < n → ∀ ls : Array Slot, lv_has ls 5 [(0, .ref x), (1, .int (nI w.toNatClampNeg)), (2, .int (nI v.toNatClampNeg)), (3, .int (tiL π (w.toNatClampNeg) (v.toNatClampNeg) i)), (4, .int (nI i))] → W pr l ev rmX7_titles ss mm args below meth cd H [] 0 0 Q (F0 mm 34 ls []) := by
    intro n
    induction n with
    | zero => intro i hi hn; exact absurd hn (Nat.not_lt_zero _)
    | succ n ih34 =>
      intro i hi hn ls hl
      refine lv_iload hx hb dX7_titles_34 (lv_at hl 4 rfl) ?_
      refine lv_iconst (v := 5) hx hb dX7_titles_36 (by decide) ?_
      refine wk_ge (tgt := 76) hx hb i 5 rfl rfl (by omega) (by omega) dX7_titles_37 (by decide) (fun h4 => ?_) (fun h4 => ?_)
      · refine lv_iload_n hx hb dX7_titles_76 rfl (lv_at hl 3 rfl) ?_
        exact ret 77 ls (tiL π (w.toNatClampNeg) (v.toNatClampNeg) i) (by rw [titlesV, if_pos hne, show i = 5 by omega]) dX7_titles_77
      refine lv_aload_n hx hb dX7_titles_40 rfl (lv_at hl 0 rfl) ?_
      refine wg_X7_1 hx hb hts iX7 hown hK hP 0 rfl k1 (v := .ref (p 0)) rfl dX7_titles_41 ?_
      refine wg_X5_4 hx hb hts iX5 hown hK hP 1 rfl k2 (v := .ref (p 4)) rfl dX7_titles_44 ?_
      refine lv_iload_n hx hb dX7_titles_47 rfl (lv_at hl 1 rfl) ?_
      refine wk_aald hx hb hK hP 4 2 rfl rfl rfl w.toNatClampNeg rfl (by omega) (by decide) rfl dX7_titles_48 ?_
      refine lv_iload hx hb dX7_titles_49 (lv_at hl 4 rfl) ?_
      refine wk_ald hx hb hK hP (5 + w.toNatClampNeg) 0 (pageW_row (by omega) (a := (lwW x t p sp a b h g f o k : va_W)) (b := ([] : va_W)) rfl rfl) rfl i rfl (by omega) (by decide) dX7_titles_51 ?_
      refine lv_aload_n hx hb dX7_titles_52 rfl (lv_at hl 0 rfl) ?_
      refine wg_X7_1 hx hb hts iX7 hown hK hP 0 rfl k1 (v := .ref (p 0)) rfl dX7_titles_53 ?_
      refine wg_X5_4 hx hb hts iX5 hown hK hP 1 rfl k2 (v := .ref (p 4)) rfl dX7_titles_56 ?_
      refine lv_iload_n hx hb dX7_titles_59 rfl (lv_at hl 2 rfl) ?_
      refine wk_aald hx hb hK hP 4 2 rfl rfl rfl v.toNatClampNeg rfl (by omega) (by decide) rfl dX7_titles_60 ?_
      refine lv_iload hx hb dX7_titles_61 (lv_at hl 4 rfl) ?_
      refine wk_ald hx hb hK hP (5 + v.toNatClampNeg) 0 (pageW_row (by omega) (a := (lwW x t p sp a b h g f o k : va_W)) (b := ([] : va_W)) rfl rfl) rfl i rfl (by omega) (by decide) dX7_titles_63 ?_
      refine lv_icmp_ne (tgt := 70) hx hb dX7_titles_64 (by decide) (fun h5 => ?_) (fun h5 => ?_)
      · refine lv_iinc (v := nI (i + 1)) (lv' := [(4, .int (nI (i + 1))), (0, .ref x), (1, .int (nI w.toNatClampNeg)), (2, .int (nI v.toNatClampNeg)), (3, .int (tiL π (w.toNatClampNeg) (v.toNatClampNeg) i))]) hx hb dX7_titles_70 hl (k := 4) rfl (nI_inc i 1) (by decide) rfl (fun ls hl => ?_)
        refine lv_goto (tgt := 34) hx hb dX7_titles_73 (by decide) ?_
        have hl : lv_has ls 5 [(0, .ref x), (1, .int (nI w.toNatClampNeg)), (2, .int (nI v.toNatClampNeg)), (3, .int (tiL π (w.toNatClampNeg) (v.toNatClampNeg) i)), (4, .int (nI (i + 1)))] := lv_sub hl [1, 2, 3, 4, 0] rfl
        have hl := wk_lset (y := tiL π (w.toNatClampNeg) (v.toNatClampNeg) (i + 1)) (lv_sub (l' := [(3, .int (tiL π (w.toNatClampNeg) (v.toNatClampNeg) i)), (0, .ref x), (1, .int (nI w.toNatClampNeg)), (2, .int (nI v.toNatClampNeg)), (4, .int (nI (i + 1)))]) hl [3, 0, 1, 2, 4] rfl) (by first | exact hw0 | exact hv0 | rfl | rw [tiL, if_pos h5] | rw [tiL, if_neg h5])
        have hl : lv_has ls 5 [(0, .ref x), (1, .int (nI w.toNatClampNeg)), (2, .int (nI v.toNatClampNeg)), (3, .int (tiL π (w.toNatClampNeg) (v.toNatClampNeg) (i + 1))), (4, .int (nI (i + 1)))] := lv_sub hl [1, 2, 3, 0, 4] rfl
        exact ih34 (i + 1) (by omega) (by omega) ls hl
      refine lv_iinc (v := tiL π (w.toNatClampNeg) (v.toNatClampNeg) i + 1) (lv' := [(3, .int (tiL π (w.toNatClampNeg) (v.toNatClampNeg) i + 1)), (0, .ref x), (1, .int (nI w.toNatClampNeg)), (2, .int (nI v.toNatClampNeg)), (4, .int (nI i))]) hx hb dX7_titles_67 hl (k := 3) rfl (rfl) (by decide) rfl (fun ls hl => ?_)
      refine lv_iinc (v := nI (i + 1)) (lv' := [(4, .int (nI (i + 1))), (3, .int (tiL π (w.toNatClampNeg) (v.toNatClampNeg) i + 1)), (0, .ref x), (1, .int (nI w.toNatClampNeg)), (2, .int (nI v.toNatClampNeg))]) hx hb dX7_titles_70 hl (k := 4) rfl (nI_inc i 1) (by decide) rfl (fun ls hl => ?_)
      refine lv_goto (tgt := 34) hx hb dX7_titles_73 (by decide) ?_
      have hl : lv_has ls 5 [(0, .ref x), (1, .int (nI w.toNatClampNeg)), (2, .int (nI v.toNatClampNeg)), (3, .int (tiL π (w.toNatClampNeg) (v.toNatClampNeg) i + 1)), (4, .int (nI (i + 1)))] := lv_sub hl [2, 3, 4, 1, 0] rfl
      have hl := wk_lset (y := tiL π (w.toNatClampNeg) (v.toNatClampNeg) (i + 1)) (lv_sub (l' := [(3, .int (tiL π (w.toNatClampNeg) (v.toNatClampNeg) i + 1)), (0, .ref x), (1, .int (nI w.toNatClampNeg)), (2, .int (nI v.toNatClampNeg)), (4, .int (nI (i + 1)))]) hl [3, 0, 1, 2, 4] rfl) (by first | exact hw0 | exact hv0 | rfl | rw [tiL, if_pos h5] | rw [tiL, if_neg h5])
      have hl : lv_has ls 5 [(0, .ref x), (1, .int (nI w.toNatClampNeg)), (2, .int (nI v.toNatClampNeg)), (3, .int (tiL π (w.toNatClampNeg) (v.toNatClampNeg) (i + 1))), (4, .int (nI (i + 1)))] := lv_sub hl [1, 2, 3, 0, 4] rfl
      exact ih34 (i + 1) (by omega) (by omega) ls hl
  have hl : lv_has ls 5 [(0, .ref x), (1, .int w), (2, .int v), (3, .int 0), (4, .int 0)] := lv_sub hl [2, 3, 4, 1, 0] rfl
  have hl := wk_lset (y := nI w.toNatClampNeg) (lv_sub (l' := [(1, .int w), (0, .ref x), (2, .int v), (3, .int 0), (4, .int 0)]) hl [1, 0, 2, 3, 4] rfl) (by first | exact hw0 | exact hv0 | rfl | rw [tiL, if_pos h3] | rw [tiL, if_neg h3])
  have hl : lv_has ls 5 [(0, .ref x), (1, .int (nI w.toNatClampNeg)), (2, .int v), (3, .int 0), (4, .int 0)] := lv_sub hl [1, 0, 2, 3, 4] rfl
  have hl := wk_lset (y := nI v.toNatClampNeg) (lv_sub (l' := [(2, .int v), (0, .ref x), (1, .int (nI w.toNatClampNeg)), (3, .int 0), (4, .int 0)]) hl [2, 0, 1, 3, 4] rfl) (by first | exact hw0 | exact hv0 | rfl | rw [tiL, if_pos h3] | rw [tiL, if_neg h3])
  have hl : lv_has ls 5 [(0, .ref x), (1, .int (nI w.toNatClampNeg)), (2, .int (nI v.toNatClampNeg)), (3, .int 0), (4, .int 0)] := lv_sub hl [1, 2, 0, 3, 4] rfl
  have hl := wk_lset (y := tiL π (w.toNatClampNeg) (v.toNatClampNeg) 0) (lv_sub (l' := [(3, .int 0), (0, .ref x), (1, .int (nI w.toNatClampNeg)), (2, .int (nI v.toNatClampNeg)), (4, .int 0)]) hl [3, 0, 1, 2, 4] rfl) (by first | exact hw0 | exact hv0 | rfl | rw [tiL, if_pos h3] | rw [tiL, if_neg h3])
  have hl : lv_has ls 5 [(0, .ref x), (1, .int (nI w.toNatClampNeg)), (2, .int (nI v.toNatClampNeg)), (3, .int (tiL π (w.toNatClampNeg) (v.toNatClampNeg) 0)), (4, .int 0)] := lv_sub hl [1, 2, 3, 0, 4] rfl
  have hl := wk_lset (y := nI 0) (lv_sub (l' := [(4, .int 0), (0, .ref x), (1, .int (nI w.toNatClampNeg)), (2, .int (nI v.toNatClampNeg)), (3, .int (tiL π (w.toNatClampNeg) (v.toNatClampNeg) 0))]) hl [4, 0, 1, 2, 3] rfl) (by first | exact hw0 | exact hv0 | rfl | rw [tiL, if_pos h3] | rw [tiL, if_neg h3])
  have hl : lv_has ls 5 [(0, .ref x), (1, .int (nI w.toNatClampNeg)), (2, .int (nI v.toNatClampNeg)), (3, .int (tiL π (w.toNatClampNeg) (v.toNatClampNeg) 0)), (4, .int (nI 0))] := lv_sub hl [1, 2, 3, 4, 0] rfl
  exact lp34 _ 0 (by omega) (Nat.lt_succ_self _) ls hl

abbrev rmX7_rateOfWriter : Room := { frames := 0, cells := 0, slots := 0, locals := 0 }
theorem hd_X7_rateOfWriter : yX7_rateOfWriter.cls = RX7 ∧ yX7_rateOfWriter.cls ≠ "java/lang/invoke/MethodHandle" ∧ yX7_rateOfWriter.cls ≠ "java/lang/invoke/VarHandle" ∧ (parseMethodDescriptor yX7_rateOfWriter.desc).map (fun d => d.parameters.length) = some 1 := by decide +kernel
set_option maxHeartbeats 4000000 in
set_option maxRecDepth 100000 in
theorem c_X7_rateOfWriter (l : Launch) (D : va_G) (c : Nat → ClassId) (x : Nat) (t : Nat → Nat) (p : Nat → Nat) (sp : Nat → Nat) (a : Nat → Nat) (b : Nat → Nat) (h : Nat → Nat) (g : Nat → Nat) (f : Nat → Nat) (o : Nat → Nat) (k : Int64) (π : Nat → Nat → Int32) (w : Int32) (hw : ixOK w 6) : wk_UpI l yX7_rateOfWriter wsX7_rateOfWriter rmX7_rateOfWriter D (tysL c) [.ref x, .int w] (lwW x t p sp a b h g f o k ++ pageW c p π) (lwW x t p sp a b h g f o (k + 1) ++ pageW c p π) (π 2 (tn w)) := by
  refine wk_mkU (cc := cX7_rateOfWriter) (maxL := 2) (rt := .int) (by decide) rfl (Nat.le_of_ble_eq_true rfl) rfl ?_
  intro A pr ev ss mm args below meth cd ls H H0 locs Q hst hP hK hD hS hA hl ret
  obtain ⟨hx, hb, hml, hown, hts, -⟩ := hst
  have hown : ss.vm.findClass RX7 = some mm.cls := hown
  have hl : lv_has ls 2 [(0, .ref x), (1, .int w)] := hl
  have k1 := hts (.fieldLink RX7 273 "LastWord" "asked" "J") (List.mem_of_getElem? (i := 1) rfl)
  have k2 := hts (.fieldLink RX7 19 "LastWord" "page" "LLastWord$Page;") (List.mem_of_getElem? (i := 2) rfl)
  have k3 := hts (.fieldLink RX7 89 "LastWord$Page" "pen" "[I") (List.mem_of_getElem? (i := 3) rfl)
  have iX5 : ∀ w ∈ u_ws RX5 TX5 5, w ∈ wsX7_rateOfWriter := fun _ h => (List.mem_cons_of_mem _ (List.mem_append_right _ h))
  have iX7 : ∀ w ∈ u_ws RX7 TX7 10, w ∈ wsX7_rateOfWriter := fun _ h => (List.mem_cons_of_mem _ (List.mem_append_left _ (List.mem_append_right _ h)))
  refine lv_aload_n hx hb dX7_rateOfWriter_0 rfl (lv_at hl 0 rfl) ?_
  refine lv_dup hx hb dX7_rateOfWriter_1 rfl ?_
  refine wg_X7_9 hx hb hts iX7 hown hK hP 0 rfl k1 (v := .long k) rfl dX7_rateOfWriter_2 ?_
  refine lv_lconst (v := 1) hx hb dX7_rateOfWriter_5 (by decide) ?_
  refine lv_ladd hx hb dX7_rateOfWriter_6 ?_
  refine wp_X7_9 hx hb hts iX7 hown hK hP hD hS 0 rfl k1 (Nat.le_of_ble_eq_true rfl) dX7_rateOfWriter_7 (ws' := lwW x t p sp a b h g f o (k + 1) ++ pageW c p π) rfl (fun H locs hP hD hS => ?_)
  refine lv_aload_n hx hb dX7_rateOfWriter_10 rfl (lv_at hl 0 rfl) ?_
  refine wg_X7_1 hx hb hts iX7 hown hK hP 0 rfl k2 (v := .ref (p 0)) rfl dX7_rateOfWriter_11 ?_
  refine wg_X5_2 hx hb hts iX5 hown hK hP 1 rfl k3 (v := .ref (p 2)) rfl dX7_rateOfWriter_14 ?_
  refine lv_iload_n hx hb dX7_rateOfWriter_17 rfl (lv_at hl 1 rfl) ?_
  refine wk_ald (f := π 2) hx hb hK hP 2 0 rfl rfl w.toNatClampNeg (hw.1) (hw.2) (by decide) dX7_rateOfWriter_18 ?_
  exact ret 19 ls H _ (π 2 w.toNatClampNeg) (by rfl) hP hS dX7_rateOfWriter_19

abbrev rmX7_rateOfColonel : Room := { frames := 2, cells := 0, slots := 0, locals := 44 }
theorem hd_X7_rateOfColonel : yX7_rateOfColonel.cls = RX7 ∧ yX7_rateOfColonel.cls ≠ "java/lang/invoke/MethodHandle" ∧ yX7_rateOfColonel.cls ≠ "java/lang/invoke/VarHandle" ∧ (parseMethodDescriptor yX7_rateOfColonel.desc).map (fun d => d.parameters.length) = some 1 := by decide +kernel
set_option maxHeartbeats 4000000 in
set_option maxRecDepth 100000 in
theorem c_X7_rateOfColonel (l : Launch) (D : va_G) (c : Nat → ClassId) (x : Nat) (t : Nat → Nat) (p : Nat → Nat) (sp : Nat → Nat) (a : Nat → Nat) (b : Nat → Nat) (h : Nat → Nat) (g : Nat → Nat) (f : Nat → Nat) (o : Nat → Nat) (k : Int64) (π : Nat → Nat → Int32) (σ : Nat → Nat → Int32) (w : Int32) (hw : ixOK w 6) (hq : wfQ σ) : wk_UpI l yX7_rateOfColonel wsX7_rateOfColonel rmX7_rateOfColonel D (tysL c) [.ref x, .int w] (lwW x t p sp a b h g f o k ++ pageW c p π ++ affW c a σ) (lwW x t p sp a b h g f o (k + 10 + 1) ++ pageW c p π ++ affW c a σ) (π 2 (tn w) + bcF (obL (σ 8) w (nQ σ))) := by
  refine wk_mkU (cc := cX7_rateOfColonel) (maxL := 2) (rt := .int) (by decide) rfl (Nat.le_of_ble_eq_true rfl) rfl ?_
  intro A pr ev ss mm args below meth cd ls H H0 locs Q hst hP hK hD hS hA hl ret
  obtain ⟨hx, hb, hml, hown, hts, -⟩ := hst
  have hown : ss.vm.findClass RX7 = some mm.cls := hown
  have hl : lv_has ls 2 [(0, .ref x), (1, .int w)] := hl
  have k1 := hts (.fieldLink RX7 273 "LastWord" "asked" "J") (List.mem_of_getElem? (i := 1) rfl)
  have k2 := hts (.constantLong RX7 277 (10)) (List.mem_of_getElem? (i := 2) rfl)
  have k3 := hts (.fieldLink RX7 29 "LastWord" "affairs" "LLastWord$Affairs;") (List.mem_of_getElem? (i := 3) rfl)
  have iX7 : ∀ w ∈ u_ws RX7 TX7 10, w ∈ wsX7_rateOfColonel := fun _ h => (List.mem_cons_of_mem _ (List.mem_append_left _ (List.mem_append_left _ (List.mem_append_right _ h))))
  refine lv_aload_n hx hb dX7_rateOfColonel_0 rfl (lv_at hl 0 rfl) ?_
  refine lv_dup hx hb dX7_rateOfColonel_1 rfl ?_
  refine wg_X7_9 hx hb hts iX7 hown hK hP 0 rfl k1 (v := .long k) rfl dX7_rateOfColonel_2 ?_
  refine lv_ldc2 hx hb hown k2 dX7_rateOfColonel_5 ?_
  refine lv_ladd hx hb dX7_rateOfColonel_8 ?_
  refine wp_X7_9 hx hb hts iX7 hown hK hP hD hS 0 rfl k1 (Nat.le_of_ble_eq_true rfl) dX7_rateOfColonel_9 (ws' := lwW x t p sp a b h g f o (k + 10) ++ pageW c p π ++ affW c a σ) rfl (fun H locs hP hD hS => ?_)
  refine lv_aload_n hx hb dX7_rateOfColonel_12 rfl (lv_at hl 0 rfl) ?_
  refine lv_iload_n hx hb dX7_rateOfColonel_13 rfl (lv_at hl 1 rfl) ?_
  refine wk_callUV (As := [.int w]) (rest := []) ⟨hx, hb, hml, hown, hts⟩ (c_X7_rateOfWriter l D c x t p sp a b h g f o (k + 10) π w (hw)) (cwV 1 hts gX7_rateOfColonel_X7_rateOfWriter rfl rfl rfl hd_X7_rateOfWriter ⟨Nat.le_of_ble_eq_true rfl, Nat.le_of_ble_eq_true rfl⟩) hK hP hD hS hA [0, 1, 2, 3, 4, 5, 6, 7, 8, 9, 10] [11, 12, 13, 14, 15, 16, 17, 18] 19 rfl rfl [x, p 0, p 2, p 3, p 4, p (5 + 0), p (5 + 1), p (5 + 2), p (5 + 3), p (5 + 4), p (5 + 5)] rfl rfl (ws' := lwW x t p sp a b h g f o ((k + 10) + 1) ++ pageW c p π ++ affW c a σ) rfl (wr := affW c a σ) rfl rfl rfl rfl 0 rfl rfl rfl hl.1 rfl (Nat.le_of_ble_eq_true rfl) dX7_rateOfColonel_14 (Nat.zero_le _) (Nat.zero_le _) (fun H locs hP hD hS => ?_)
  refine lv_aload_n hx hb dX7_rateOfColonel_17 rfl (lv_at hl 0 rfl) ?_
  refine wg_X7_3 hx hb hts iX7 hown hK hP 0 rfl k3 (v := .ref (a 0)) rfl dX7_rateOfColonel_18 ?_
  refine lv_iload_n hx hb dX7_rateOfColonel_21 rfl (lv_at hl 1 rfl) ?_
  refine wk_callRV (As := [.int w]) (rest := [.int (π 2 (tn w))]) ⟨hx, hb, hml, hown, hts⟩ (c_X0_owedBy l D c a σ w (hq)) (cwV 1 hts gX7_rateOfColonel_X0_owedBy rfl rfl rfl hd_X0_owedBy ⟨Nat.le_of_ble_eq_true rfl, Nat.le_of_ble_eq_true rfl⟩) hK hP [11, 12, 13, 14, 15, 16, 17, 18] rfl 0 rfl rfl rfl hl.1 rfl (Nat.le_of_ble_eq_true rfl) dX7_rateOfColonel_22 (Nat.zero_le _) (Nat.zero_le _) ?_
  refine lv_iadd hx hb dX7_rateOfColonel_25 ?_
  exact ret 26 ls H _ ((π 2 (tn w)) + (bcF (obL (σ 8) w (nQ σ)))) (by rfl) hP hS dX7_rateOfColonel_26

abbrev rmX7_rateOfDuke : Room := { frames := 1, cells := 0, slots := 0, locals := 21 }
theorem hd_X7_rateOfDuke : yX7_rateOfDuke.cls = RX7 ∧ yX7_rateOfDuke.cls ≠ "java/lang/invoke/MethodHandle" ∧ yX7_rateOfDuke.cls ≠ "java/lang/invoke/VarHandle" ∧ (parseMethodDescriptor yX7_rateOfDuke.desc).map (fun d => d.parameters.length) = some 1 := by decide +kernel
set_option maxHeartbeats 4000000 in
set_option maxRecDepth 100000 in
theorem c_X7_rateOfDuke (l : Launch) (D : va_G) (c : Nat → ClassId) (x : Nat) (t : Nat → Nat) (p : Nat → Nat) (sp : Nat → Nat) (a : Nat → Nat) (b : Nat → Nat) (h : Nat → Nat) (g : Nat → Nat) (f : Nat → Nat) (o : Nat → Nat) (k : Int64) (π : Nat → Nat → Int32) (σ : Nat → Nat → Int32) (w : Int32) (hw : ixOK w 6) : wk_UpI l yX7_rateOfDuke wsX7_rateOfDuke rmX7_rateOfDuke D (tysL c) [.ref x, .int w] (lwW x t p sp a b h g f o k ++ pageW c p π ++ affW c a σ) (lwW x t p sp a b h g f o (k + 100 + 1) ++ pageW c p π ++ affW c a σ) (π 2 (tn w) - σ 4 (tn w)) := by
  refine wk_mkU (cc := cX7_rateOfDuke) (maxL := 2) (rt := .int) (by decide) rfl (Nat.le_of_ble_eq_true rfl) rfl ?_
  intro A pr ev ss mm args below meth cd ls H H0 locs Q hst hP hK hD hS hA hl ret
  obtain ⟨hx, hb, hml, hown, hts, -⟩ := hst
  have hown : ss.vm.findClass RX7 = some mm.cls := hown
  have hl : lv_has ls 2 [(0, .ref x), (1, .int w)] := hl
  have k1 := hts (.fieldLink RX7 273 "LastWord" "asked" "J") (List.mem_of_getElem? (i := 1) rfl)
  have k2 := hts (.constantLong RX7 279 (100)) (List.mem_of_getElem? (i := 2) rfl)
  have k3 := hts (.fieldLink RX7 29 "LastWord" "affairs" "LLastWord$Affairs;") (List.mem_of_getElem? (i := 3) rfl)
  have k4 := hts (.fieldLink RX7 102 "LastWord$Affairs" "lateTimes" "[I") (List.mem_of_getElem? (i := 4) rfl)
  have iX0 : ∀ w ∈ u_ws RX0 TX0 11, w ∈ wsX7_rateOfDuke := fun _ h => (List.mem_cons_of_mem _ (List.mem_append_left _ (List.mem_append_right _ h)))
  have iX7 : ∀ w ∈ u_ws RX7 TX7 10, w ∈ wsX7_rateOfDuke := fun _ h => (List.mem_cons_of_mem _ (List.mem_append_left _ (List.mem_append_left _ (List.mem_append_right _ h))))
  refine lv_aload_n hx hb dX7_rateOfDuke_0 rfl (lv_at hl 0 rfl) ?_
  refine lv_dup hx hb dX7_rateOfDuke_1 rfl ?_
  refine wg_X7_9 hx hb hts iX7 hown hK hP 0 rfl k1 (v := .long k) rfl dX7_rateOfDuke_2 ?_
  refine lv_ldc2 hx hb hown k2 dX7_rateOfDuke_5 ?_
  refine lv_ladd hx hb dX7_rateOfDuke_8 ?_
  refine wp_X7_9 hx hb hts iX7 hown hK hP hD hS 0 rfl k1 (Nat.le_of_ble_eq_true rfl) dX7_rateOfDuke_9 (ws' := lwW x t p sp a b h g f o (k + 100) ++ pageW c p π ++ affW c a σ) rfl (fun H locs hP hD hS => ?_)
  refine lv_aload_n hx hb dX7_rateOfDuke_12 rfl (lv_at hl 0 rfl) ?_
  refine lv_iload_n hx hb dX7_rateOfDuke_13 rfl (lv_at hl 1 rfl) ?_
  refine wk_callUV (As := [.int w]) (rest := []) ⟨hx, hb, hml, hown, hts⟩ (c_X7_rateOfWriter l D c x t p sp a b h g f o (k + 100) π w (hw)) (cwV 1 hts gX7_rateOfDuke_X7_rateOfWriter rfl rfl rfl hd_X7_rateOfWriter ⟨Nat.le_of_ble_eq_true rfl, Nat.le_of_ble_eq_true rfl⟩) hK hP hD hS hA [0, 1, 2, 3, 4, 5, 6, 7, 8, 9, 10] [11, 12, 13, 14, 15, 16, 17, 18] 19 rfl rfl [x, p 0, p 2, p 3, p 4, p (5 + 0), p (5 + 1), p (5 + 2), p (5 + 3), p (5 + 4), p (5 + 5)] rfl rfl (ws' := lwW x t p sp a b h g f o ((k + 100) + 1) ++ pageW c p π ++ affW c a σ) rfl (wr := affW c a σ) rfl rfl rfl rfl 0 rfl rfl rfl hl.1 rfl (Nat.le_of_ble_eq_true rfl) dX7_rateOfDuke_14 (Nat.zero_le _) (Nat.zero_le _) (fun H locs hP hD hS => ?_)
  refine lv_aload_n hx hb dX7_rateOfDuke_17 rfl (lv_at hl 0 rfl) ?_
  refine wg_X7_3 hx hb hts iX7 hown hK hP 0 rfl k3 (v := .ref (a 0)) rfl dX7_rateOfDuke_18 ?_
  refine wg_X0_4 hx hb hts iX0 hown hK hP 11 rfl k4 (v := .ref (a 4)) rfl dX7_rateOfDuke_21 ?_
  refine lv_iload_n hx hb dX7_rateOfDuke_24 rfl (lv_at hl 1 rfl) ?_
  refine wk_ald (f := σ 4) hx hb hK hP 12 0 rfl rfl w.toNatClampNeg (hw.1) (hw.2) (by decide) dX7_rateOfDuke_25 ?_
  refine lv_isub hx hb dX7_rateOfDuke_26 ?_
  exact ret 27 ls H _ ((π 2 (tn w)) - (σ 4 w.toNatClampNeg)) (by rfl) hP hS dX7_rateOfDuke_27

abbrev rmX7_rateOfVicar : Room := { frames := 3, cells := 0, slots := 0, locals := 65 }
theorem hd_X7_rateOfVicar : yX7_rateOfVicar.cls = RX7 ∧ yX7_rateOfVicar.cls ≠ "java/lang/invoke/MethodHandle" ∧ yX7_rateOfVicar.cls ≠ "java/lang/invoke/VarHandle" ∧ (parseMethodDescriptor yX7_rateOfVicar.desc).map (fun d => d.parameters.length) = some 1 := by decide +kernel
set_option maxHeartbeats 4000000 in
set_option maxRecDepth 100000 in
theorem c_X7_rateOfVicar (l : Launch) (D : va_G) (c : Nat → ClassId) (x : Nat) (t : Nat → Nat) (p : Nat → Nat) (sp : Nat → Nat) (a : Nat → Nat) (b : Nat → Nat) (h : Nat → Nat) (g : Nat → Nat) (f : Nat → Nat) (o : Nat → Nat) (k : Int64) (π : Nat → Nat → Int32) (σ : Nat → Nat → Int32) (w : Int32) (hw : ixOK w 6) (hq : wfQ σ) : wk_UpI l yX7_rateOfVicar wsX7_rateOfVicar rmX7_rateOfVicar D (tysL c) [.ref x, .int w] (lwW x t p sp a b h g f o k ++ pageW c p π ++ affW c a σ) (lwW x t p sp a b h g f o (k + 1000 + 10 + 1) ++ pageW c p π ++ affW c a σ) (2 * (π 2 (tn w) + bcF (obL (σ 8) w (nQ σ)))) := by
  refine wk_mkU (cc := cX7_rateOfVicar) (maxL := 2) (rt := .int) (by decide) rfl (Nat.le_of_ble_eq_true rfl) rfl ?_
  intro A pr ev ss mm args below meth cd ls H H0 locs Q hst hP hK hD hS hA hl ret
  obtain ⟨hx, hb, hml, hown, hts, -⟩ := hst
  have hown : ss.vm.findClass RX7 = some mm.cls := hown
  have hl : lv_has ls 2 [(0, .ref x), (1, .int w)] := hl
  have k1 := hts (.fieldLink RX7 273 "LastWord" "asked" "J") (List.mem_of_getElem? (i := 1) rfl)
  have k2 := hts (.constantLong RX7 281 (1000)) (List.mem_of_getElem? (i := 2) rfl)
  have iX7 : ∀ w ∈ u_ws RX7 TX7 10, w ∈ wsX7_rateOfVicar := fun _ h => (List.mem_cons_of_mem _ (List.mem_append_left _ (List.mem_append_left _ (List.mem_append_right _ h))))
  refine lv_aload_n hx hb dX7_rateOfVicar_0 rfl (lv_at hl 0 rfl) ?_
  refine lv_dup hx hb dX7_rateOfVicar_1 rfl ?_
  refine wg_X7_9 hx hb hts iX7 hown hK hP 0 rfl k1 (v := .long k) rfl dX7_rateOfVicar_2 ?_
  refine lv_ldc2 hx hb hown k2 dX7_rateOfVicar_5 ?_
  refine lv_ladd hx hb dX7_rateOfVicar_8 ?_
  refine wp_X7_9 hx hb hts iX7 hown hK hP hD hS 0 rfl k1 (Nat.le_of_ble_eq_true rfl) dX7_rateOfVicar_9 (ws' := lwW x t p sp a b h g f o (k + 1000) ++ pageW c p π ++ affW c a σ) rfl (fun H locs hP hD hS => ?_)
  refine lv_iconst (v := 2) hx hb dX7_rateOfVicar_12 (by decide) ?_
  refine lv_aload_n hx hb dX7_rateOfVicar_13 rfl (lv_at hl 0 rfl) ?_
  refine lv_iload_n hx hb dX7_rateOfVicar_14 rfl (lv_at hl 1 rfl) ?_
  refine wk_callUV (As := [.int w]) (rest := [.int 2]) ⟨hx, hb, hml, hown, hts⟩ (c_X7_rateOfColonel l D c x t p sp a b h g f o (k + 1000) π σ w (hw) (hq)) (cwV 1 hts gX7_rateOfVicar_X7_rateOfColonel rfl rfl rfl hd_X7_rateOfColonel ⟨Nat.le_of_ble_eq_true rfl, Nat.le_of_ble_eq_true rfl⟩) hK hP hD hS hA [0, 1, 2, 3, 4, 5, 6, 7, 8, 9, 10, 11, 12, 13, 14, 15, 16, 17, 18] [] 19 rfl rfl [x, p 0, p 2, p 3, p 4, p (5 + 0), p (5 + 1), p (5 + 2), p (5 + 3), p (5 + 4), p (5 + 5), a 0, a 4, a 5, a 6, a 7, a 8, a 9, a 10] rfl rfl (ws' := lwW x t p sp a b h g f o ((k + 1000) + 10 + 1) ++ pageW c p π ++ affW c a σ) rfl (wr := []) rfl rfl rfl rfl 0 rfl rfl rfl hl.1 rfl (Nat.le_of_ble_eq_true rfl) dX7_rateOfVicar_15 (Nat.zero_le _) (Nat.zero_le _) (fun H locs hP hD hS => ?_)
  refine lv_imul hx hb dX7_rateOfVicar_18 ?_
  exact ret 19 ls H _ (2 * (π 2 (tn w) + bcF (obL (σ 8) w (nQ σ)))) (by rfl) hP hS dX7_rateOfVicar_19

abbrev rmX7_rateOfPoet : Room := { frames := 2, cells := 0, slots := 0, locals := 42 }
theorem hd_X7_rateOfPoet : yX7_rateOfPoet.cls = RX7 ∧ yX7_rateOfPoet.cls ≠ "java/lang/invoke/MethodHandle" ∧ yX7_rateOfPoet.cls ≠ "java/lang/invoke/VarHandle" ∧ (parseMethodDescriptor yX7_rateOfPoet.desc).map (fun d => d.parameters.length) = some 1 := by decide +kernel
set_option maxHeartbeats 4000000 in
set_option maxRecDepth 100000 in
theorem c_X7_rateOfPoet (l : Launch) (D : va_G) (c : Nat → ClassId) (x : Nat) (t : Nat → Nat) (p : Nat → Nat) (sp : Nat → Nat) (a : Nat → Nat) (b : Nat → Nat) (h : Nat → Nat) (g : Nat → Nat) (f : Nat → Nat) (o : Nat → Nat) (k : Int64) (π : Nat → Nat → Int32) (σ : Nat → Nat → Int32) (w : Int32) (hw : ixOK w 6) : wk_UpI l yX7_rateOfPoet wsX7_rateOfPoet rmX7_rateOfPoet D (tysL c) [.ref x, .int w] (lwW x t p sp a b h g f o k ++ pageW c p π ++ affW c a σ) (lwW x t p sp a b h g f o (k + 10000 + 100 + 1) ++ pageW c p π ++ affW c a σ) ((π 2 (tn w) - σ 4 (tn w)) + w) := by
  refine wk_mkU (cc := cX7_rateOfPoet) (maxL := 2) (rt := .int) (by decide) rfl (Nat.le_of_ble_eq_true rfl) rfl ?_
  intro A pr ev ss mm args below meth cd ls H H0 locs Q hst hP hK hD hS hA hl ret
  obtain ⟨hx, hb, hml, hown, hts, -⟩ := hst
  have hown : ss.vm.findClass RX7 = some mm.cls := hown
  have hl : lv_has ls 2 [(0, .ref x), (1, .int w)] := hl
  have k1 := hts (.fieldLink RX7 273 "LastWord" "asked" "J") (List.mem_of_getElem? (i := 1) rfl)
  have k2 := hts (.constantLong RX7 283 (10000)) (List.mem_of_getElem? (i := 2) rfl)
  have iX7 : ∀ w ∈ u_ws RX7 TX7 10, w ∈ wsX7_rateOfPoet := fun _ h => (List.mem_cons_of_mem _ (List.mem_append_left _ (List.mem_append_left _ (List.mem_append_right _ h))))
  refine lv_aload_n hx hb dX7_rateOfPoet_0 rfl (lv_at hl 0 rfl) ?_
  refine lv_dup hx hb dX7_rateOfPoet_1 rfl ?_
  refine wg_X7_9 hx hb hts iX7 hown hK hP 0 rfl k1 (v := .long k) rfl dX7_rateOfPoet_2 ?_
  refine lv_ldc2 hx hb hown k2 dX7_rateOfPoet_5 ?_
  refine lv_ladd hx hb dX7_rateOfPoet_8 ?_
  refine wp_X7_9 hx hb hts iX7 hown hK hP hD hS 0 rfl k1 (Nat.le_of_ble_eq_true rfl) dX7_rateOfPoet_9 (ws' := lwW x t p sp a b h g f o (k + 10000) ++ pageW c p π ++ affW c a σ) rfl (fun H locs hP hD hS => ?_)
  refine lv_aload_n hx hb dX7_rateOfPoet_12 rfl (lv_at hl 0 rfl) ?_
  refine lv_iload_n hx hb dX7_rateOfPoet_13 rfl (lv_at hl 1 rfl) ?_
  refine wk_callUV (As := [.int w]) (rest := []) ⟨hx, hb, hml, hown, hts⟩ (c_X7_rateOfDuke l D c x t p sp a b h g f o (k + 10000) π σ w (hw)) (cwV 1 hts gX7_rateOfPoet_X7_rateOfDuke rfl rfl rfl hd_X7_rateOfDuke ⟨Nat.le_of_ble_eq_true rfl, Nat.le_of_ble_eq_true rfl⟩) hK hP hD hS hA [0, 1, 2, 3, 4, 5, 6, 7, 8, 9, 10, 11, 12, 13, 14, 15, 16, 17, 18] [] 19 rfl rfl [x, p 0, p 2, p 3, p 4, p (5 + 0), p (5 + 1), p (5 + 2), p (5 + 3), p (5 + 4), p (5 + 5), a 0, a 4, a 5, a 6, a 7, a 8, a 9, a 10] rfl rfl (ws' := lwW x t p sp a b h g f o ((k + 10000) + 100 + 1) ++ pageW c p π ++ affW c a σ) rfl (wr := []) rfl rfl rfl rfl 0 rfl rfl rfl hl.1 rfl (Nat.le_of_ble_eq_true rfl) dX7_rateOfPoet_14 (Nat.zero_le _) (Nat.zero_le _) (fun H locs hP hD hS => ?_)
  refine lv_iload_n hx hb dX7_rateOfPoet_17 rfl (lv_at hl 1 rfl) ?_
  refine lv_iadd hx hb dX7_rateOfPoet_18 ?_
  exact ret 19 ls H _ ((π 2 (tn w) - σ 4 (tn w)) + w) (by rfl) hP hS dX7_rateOfPoet_19

abbrev rmX7_rateOfHeir : Room := { frames := 1, cells := 0, slots := 0, locals := 23 }
theorem hd_X7_rateOfHeir : yX7_rateOfHeir.cls = RX7 ∧ yX7_rateOfHeir.cls ≠ "java/lang/invoke/MethodHandle" ∧ yX7_rateOfHeir.cls ≠ "java/lang/invoke/VarHandle" ∧ (parseMethodDescriptor yX7_rateOfHeir.desc).map (fun d => d.parameters.length) = some 1 := by decide +kernel
set_option maxHeartbeats 4000000 in
set_option maxRecDepth 100000 in
theorem c_X7_rateOfHeir (l : Launch) (D : va_G) (c : Nat → ClassId) (x : Nat) (t : Nat → Nat) (p : Nat → Nat) (sp : Nat → Nat) (a : Nat → Nat) (b : Nat → Nat) (h : Nat → Nat) (g : Nat → Nat) (f : Nat → Nat) (o : Nat → Nat) (k : Int64) (π : Nat → Nat → Int32) (σ : Nat → Nat → Int32) (w : Int32) (hw : ixOK w 6) (hq : wfQ σ) : wk_UpI l yX7_rateOfHeir wsX7_rateOfHeir rmX7_rateOfHeir D (tysL c) [.ref x, .int w] (lwW x t p sp a b h g f o k ++ pageW c p π ++ affW c a σ) (lwW x t p sp a b h g f o (k + 100000 + 1) ++ pageW c p π ++ affW c a σ) (π 2 (tn w) + lwL (σ 8) (σ 5) w (nQ σ)) := by
  refine wk_mkU (cc := cX7_rateOfHeir) (maxL := 2) (rt := .int) (by decide) rfl (Nat.le_of_ble_eq_true rfl) rfl ?_
  intro A pr ev ss mm args below meth cd ls H H0 locs Q hst hP hK hD hS hA hl ret
  obtain ⟨hx, hb, hml, hown, hts, -⟩ := hst
  have hown : ss.vm.findClass RX7 = some mm.cls := hown
  have hl : lv_has ls 2 [(0, .ref x), (1, .int w)] := hl
  have k1 := hts (.fieldLink RX7 273 "LastWord" "asked" "J") (List.mem_of_getElem? (i := 1) rfl)
  have k2 := hts (.constantLong RX7 285 (100000)) (List.mem_of_getElem? (i := 2) rfl)
  have k3 := hts (.fieldLink RX7 29 "LastWord" "affairs" "LLastWord$Affairs;") (List.mem_of_getElem? (i := 3) rfl)
  have iX7 : ∀ w ∈ u_ws RX7 TX7 10, w ∈ wsX7_rateOfHeir := fun _ h => (List.mem_cons_of_mem _ (List.mem_append_left _ (List.mem_append_left _ (List.mem_append_right _ h))))
  refine lv_aload_n hx hb dX7_rateOfHeir_0 rfl (lv_at hl 0 rfl) ?_
  refine lv_dup hx hb dX7_rateOfHeir_1 rfl ?_
  refine wg_X7_9 hx hb hts iX7 hown hK hP 0 rfl k1 (v := .long k) rfl dX7_rateOfHeir_2 ?_
  refine lv_ldc2 hx hb hown k2 dX7_rateOfHeir_5 ?_
  refine lv_ladd hx hb dX7_rateOfHeir_8 ?_
  refine wp_X7_9 hx hb hts iX7 hown hK hP hD hS 0 rfl k1 (Nat.le_of_ble_eq_true rfl) dX7_rateOfHeir_9 (ws' := lwW x t p sp a b h g f o (k + 100000) ++ pageW c p π ++ affW c a σ) rfl (fun H locs hP hD hS => ?_)
  refine lv_aload_n hx hb dX7_rateOfHeir_12 rfl (lv_at hl 0 rfl) ?_
  refine lv_iload_n hx hb dX7_rateOfHeir_13 rfl (lv_at hl 1 rfl) ?_
  refine wk_callUV (As := [.int w]) (rest := []) ⟨hx, hb, hml, hown, hts⟩ (c_X7_rateOfWriter l D c x t p sp a b h g f o (k + 100000) π w (hw)) (cwV 1 hts gX7_rateOfHeir_X7_rateOfWriter rfl rfl rfl hd_X7_rateOfWriter ⟨Nat.le_of_ble_eq_true rfl, Nat.le_of_ble_eq_true rfl⟩) hK hP hD hS hA [0, 1, 2, 3, 4, 5, 6, 7, 8, 9, 10] [11, 12, 13, 14, 15, 16, 17, 18] 19 rfl rfl [x, p 0, p 2, p 3, p 4, p (5 + 0), p (5 + 1), p (5 + 2), p (5 + 3), p (5 + 4), p (5 + 5)] rfl rfl (ws' := lwW x t p sp a b h g f o ((k + 100000) + 1) ++ pageW c p π ++ affW c a σ) rfl (wr := affW c a σ) rfl rfl rfl rfl 0 rfl rfl rfl hl.1 rfl (Nat.le_of_ble_eq_true rfl) dX7_rateOfHeir_14 (Nat.zero_le _) (Nat.zero_le _) (fun H locs hP hD hS => ?_)
  refine lv_aload_n hx hb dX7_rateOfHeir_17 rfl (lv_at hl 0 rfl) ?_
  refine wg_X7_3 hx hb hts iX7 hown hK hP 0 rfl k3 (v := .ref (a 0)) rfl dX7_rateOfHeir_18 ?_
  refine lv_iload_n hx hb dX7_rateOfHeir_21 rfl (lv_at hl 1 rfl) ?_
  refine wk_callRV (As := [.int w]) (rest := [.int (π 2 (tn w))]) ⟨hx, hb, hml, hown, hts⟩ (c_X0_lastWordsOf l D c a σ w (hq)) (cwV 1 hts gX7_rateOfHeir_X0_lastWordsOf rfl rfl rfl hd_X0_lastWordsOf ⟨Nat.le_of_ble_eq_true rfl, Nat.le_of_ble_eq_true rfl⟩) hK hP [11, 12, 13, 14, 15, 16, 17, 18] rfl 0 rfl rfl rfl hl.1 rfl (Nat.le_of_ble_eq_true rfl) dX7_rateOfHeir_22 (Nat.zero_le _) (Nat.zero_le _) ?_
  refine lv_iadd hx hb dX7_rateOfHeir_25 ?_
  exact ret 26 ls H _ ((π 2 (tn w)) + (lwL (σ 8) (σ 5) w (nQ σ))) (by rfl) hP hS dX7_rateOfHeir_26

abbrev rmX7_rate : Room := { frames := 4, cells := 0, slots := 0, locals := 86 }
theorem hd_X7_rate : yX7_rate.cls = RX7 ∧ yX7_rate.cls ≠ "java/lang/invoke/MethodHandle" ∧ yX7_rate.cls ≠ "java/lang/invoke/VarHandle" ∧ (parseMethodDescriptor yX7_rate.desc).map (fun d => d.parameters.length) = some 2 := by decide +kernel
set_option maxHeartbeats 4000000 in
set_option maxRecDepth 100000 in
theorem c_X7_rate (l : Launch) (D : va_G) (c : Nat → ClassId) (x : Nat) (t : Nat → Nat) (p : Nat → Nat) (sp : Nat → Nat) (a : Nat → Nat) (b : Nat → Nat) (h : Nat → Nat) (g : Nat → Nat) (f : Nat → Nat) (o : Nat → Nat) (k : Int64) (π : Nat → Nat → Int32) (σ : Nat → Nat → Int32) (d : Int32) (w : Int32) (hn : wfN π) (hq : wfQ σ) : wk_UpI l yX7_rate wsX7_rate rmX7_rate D (tysL c) [.ref x, .int d, .int w] (lwW x t p sp a b h g f o k ++ pageW c p π ++ affW c a σ) (lwW x t p sp a b h g f o (rateK π k d w) ++ pageW c p π ++ affW c a σ) (rateV π σ d w) := by
  refine wk_mkU (cc := cX7_rate) (maxL := 3) (rt := .int) (by decide) rfl (Nat.le_of_ble_eq_true rfl) rfl ?_
  intro A pr ev ss mm args below meth cd ls H H0 locs Q hst hP hK hD hS hA hl ret
  obtain ⟨hx, hb, hml, hown, hts, -⟩ := hst
  have hown : ss.vm.findClass RX7 = some mm.cls := hown
  have hl : lv_has ls 3 [(0, .ref x), (1, .int d), (2, .int w)] := hl
  have k1 := hts (.fieldLink RX7 19 "LastWord" "page" "LLastWord$Page;") (List.mem_of_getElem? (i := 1) rfl)
  have k2 := hts (.constant RX7 237 (-1000000)) (List.mem_of_getElem? (i := 2) rfl)
  have iX7 : ∀ w ∈ u_ws RX7 TX7 10, w ∈ wsX7_rate := fun _ h => (List.mem_cons_of_mem _ (List.mem_append_left _ (List.mem_append_left _ (List.mem_append_right _ h))))
  refine lv_aload_n hx hb dX7_rate_0 rfl (lv_at hl 0 rfl) ?_
  refine wg_X7_1 hx hb hts iX7 hown hK hP 0 rfl k1 (v := .ref (p 0)) rfl dX7_rate_1 ?_
  refine lv_iload_n hx hb dX7_rate_4 rfl (lv_at hl 2 rfl) ?_
  refine wk_callRV (As := [.int w]) (rest := []) ⟨hx, hb, hml, hown, hts⟩ (c_X5_hasWriter l D c p π w) (cwV 1 hts gX7_rate_X5_hasWriter rfl rfl rfl hd_X5_hasWriter ⟨Nat.le_of_ble_eq_true rfl, Nat.le_of_ble_eq_true rfl⟩) hK hP [1, 2, 3, 4, 5, 6, 7, 8, 9, 10] rfl 0 rfl rfl rfl hl.1 rfl (Nat.le_of_ble_eq_true rfl) dX7_rate_5 (Nat.zero_le _) (Nat.zero_le _) ?_
  refine wk_bnz (tgt := 14) hx hb dX7_rate_8 (by decide) (fun h1 => ?_) (fun h1 => ?_)
  rotate_left
  · refine lv_ldc hx hb hown k2 dX7_rate_11 ?_
    have ek : k = rateK π k d w := by rw [rateK, if_neg (fun q => absurd q.1 h1)]
    have hP : va_P D vwCl (lwW x t p sp a b h g f o (rateK π k d w) ++ pageW c p π ++ affW c a σ) H := by rw [← ek]; exact hP
    exact ret 13 ls H _ ((-1000000)) (by rw [rateV, if_neg (fun q => absurd q.1 h1)]) hP hS dX7_rate_13
  have hw := ix_mono (wr_ix hn h1) hn.2
  refine lv_iload_n hx hb dX7_rate_14 rfl (lv_at hl 1 rfl) ?_
  rcases wk_sw d 6 (by omega) with hsw | ⟨ksw, hksw, rfl⟩
  · refine lv_tableOut (tgt := 88) hx hb dX7_rate_15 (by omega) (by decide) ?_
    refine lv_ldc hx hb hown k2 dX7_rate_88 ?_
    have ek : k = rateK π k d w := by rw [rateK, if_neg (fun q => by omega)]
    have hP : va_P D vwCl (lwW x t p sp a b h g f o (rateK π k d w) ++ pageW c p π ++ affW c a σ) H := by rw [← ek]; exact hP
    exact ret 90 ls H _ ((-1000000)) (by rw [rateV, if_neg (fun q => by omega)]) hP hS dX7_rate_90
  rcases (show ksw = 0 ∨ ksw = 1 ∨ ksw = 2 ∨ ksw = 3 ∨ ksw = 4 ∨ ksw = 5 by omega) with rfl | rfl | rfl | rfl | rfl | rfl
  · refine lv_tableIn (off := 37) (tgt := 52) hx hb dX7_rate_15 (by decide) (by decide) (by decide) (by decide) ?_
    refine lv_aload_n hx hb dX7_rate_52 rfl (lv_at hl 0 rfl) ?_
    refine lv_iload_n hx hb dX7_rate_53 rfl (lv_at hl 2 rfl) ?_
    refine wk_callUV (As := [.int w]) (rest := []) ⟨hx, hb, hml, hown, hts⟩ (c_X7_rateOfWriter l D c x t p sp a b h g f o k π w (hw)) (cwV 1 hts gX7_rate_X7_rateOfWriter rfl rfl rfl hd_X7_rateOfWriter ⟨Nat.le_of_ble_eq_true rfl, Nat.le_of_ble_eq_true rfl⟩) hK hP hD hS hA [0, 1, 2, 3, 4, 5, 6, 7, 8, 9, 10] [11, 12, 13, 14, 15, 16, 17, 18] 19 rfl rfl [x, p 0, p 2, p 3, p 4, p (5 + 0), p (5 + 1), p (5 + 2), p (5 + 3), p (5 + 4), p (5 + 5)] rfl rfl (ws' := lwW x t p sp a b h g f o (k + 1) ++ pageW c p π ++ affW c a σ) rfl (wr := affW c a σ) rfl rfl rfl rfl 0 rfl rfl rfl hl.1 rfl (Nat.le_of_ble_eq_true rfl) dX7_rate_54 (Nat.zero_le _) (Nat.zero_le _) (fun H locs hP hD hS => ?_)
    have ek : k + 1 = rateK π k (nI 0) w := by rw [rateK, if_pos ⟨h1, by decide, by decide⟩]; rfl
    have hP : va_P D vwCl (lwW x t p sp a b h g f o (rateK π k (nI 0) w) ++ pageW c p π ++ affW c a σ) H := by rw [← ek]; exact hP
    exact ret 57 ls H _ (π 2 (tn w)) (by rw [rateV, if_pos ⟨h1, by decide, by decide⟩]; rfl) hP hS dX7_rate_57
  · refine lv_tableIn (off := 43) (tgt := 58) hx hb dX7_rate_15 (by decide) (by decide) (by decide) (by decide) ?_
    refine lv_aload_n hx hb dX7_rate_58 rfl (lv_at hl 0 rfl) ?_
    refine lv_iload_n hx hb dX7_rate_59 rfl (lv_at hl 2 rfl) ?_
    refine wk_callUV (As := [.int w]) (rest := []) ⟨hx, hb, hml, hown, hts⟩ (c_X7_rateOfColonel l D c x t p sp a b h g f o k π σ w (hw) (hq)) (cwV 1 hts gX7_rate_X7_rateOfColonel rfl rfl rfl hd_X7_rateOfColonel ⟨Nat.le_of_ble_eq_true rfl, Nat.le_of_ble_eq_true rfl⟩) hK hP hD hS hA [0, 1, 2, 3, 4, 5, 6, 7, 8, 9, 10, 11, 12, 13, 14, 15, 16, 17, 18] [] 19 rfl rfl [x, p 0, p 2, p 3, p 4, p (5 + 0), p (5 + 1), p (5 + 2), p (5 + 3), p (5 + 4), p (5 + 5), a 0, a 4, a 5, a 6, a 7, a 8, a 9, a 10] rfl rfl (ws' := lwW x t p sp a b h g f o (k + 10 + 1) ++ pageW c p π ++ affW c a σ) rfl (wr := []) rfl rfl rfl rfl 0 rfl rfl rfl hl.1 rfl (Nat.le_of_ble_eq_true rfl) dX7_rate_60 (Nat.zero_le _) (Nat.zero_le _) (fun H locs hP hD hS => ?_)
    have ek : k + 10 + 1 = rateK π k (nI 1) w := by rw [rateK, if_pos ⟨h1, by decide, by decide⟩]; rfl
    have hP : va_P D vwCl (lwW x t p sp a b h g f o (rateK π k (nI 1) w) ++ pageW c p π ++ affW c a σ) H := by rw [← ek]; exact hP
    exact ret 63 ls H _ (π 2 (tn w) + bcF (obL (σ 8) w (nQ σ))) (by rw [rateV, if_pos ⟨h1, by decide, by decide⟩]; rfl) hP hS dX7_rate_63
  · refine lv_tableIn (off := 49) (tgt := 64) hx hb dX7_rate_15 (by decide) (by decide) (by decide) (by decide) ?_
    refine lv_aload_n hx hb dX7_rate_64 rfl (lv_at hl 0 rfl) ?_
    refine lv_iload_n hx hb dX7_rate_65 rfl (lv_at hl 2 rfl) ?_
    refine wk_callUV (As := [.int w]) (rest := []) ⟨hx, hb, hml, hown, hts⟩ (c_X7_rateOfDuke l D c x t p sp a b h g f o k π σ w (hw)) (cwV 1 hts gX7_rate_X7_rateOfDuke rfl rfl rfl hd_X7_rateOfDuke ⟨Nat.le_of_ble_eq_true rfl, Nat.le_of_ble_eq_true rfl⟩) hK hP hD hS hA [0, 1, 2, 3, 4, 5, 6, 7, 8, 9, 10, 11, 12, 13, 14, 15, 16, 17, 18] [] 19 rfl rfl [x, p 0, p 2, p 3, p 4, p (5 + 0), p (5 + 1), p (5 + 2), p (5 + 3), p (5 + 4), p (5 + 5), a 0, a 4, a 5, a 6, a 7, a 8, a 9, a 10] rfl rfl (ws' := lwW x t p sp a b h g f o (k + 100 + 1) ++ pageW c p π ++ affW c a σ) rfl (wr := []) rfl rfl rfl rfl 0 rfl rfl rfl hl.1 rfl (Nat.le_of_ble_eq_true rfl) dX7_rate_66 (Nat.zero_le _) (Nat.zero_le _) (fun H locs hP hD hS => ?_)
    have ek : k + 100 + 1 = rateK π k (nI 2) w := by rw [rateK, if_pos ⟨h1, by decide, by decide⟩]; rfl
    have hP : va_P D vwCl (lwW x t p sp a b h g f o (rateK π k (nI 2) w) ++ pageW c p π ++ affW c a σ) H := by rw [← ek]; exact hP
    exact ret 69 ls H _ (π 2 (tn w) - σ 4 (tn w)) (by rw [rateV, if_pos ⟨h1, by decide, by decide⟩]; rfl) hP hS dX7_rate_69
  · refine lv_tableIn (off := 55) (tgt := 70) hx hb dX7_rate_15 (by decide) (by decide) (by decide) (by decide) ?_
    refine lv_aload_n hx hb dX7_rate_70 rfl (lv_at hl 0 rfl) ?_
    refine lv_iload_n hx hb dX7_rate_71 rfl (lv_at hl 2 rfl) ?_
    refine wk_callUV (As := [.int w]) (rest := []) ⟨hx, hb, hml, hown, hts⟩ (c_X7_rateOfVicar l D c x t p sp a b h g f o k π σ w (hw) (hq)) (cwV 1 hts gX7_rate_X7_rateOfVicar rfl rfl rfl hd_X7_rateOfVicar ⟨Nat.le_of_ble_eq_true rfl, Nat.le_of_ble_eq_true rfl⟩) hK hP hD hS hA [0, 1, 2, 3, 4, 5, 6, 7, 8, 9, 10, 11, 12, 13, 14, 15, 16, 17, 18] [] 19 rfl rfl [x, p 0, p 2, p 3, p 4, p (5 + 0), p (5 + 1), p (5 + 2), p (5 + 3), p (5 + 4), p (5 + 5), a 0, a 4, a 5, a 6, a 7, a 8, a 9, a 10] rfl rfl (ws' := lwW x t p sp a b h g f o (k + 1000 + 10 + 1) ++ pageW c p π ++ affW c a σ) rfl (wr := []) rfl rfl rfl rfl 0 rfl rfl rfl hl.1 rfl (Nat.le_of_ble_eq_true rfl) dX7_rate_72 (Nat.zero_le _) (Nat.zero_le _) (fun H locs hP hD hS => ?_)
    have ek : k + 1000 + 10 + 1 = rateK π k (nI 3) w := by rw [rateK, if_pos ⟨h1, by decide, by decide⟩]; rfl
    have hP : va_P D vwCl (lwW x t p sp a b h g f o (rateK π k (nI 3) w) ++ pageW c p π ++ affW c a σ) H := by rw [← ek]; exact hP
    exact ret 75 ls H _ (2 * (π 2 (tn w) + bcF (obL (σ 8) w (nQ σ)))) (by rw [rateV, if_pos ⟨h1, by decide, by decide⟩]; rfl) hP hS dX7_rate_75
  · refine lv_tableIn (off := 61) (tgt := 76) hx hb dX7_rate_15 (by decide) (by decide) (by decide) (by decide) ?_
    refine lv_aload_n hx hb dX7_rate_76 rfl (lv_at hl 0 rfl) ?_
    refine lv_iload_n hx hb dX7_rate_77 rfl (lv_at hl 2 rfl) ?_
    refine wk_callUV (As := [.int w]) (rest := []) ⟨hx, hb, hml, hown, hts⟩ (c_X7_rateOfPoet l D c x t p sp a b h g f o k π σ w (hw)) (cwV 1 hts gX7_rate_X7_rateOfPoet rfl rfl rfl hd_X7_rateOfPoet ⟨Nat.le_of_ble_eq_true rfl, Nat.le_of_ble_eq_true rfl⟩) hK hP hD hS hA [0, 1, 2, 3, 4, 5, 6, 7, 8, 9, 10, 11, 12, 13, 14, 15, 16, 17, 18] [] 19 rfl rfl [x, p 0, p 2, p 3, p 4, p (5 + 0), p (5 + 1), p (5 + 2), p (5 + 3), p (5 + 4), p (5 + 5), a 0, a 4, a 5, a 6, a 7, a 8, a 9, a 10] rfl rfl (ws' := lwW x t p sp a b h g f o (k + 10000 + 100 + 1) ++ pageW c p π ++ affW c a σ) rfl (wr := []) rfl rfl rfl rfl 0 rfl rfl rfl hl.1 rfl (Nat.le_of_ble_eq_true rfl) dX7_rate_78 (Nat.zero_le _) (Nat.zero_le _) (fun H locs hP hD hS => ?_)
    have ek : k + 10000 + 100 + 1 = rateK π k (nI 4) w := by rw [rateK, if_pos ⟨h1, by decide, by decide⟩]; rfl
    have hP : va_P D vwCl (lwW x t p sp a b h g f o (rateK π k (nI 4) w) ++ pageW c p π ++ affW c a σ) H := by rw [← ek]; exact hP
    exact ret 81 ls H _ ((π 2 (tn w) - σ 4 (tn w)) + w) (by rw [rateV, if_pos ⟨h1, by decide, by decide⟩]; rfl) hP hS dX7_rate_81
  · refine lv_tableIn (off := 67) (tgt := 82) hx hb dX7_rate_15 (by decide) (by decide) (by decide) (by decide) ?_
    refine lv_aload_n hx hb dX7_rate_82 rfl (lv_at hl 0 rfl) ?_
    refine lv_iload_n hx hb dX7_rate_83 rfl (lv_at hl 2 rfl) ?_
    refine wk_callUV (As := [.int w]) (rest := []) ⟨hx, hb, hml, hown, hts⟩ (c_X7_rateOfHeir l D c x t p sp a b h g f o k π σ w (hw) (hq)) (cwV 1 hts gX7_rate_X7_rateOfHeir rfl rfl rfl hd_X7_rateOfHeir ⟨Nat.le_of_ble_eq_true rfl, Nat.le_of_ble_eq_true rfl⟩) hK hP hD hS hA [0, 1, 2, 3, 4, 5, 6, 7, 8, 9, 10, 11, 12, 13, 14, 15, 16, 17, 18] [] 19 rfl rfl [x, p 0, p 2, p 3, p 4, p (5 + 0), p (5 + 1), p (5 + 2), p (5 + 3), p (5 + 4), p (5 + 5), a 0, a 4, a 5, a 6, a 7, a 8, a 9, a 10] rfl rfl (ws' := lwW x t p sp a b h g f o (k + 100000 + 1) ++ pageW c p π ++ affW c a σ) rfl (wr := []) rfl rfl rfl rfl 0 rfl rfl rfl hl.1 rfl (Nat.le_of_ble_eq_true rfl) dX7_rate_84 (Nat.zero_le _) (Nat.zero_le _) (fun H locs hP hD hS => ?_)
    have ek : k + 100000 + 1 = rateK π k (nI 5) w := by rw [rateK, if_pos ⟨h1, by decide, by decide⟩]; rfl
    have hP : va_P D vwCl (lwW x t p sp a b h g f o (rateK π k (nI 5) w) ++ pageW c p π ++ affW c a σ) H := by rw [← ek]; exact hP
    exact ret 87 ls H _ (π 2 (tn w) + lwL (σ 8) (σ 5) w (nQ σ)) (by rw [rateV, if_pos ⟨h1, by decide, by decide⟩]; rfl) hP hS dX7_rate_87

abbrev rmX7_keep_n : Room := { frames := 1, cells := 0, slots := 0, locals := 21 }
theorem hd_X7_keep : yX7_keep.cls = RX7 ∧ yX7_keep.cls ≠ "java/lang/invoke/MethodHandle" ∧ yX7_keep.cls ≠ "java/lang/invoke/VarHandle" ∧ (parseMethodDescriptor yX7_keep.desc).map (fun d => d.parameters.length) = some 1 := by decide +kernel
set_option maxHeartbeats 4000000 in
set_option maxRecDepth 100000 in
theorem c_X7_keep_n (l : Launch) (D : va_G) (c : Nat → ClassId) (x : Nat) (t : Nat → Nat) (p : Nat → Nat) (sp : Nat → Nat) (a : Nat → Nat) (b : Nat → Nat) (h : Nat → Nat) (g : Nat → Nat) (f : Nat → Nat) (o : Nat → Nat) (k : Int64) (α : Nat → Nat → Int32) (i2 : Int32) (hb0 : ¬ imOK i2) : wk_RdI l yX7_keep wsX7_keep rmX7_keep_n D (tysL c) [.ref x, .int i2] (lwW x t p sp a b h g f o k ++ albumW c g α) (-1) := by
  refine wk_mkR (cc := cX7_keep) (maxL := 2) (rt := .int) (by decide) rfl (Nat.le_of_ble_eq_true rfl) rfl ?_
  intro pr ev ss mm args below meth cd ls H Q hst hP hK hl ret
  obtain ⟨hx, hb, hml, hown, hts, -⟩ := hst
  have hown : ss.vm.findClass RX7 = some mm.cls := hown
  have hl : lv_has ls 2 [(0, .ref x), (1, .int i2)] := hl
  have k1 := hts (.fieldLink RX7 46 "LastWord" "album" "LLastWord$Album;") (List.mem_of_getElem? (i := 1) rfl)
  have iX7 : ∀ w ∈ u_ws RX7 TX7 10, w ∈ wsX7_keep := fun _ h => (List.mem_cons_of_mem _ (List.mem_append_left _ (List.mem_append_left _ (List.mem_append_right _ h))))
  refine lv_aload_n hx hb dX7_keep_0 rfl (lv_at hl 0 rfl) ?_
  refine wg_X7_6 hx hb hts iX7 hown hK hP 0 rfl k1 (v := .ref (g 0)) rfl dX7_keep_1 ?_
  refine lv_iload_n hx hb dX7_keep_4 rfl (lv_at hl 1 rfl) ?_
  refine wk_callRV (As := [.int i2]) (rest := []) ⟨hx, hb, hml, hown, hts⟩ (c_X1_hasPlace l D c g α i2) (cwV 1 hts gX7_keep_X1_hasPlace rfl rfl rfl hd_X1_hasPlace ⟨Nat.le_of_ble_eq_true rfl, Nat.le_of_ble_eq_true rfl⟩) hK hP [1, 2] rfl 0 rfl rfl rfl hl.1 rfl (Nat.le_of_ble_eq_true rfl) dX7_keep_5 (Nat.zero_le _) (Nat.zero_le _) ?_
  refine wk_bnz (tgt := 13) hx hb dX7_keep_8 (by decide) (fun h1 => ?_) (fun h1 => ?_)
  · exact absurd h1 hb0
  refine lv_iconst (v := -1) hx hb dX7_keep_11 (by decide) ?_
  exact ret 12 ls ((-1)) (by rfl) dX7_keep_12

abbrev rmX7_keep_y : Room := { frames := 3, cells := 0, slots := 0, locals := 107 }
set_option maxHeartbeats 4000000 in
set_option maxRecDepth 100000 in
theorem c_X7_keep_y (l : Launch) (D : va_G) (c : Nat → ClassId) (x : Nat) (t : Nat → Nat) (p : Nat → Nat) (sp : Nat → Nat) (a : Nat → Nat) (b : Nat → Nat) (h : Nat → Nat) (g : Nat → Nat) (f : Nat → Nat) (o : Nat → Nat) (k : Int64) (σ : Nat → Nat → Int32) (α : Nat → Nat → Int32) (ρ : Nat → Nat → Int32) (i : Nat) (hi : i < 2) : wk_UpI l yX7_keep wsX7_keep rmX7_keep_y D (tysL c) [.ref x, .int (nI i)] (lwW x t p sp a b h g f o k ++ affW c a σ ++ albumW c g α ++ affW c (subA g i) ρ) (lwW x t p sp a b h g f o k ++ affW c a σ ++ albumW c g (putF α i) ++ affW c (subA g i) σ) (σ 0 0) := by
  refine wk_mkU (cc := cX7_keep) (maxL := 2) (rt := .int) (by decide) rfl (Nat.le_of_ble_eq_true rfl) rfl ?_
  intro A pr ev ss mm args below meth cd ls H H0 locs Q hst hP hK hD hS hA hl ret
  obtain ⟨hx, hb, hml, hown, hts, -⟩ := hst
  have hown : ss.vm.findClass RX7 = some mm.cls := hown
  have hl : lv_has ls 2 [(0, .ref x), (1, .int (nI i))] := hl
  have k1 := hts (.fieldLink RX7 46 "LastWord" "album" "LLastWord$Album;") (List.mem_of_getElem? (i := 1) rfl)
  have k2 := hts (.fieldLink RX7 29 "LastWord" "affairs" "LLastWord$Affairs;") (List.mem_of_getElem? (i := 2) rfl)
  have k3 := hts (.fieldLink RX7 142 "LastWord$Affairs" "today" "I") (List.mem_of_getElem? (i := 3) rfl)
  have iX0 : ∀ w ∈ u_ws RX0 TX0 11, w ∈ wsX7_keep := fun _ h => (List.mem_cons_of_mem _ (List.mem_append_left _ (List.mem_append_right _ h)))
  have iX7 : ∀ w ∈ u_ws RX7 TX7 10, w ∈ wsX7_keep := fun _ h => (List.mem_cons_of_mem _ (List.mem_append_left _ (List.mem_append_left _ (List.mem_append_right _ h))))
  refine lv_aload_n hx hb dX7_keep_0 rfl (lv_at hl 0 rfl) ?_
  refine wg_X7_6 hx hb hts iX7 hown hK hP 0 rfl k1 (v := .ref (g 0)) rfl dX7_keep_1 ?_
  refine lv_iload_n hx hb dX7_keep_4 rfl (lv_at hl 1 rfl) ?_
  refine wk_callRV (As := [.int (nI i)]) (rest := []) ⟨hx, hb, hml, hown, hts⟩ (c_X1_hasPlace l D c g α (nI i)) (cwV 1 hts gX7_keep_X1_hasPlace rfl rfl rfl hd_X1_hasPlace ⟨Nat.le_of_ble_eq_true rfl, Nat.le_of_ble_eq_true rfl⟩) hK hP [9, 10] rfl 0 rfl rfl rfl hl.1 rfl (Nat.le_of_ble_eq_true rfl) dX7_keep_5 (Nat.zero_le _) (Nat.zero_le _) ?_
  refine wk_bnz (tgt := 13) hx hb dX7_keep_8 (by decide) (fun h1 => ?_) (fun h1 => ?_)
  rotate_left
  · exact absurd ⟨nI_pos' (by omega), by rw [show (2 : Int32) = nI 2 from rfl]; exact nI_lt hi (by omega)⟩ h1
  refine lv_aload_n hx hb dX7_keep_13 rfl (lv_at hl 0 rfl) ?_
  refine wg_X7_6 hx hb hts iX7 hown hK hP 0 rfl k1 (v := .ref (g 0)) rfl dX7_keep_14 ?_
  refine lv_iload_n hx hb dX7_keep_17 rfl (lv_at hl 1 rfl) ?_
  refine lv_aload_n hx hb dX7_keep_18 rfl (lv_at hl 0 rfl) ?_
  refine wg_X7_3 hx hb hts iX7 hown hK hP 0 rfl k2 (v := .ref (a 0)) rfl dX7_keep_19 ?_
  refine wk_callVV (As := [.int (nI i), .ref (a 0)]) (rest := []) ⟨hx, hb, hml, hown, hts⟩ (c_X1_put l D c g α ρ a σ i (hi)) (cwV 2 hts gX7_keep_X1_put rfl rfl rfl hd_X1_put ⟨Nat.le_of_ble_eq_true rfl, Nat.le_of_ble_eq_true rfl⟩) hK hP hD hS hA [9, 10, 11, 12, 13, 14, 15, 16, 17, 18, 1, 2, 3, 4, 5, 6, 7, 8] [0] 19 rfl rfl [g 0, g 3, subA g i 0, subA g i 4, subA g i 5, subA g i 6, subA g i 7, subA g i 8, subA g i 9, subA g i 10, a 0, a 4, a 5, a 6, a 7, a 8, a 9, a 10] rfl rfl (ws' := lwW x t p sp a b h g f o k ++ affW c a σ ++ albumW c g (putF α i) ++ affW c (subA g i) σ) rfl (wr := lwW x t p sp a b h g f o k) rfl rfl rfl rfl 0 rfl rfl rfl hl.1 rfl (Nat.le_of_ble_eq_true rfl) dX7_keep_22 (Nat.zero_le _) (Nat.zero_le _) (fun H locs hP hD hS => ?_)
  refine lv_aload_n hx hb dX7_keep_25 rfl (lv_at hl 0 rfl) ?_
  refine wg_X7_3 hx hb hts iX7 hown hK hP 0 rfl k2 (v := .ref (a 0)) rfl dX7_keep_26 ?_
  refine wg_X0_0 hx hb hts iX0 hown hK hP 1 rfl k3 (v := .int (σ 0 0)) rfl dX7_keep_29 ?_
  exact ret 32 ls H _ (σ 0 0) (by rfl) hP hS dX7_keep_32

abbrev rmX7_back_n : Room := { frames := 1, cells := 0, slots := 0, locals := 21 }
theorem hd_X7_back : yX7_back.cls = RX7 ∧ yX7_back.cls ≠ "java/lang/invoke/MethodHandle" ∧ yX7_back.cls ≠ "java/lang/invoke/VarHandle" ∧ (parseMethodDescriptor yX7_back.desc).map (fun d => d.parameters.length) = some 1 := by decide +kernel
set_option maxHeartbeats 4000000 in
set_option maxRecDepth 100000 in
theorem c_X7_back_n (l : Launch) (D : va_G) (c : Nat → ClassId) (x : Nat) (t : Nat → Nat) (p : Nat → Nat) (sp : Nat → Nat) (a : Nat → Nat) (b : Nat → Nat) (h : Nat → Nat) (g : Nat → Nat) (f : Nat → Nat) (o : Nat → Nat) (k : Int64) (α : Nat → Nat → Int32) (i2 : Int32) (hb0 : ¬ imOK i2) : wk_RdI l yX7_back wsX7_back rmX7_back_n D (tysL c) [.ref x, .int i2] (lwW x t p sp a b h g f o k ++ albumW c g α) (-1) := by
  refine wk_mkR (cc := cX7_back) (maxL := 2) (rt := .int) (by decide) rfl (Nat.le_of_ble_eq_true rfl) rfl ?_
  intro pr ev ss mm args below meth cd ls H Q hst hP hK hl ret
  obtain ⟨hx, hb, hml, hown, hts, -⟩ := hst
  have hown : ss.vm.findClass RX7 = some mm.cls := hown
  have hl : lv_has ls 2 [(0, .ref x), (1, .int i2)] := hl
  have k1 := hts (.fieldLink RX7 46 "LastWord" "album" "LLastWord$Album;") (List.mem_of_getElem? (i := 1) rfl)
  have iX7 : ∀ w ∈ u_ws RX7 TX7 10, w ∈ wsX7_back := fun _ h => (List.mem_cons_of_mem _ (List.mem_append_left _ (List.mem_append_left _ (List.mem_append_left _ (List.mem_append_right _ h)))))
  refine lv_aload_n hx hb dX7_back_0 rfl (lv_at hl 0 rfl) ?_
  refine wg_X7_6 hx hb hts iX7 hown hK hP 0 rfl k1 (v := .ref (g 0)) rfl dX7_back_1 ?_
  refine lv_iload_n hx hb dX7_back_4 rfl (lv_at hl 1 rfl) ?_
  refine wk_callRV (As := [.int i2]) (rest := []) ⟨hx, hb, hml, hown, hts⟩ (c_X1_hasPlace l D c g α i2) (cwV 1 hts gX7_back_X1_hasPlace rfl rfl rfl hd_X1_hasPlace ⟨Nat.le_of_ble_eq_true rfl, Nat.le_of_ble_eq_true rfl⟩) hK hP [1, 2] rfl 0 rfl rfl rfl hl.1 rfl (Nat.le_of_ble_eq_true rfl) dX7_back_5 (Nat.zero_le _) (Nat.zero_le _) ?_
  refine wk_bnz (tgt := 13) hx hb dX7_back_8 (by decide) (fun h1 => ?_) (fun h1 => ?_)
  · exact absurd h1 hb0
  refine lv_iconst (v := -1) hx hb dX7_back_11 (by decide) ?_
  exact ret 12 ls ((-1)) (by rfl) dX7_back_12

abbrev rmX7_back_y : Room := { frames := 3, cells := 0, slots := 0, locals := 107 }
set_option maxHeartbeats 4000000 in
set_option maxRecDepth 100000 in
theorem c_X7_back_y (l : Launch) (D : va_G) (c : Nat → ClassId) (x : Nat) (t : Nat → Nat) (p : Nat → Nat) (sp : Nat → Nat) (a : Nat → Nat) (b : Nat → Nat) (h : Nat → Nat) (g : Nat → Nat) (f : Nat → Nat) (o : Nat → Nat) (k : Int64) (σ : Nat → Nat → Int32) (η : Nat → Nat → Int32) (α : Nat → Nat → Int32) (ρ : Nat → Nat → Int32) (i : Nat) (hi : i < 2) : wk_UpI l yX7_back wsX7_back rmX7_back_y D (tysL c) [.ref x, .int (nI i)] (lwW x t p sp a b h g f o k ++ affW c a σ ++ histW c h η ++ albumW c g α ++ affW c (subA g i) ρ) (lwW x t p sp a b h g f o k ++ affW c a (backA α σ ρ i) ++ histW c h (backH α η i) ++ albumW c g α ++ affW c (subA g i) ρ) (backV α ρ i) := by
  refine wk_mkU (cc := cX7_back) (maxL := 2) (rt := .int) (by decide) rfl (Nat.le_of_ble_eq_true rfl) rfl ?_
  intro A pr ev ss mm args below meth cd ls H H0 locs Q hst hP hK hD hS hA hl ret
  obtain ⟨hx, hb, hml, hown, hts, -⟩ := hst
  have hown : ss.vm.findClass RX7 = some mm.cls := hown
  have hl : lv_has ls 2 [(0, .ref x), (1, .int (nI i))] := hl
  have k1 := hts (.fieldLink RX7 46 "LastWord" "album" "LLastWord$Album;") (List.mem_of_getElem? (i := 1) rfl)
  have k2 := hts (.fieldLink RX7 29 "LastWord" "affairs" "LLastWord$Affairs;") (List.mem_of_getElem? (i := 2) rfl)
  have k3 := hts (.fieldLink RX7 39 "LastWord" "history" "LLastWord$History;") (List.mem_of_getElem? (i := 3) rfl)
  have k4 := hts (.fieldLink RX7 142 "LastWord$Affairs" "today" "I") (List.mem_of_getElem? (i := 4) rfl)
  have iX0 : ∀ w ∈ u_ws RX0 TX0 11, w ∈ wsX7_back := fun _ h => (List.mem_cons_of_mem _ (List.mem_append_left _ (List.mem_append_left _ (List.mem_append_right _ h))))
  have iX7 : ∀ w ∈ u_ws RX7 TX7 10, w ∈ wsX7_back := fun _ h => (List.mem_cons_of_mem _ (List.mem_append_left _ (List.mem_append_left _ (List.mem_append_left _ (List.mem_append_right _ h)))))
  refine lv_aload_n hx hb dX7_back_0 rfl (lv_at hl 0 rfl) ?_
  refine wg_X7_6 hx hb hts iX7 hown hK hP 0 rfl k1 (v := .ref (g 0)) rfl dX7_back_1 ?_
  refine lv_iload_n hx hb dX7_back_4 rfl (lv_at hl 1 rfl) ?_
  refine wk_callRV (As := [.int (nI i)]) (rest := []) ⟨hx, hb, hml, hown, hts⟩ (c_X1_hasPlace l D c g α (nI i)) (cwV 1 hts gX7_back_X1_hasPlace rfl rfl rfl hd_X1_hasPlace ⟨Nat.le_of_ble_eq_true rfl, Nat.le_of_ble_eq_true rfl⟩) hK hP [11, 12] rfl 0 rfl rfl rfl hl.1 rfl (Nat.le_of_ble_eq_true rfl) dX7_back_5 (Nat.zero_le _) (Nat.zero_le _) ?_
  refine wk_bnz (tgt := 13) hx hb dX7_back_8 (by decide) (fun h1 => ?_) (fun h1 => ?_)
  rotate_left
  · exact absurd ⟨nI_pos' (by omega), by rw [show (2 : Int32) = nI 2 from rfl]; exact nI_lt hi (by omega)⟩ h1
  refine lv_aload_n hx hb dX7_back_13 rfl (lv_at hl 0 rfl) ?_
  refine wg_X7_6 hx hb hts iX7 hown hK hP 0 rfl k1 (v := .ref (g 0)) rfl dX7_back_14 ?_
  refine lv_iload_n hx hb dX7_back_17 rfl (lv_at hl 1 rfl) ?_
  refine wk_callRV (As := [.int (nI i)]) (rest := []) ⟨hx, hb, hml, hown, hts⟩ (c_X1_isKept l D c g α (nI i)) (cwV 1 hts gX7_back_X1_isKept rfl rfl rfl hd_X1_isKept ⟨Nat.le_of_ble_eq_true rfl, Nat.le_of_ble_eq_true rfl⟩) hK hP [11, 12] rfl 0 rfl rfl rfl hl.1 rfl (Nat.le_of_ble_eq_true rfl) dX7_back_18 (Nat.zero_le _) (Nat.zero_le _) ?_
  refine wk_bnz (tgt := 27) hx hb dX7_back_21 (by decide) (fun h2 => ?_) (fun h2 => ?_)
  rotate_left
  · refine lv_bipush (v := -2) hx hb dX7_back_24 (by decide) ?_
    have eg5 : σ = backA α σ ρ i := by rw [backA, if_neg h2]
    have hP : va_P D vwCl (lwW x t p sp a b h g f o k ++ affW c a (backA α σ ρ i) ++ histW c h η ++ albumW c g α ++ affW c (subA g i) ρ) H := by rw [← eg5]; exact hP
    have hD : va_D A (lwW x t p sp a b h g f o k ++ affW c a (backA α σ ρ i) ++ histW c h η ++ albumW c g α ++ affW c (subA g i) ρ) := by rw [← eg5]; exact hD
    have eg6 : η = backH α η i := by rw [backH, if_neg h2]
    have hP : va_P D vwCl (lwW x t p sp a b h g f o k ++ affW c a (backA α σ ρ i) ++ histW c h (backH α η i) ++ albumW c g α ++ affW c (subA g i) ρ) H := by rw [← eg6]; exact hP
    have hD : va_D A (lwW x t p sp a b h g f o k ++ affW c a (backA α σ ρ i) ++ histW c h (backH α η i) ++ albumW c g α ++ affW c (subA g i) ρ) := by rw [← eg6]; exact hD
    exact ret 26 ls H _ ((-2)) (by rw [backV, if_neg h2]) hP hS dX7_back_26
  refine lv_aload_n hx hb dX7_back_27 rfl (lv_at hl 0 rfl) ?_
  refine wg_X7_6 hx hb hts iX7 hown hK hP 0 rfl k1 (v := .ref (g 0)) rfl dX7_back_28 ?_
  refine lv_iload_n hx hb dX7_back_31 rfl (lv_at hl 1 rfl) ?_
  refine lv_aload_n hx hb dX7_back_32 rfl (lv_at hl 0 rfl) ?_
  refine wg_X7_3 hx hb hts iX7 hown hK hP 0 rfl k2 (v := .ref (a 0)) rfl dX7_back_33 ?_
  refine wk_callVV (As := [.int (nI i), .ref (a 0)]) (rest := []) ⟨hx, hb, hml, hown, hts⟩ (c_X1_take l D c g α ρ a σ i (hi)) (cwV 2 hts gX7_back_X1_take rfl rfl rfl hd_X1_take ⟨Nat.le_of_ble_eq_true rfl, Nat.le_of_ble_eq_true rfl⟩) hK hP hD hS hA [11, 12, 13, 14, 15, 16, 17, 18, 19, 20, 1, 2, 3, 4, 5, 6, 7, 8] [0, 9, 10] 21 rfl rfl [g 0, g 3, subA g i 0, subA g i 4, subA g i 5, subA g i 6, subA g i 7, subA g i 8, subA g i 9, subA g i 10, a 0, a 4, a 5, a 6, a 7, a 8, a 9, a 10] rfl rfl (ws' := lwW x t p sp a b h g f o k ++ affW c a ρ ++ histW c h η ++ albumW c g α ++ affW c (subA g i) ρ) rfl (wr := lwW x t p sp a b h g f o k ++ histW c h η) rfl rfl rfl rfl 0 rfl rfl rfl hl.1 rfl (Nat.le_of_ble_eq_true rfl) dX7_back_36 (Nat.zero_le _) (Nat.zero_le _) (fun H locs hP hD hS => ?_)
  refine lv_aload_n hx hb dX7_back_39 rfl (lv_at hl 0 rfl) ?_
  refine wg_X7_5 hx hb hts iX7 hown hK hP 0 rfl k3 (v := .ref (h 0)) rfl dX7_back_40 ?_
  refine wk_callVV (As := []) (rest := []) ⟨hx, hb, hml, hown, hts⟩ (c_X4_drop l D c h η) (cwV 0 hts gX7_back_X4_drop rfl rfl rfl hd_X4_drop ⟨Nat.le_of_ble_eq_true rfl, Nat.le_of_ble_eq_true rfl⟩) hK hP hD hS hA [9, 10] [0, 1, 2, 3, 4, 5, 6, 7, 8, 11, 12, 13, 14, 15, 16, 17, 18, 19, 20] 21 rfl rfl [h 0, h 3] rfl rfl (ws' := lwW x t p sp a b h g f o k ++ affW c a ρ ++ histW c h (hdropF η) ++ albumW c g α ++ affW c (subA g i) ρ) rfl (wr := lwW x t p sp a b h g f o k ++ affW c a ρ ++ albumW c g α ++ affW c (subA g i) ρ) rfl rfl rfl rfl 0 rfl rfl rfl hl.1 rfl (Nat.le_of_ble_eq_true rfl) dX7_back_43 (Nat.zero_le _) (Nat.zero_le _) (fun H locs hP hD hS => ?_)
  refine lv_aload_n hx hb dX7_back_46 rfl (lv_at hl 0 rfl) ?_
  refine wg_X7_3 hx hb hts iX7 hown hK hP 0 rfl k2 (v := .ref (a 0)) rfl dX7_back_47 ?_
  refine wg_X0_0 hx hb hts iX0 hown hK hP 1 rfl k4 (v := .int (ρ 0 0)) rfl dX7_back_50 ?_
  have eg3 : ρ = backA α σ ρ i := by rw [backA, if_pos h2]
  have hP : va_P D vwCl (lwW x t p sp a b h g f o k ++ affW c a (backA α σ ρ i) ++ histW c h (hdropF η) ++ albumW c g α ++ affW c (subA g i) ρ) H := by rw [← eg3]; exact hP
  have hD : va_D A (lwW x t p sp a b h g f o k ++ affW c a (backA α σ ρ i) ++ histW c h (hdropF η) ++ albumW c g α ++ affW c (subA g i) ρ) := by rw [← eg3]; exact hD
  have eg4 : hdropF η = backH α η i := by rw [backH, if_pos h2]
  have hP : va_P D vwCl (lwW x t p sp a b h g f o k ++ affW c a (backA α σ ρ i) ++ histW c h (backH α η i) ++ albumW c g α ++ affW c (subA g i) ρ) H := by rw [← eg4]; exact hP
  have hD : va_D A (lwW x t p sp a b h g f o k ++ affW c a (backA α σ ρ i) ++ histW c h (backH α η i) ++ albumW c g α ++ affW c (subA g i) ρ) := by rw [← eg4]; exact hD
  exact ret 53 ls H _ (ρ 0 0) (by rw [backV, if_pos h2]) hP hS dX7_back_53

abbrev rmX7_count : Room := { frames := 0, cells := 0, slots := 0, locals := 0 }
theorem hd_X7_count : yX7_count.cls = RX7 ∧ yX7_count.cls ≠ "java/lang/invoke/MethodHandle" ∧ yX7_count.cls ≠ "java/lang/invoke/VarHandle" ∧ (parseMethodDescriptor yX7_count.desc).map (fun d => d.parameters.length) = some 1 := by decide +kernel
set_option maxHeartbeats 4000000 in
set_option maxRecDepth 100000 in
theorem c_X7_count (l : Launch) (D : va_G) (c : Nat → ClassId) (x : Nat) (t : Nat → Nat) (p : Nat → Nat) (sp : Nat → Nat) (a : Nat → Nat) (b : Nat → Nat) (h : Nat → Nat) (g : Nat → Nat) (f : Nat → Nat) (o : Nat → Nat) (k : Int64) (τ : Nat → Nat → Int32) (π : Nat → Nat → Int32) (φ : Nat → Nat → Int32) (x2 : Int32) : wk_RdI l yX7_count wsX7_count rmX7_count D (tysL c) [.ref x, .int x2] (lwW x t p sp a b h g f o k ++ textW c t τ ++ pageW c p π ++ findW c f φ) (countV π τ φ x2) := by
  refine wk_mkR (cc := cX7_count) (maxL := 2) (rt := .int) (by decide) rfl (Nat.le_of_ble_eq_true rfl) rfl ?_
  intro pr ev ss mm args below meth cd ls H Q hst hP hK hl ret
  obtain ⟨hx, hb, hml, hown, hts, -⟩ := hst
  have hown : ss.vm.findClass RX7 = some mm.cls := hown
  have hl : lv_has ls 2 [(0, .ref x), (1, .int x2)] := hl
  have k1 := hts (.fieldLink RX7 19 "LastWord" "page" "LLastWord$Page;") (List.mem_of_getElem? (i := 1) rfl)
  have k2 := hts (.fieldLink RX7 231 "LastWord$Page" "writers" "I") (List.mem_of_getElem? (i := 2) rfl)
  have k3 := hts (.fieldLink RX7 203 "LastWord$Page" "term" "I") (List.mem_of_getElem? (i := 3) rfl)
  have k4 := hts (.fieldLink RX7 53 "LastWord" "findings" "LLastWord$Findings;") (List.mem_of_getElem? (i := 4) rfl)
  have k5 := hts (.fieldLink RX7 269 "LastWord$Findings" "many" "I") (List.mem_of_getElem? (i := 5) rfl)
  have k6 := hts (.fieldLink RX7 12 "LastWord" "text" "LLastWord$Text;") (List.mem_of_getElem? (i := 6) rfl)
  have k7 := hts (.fieldLink RX7 272 "LastWord$Text" "length" "I") (List.mem_of_getElem? (i := 7) rfl)
  have iX3 : ∀ w ∈ u_ws RX3 TX3 4, w ∈ wsX7_count := fun _ h => (List.mem_cons_of_mem _ (List.mem_append_left _ (List.mem_append_right _ h)))
  have iX5 : ∀ w ∈ u_ws RX5 TX5 5, w ∈ wsX7_count := fun _ h => (List.mem_cons_of_mem _ (List.mem_append_left _ (List.mem_append_left _ (List.mem_append_right _ h))))
  have iX6 : ∀ w ∈ u_ws RX6 TX6 7, w ∈ wsX7_count := fun _ h => (List.mem_cons_of_mem _ (List.mem_append_right _ h))
  have iX7 : ∀ w ∈ u_ws RX7 TX7 10, w ∈ wsX7_count := fun _ h => (List.mem_cons_of_mem _ (List.mem_append_left _ (List.mem_append_left _ (List.mem_append_left _ (List.mem_append_right _ h)))))
  refine lv_iload_n hx hb dX7_count_0 rfl (lv_at hl 1 rfl) ?_
  rcases wk_sw x2 4 (by omega) with hsw | ⟨ksw, hksw, rfl⟩
  · refine lv_tableOut (tgt := 64) hx hb dX7_count_1 (by omega) (by decide) ?_
    refine lv_iconst (v := -1) hx hb dX7_count_64 (by decide) ?_
    exact ret 65 ls ((-1)) (by rw [countV, if_neg (fun q => by omega)]) dX7_count_65
  rcases (show ksw = 0 ∨ ksw = 1 ∨ ksw = 2 ∨ ksw = 3 by omega) with rfl | rfl | rfl | rfl
  · refine lv_tableIn (off := 31) (tgt := 32) hx hb dX7_count_1 (by decide) (by decide) (by decide) (by decide) ?_
    refine lv_aload_n hx hb dX7_count_32 rfl (lv_at hl 0 rfl) ?_
    refine wg_X7_1 hx hb hts iX7 hown hK hP 0 rfl k1 (v := .ref (p 0)) rfl dX7_count_33 ?_
    refine wg_X5_0 hx hb hts iX5 hown hK hP 3 rfl k2 (v := .int (π 0 0)) rfl dX7_count_36 ?_
    exact ret 39 ls (π 0 0) (by rw [countV, if_pos ⟨by decide, by decide⟩]; rfl) dX7_count_39
  · refine lv_tableIn (off := 39) (tgt := 40) hx hb dX7_count_1 (by decide) (by decide) (by decide) (by decide) ?_
    refine lv_aload_n hx hb dX7_count_40 rfl (lv_at hl 0 rfl) ?_
    refine wg_X7_1 hx hb hts iX7 hown hK hP 0 rfl k1 (v := .ref (p 0)) rfl dX7_count_41 ?_
    refine wg_X5_1 hx hb hts iX5 hown hK hP 3 rfl k3 (v := .int (π 1 0)) rfl dX7_count_44 ?_
    exact ret 47 ls (π 1 0) (by rw [countV, if_pos ⟨by decide, by decide⟩]; rfl) dX7_count_47
  · refine lv_tableIn (off := 47) (tgt := 48) hx hb dX7_count_1 (by decide) (by decide) (by decide) (by decide) ?_
    refine lv_aload_n hx hb dX7_count_48 rfl (lv_at hl 0 rfl) ?_
    refine wg_X7_7 hx hb hts iX7 hown hK hP 0 rfl k4 (v := .ref (f 0)) rfl dX7_count_49 ?_
    refine wg_X3_0 hx hb hts iX3 hown hK hP 13 rfl k5 (v := .int (φ 0 0)) rfl dX7_count_52 ?_
    exact ret 55 ls (φ 0 0) (by rw [countV, if_pos ⟨by decide, by decide⟩]; rfl) dX7_count_55
  · refine lv_tableIn (off := 55) (tgt := 56) hx hb dX7_count_1 (by decide) (by decide) (by decide) (by decide) ?_
    refine lv_aload_n hx hb dX7_count_56 rfl (lv_at hl 0 rfl) ?_
    refine wg_X7_0 hx hb hts iX7 hown hK hP 0 rfl k6 (v := .ref (t 0)) rfl dX7_count_57 ?_
    refine wg_X6_1 hx hb hts iX6 hown hK hP 1 rfl k7 (v := .int (τ 1 0)) rfl dX7_count_60 ?_
    exact ret 63 ls (τ 1 0) (by rw [countV, if_pos ⟨by decide, by decide⟩]; rfl) dX7_count_63

abbrev rmX7_trace : Room := { frames := 0, cells := 0, slots := 0, locals := 0 }
theorem hd_X7_trace : yX7_trace.cls = RX7 ∧ yX7_trace.cls ≠ "java/lang/invoke/MethodHandle" ∧ yX7_trace.cls ≠ "java/lang/invoke/VarHandle" ∧ (parseMethodDescriptor yX7_trace.desc).map (fun d => d.parameters.length) = some 0 := by decide +kernel
set_option maxHeartbeats 4000000 in
set_option maxRecDepth 100000 in
theorem c_X7_trace (l : Launch) (D : va_G) (c : Nat → ClassId) (x : Nat) (t : Nat → Nat) (p : Nat → Nat) (sp : Nat → Nat) (a : Nat → Nat) (b : Nat → Nat) (h : Nat → Nat) (g : Nat → Nat) (f : Nat → Nat) (o : Nat → Nat) (k : Int64) : wk_RdL l yX7_trace wsX7_trace rmX7_trace D (tysL c) [.ref x] (lwW x t p sp a b h g f o k) (k) := by
  refine wk_mkRl (cc := cX7_trace) (maxL := 1) (by decide) rfl (Nat.le_of_ble_eq_true rfl) ?_
  intro pr ev ss mm args below meth cd ls H Q hst hP hK hl ret
  obtain ⟨hx, hb, hml, hown, hts, -⟩ := hst
  have hown : ss.vm.findClass RX7 = some mm.cls := hown
  have hl : lv_has ls 1 [(0, .ref x)] := hl
  have k1 := hts (.fieldLink RX7 273 "LastWord" "asked" "J") (List.mem_of_getElem? (i := 1) rfl)
  have iX7 : ∀ w ∈ u_ws RX7 TX7 10, w ∈ wsX7_trace := fun _ h => (List.mem_cons_of_mem _ (List.mem_append_right _ h))
  refine lv_aload_n hx hb dX7_trace_0 rfl (lv_at hl 0 rfl) ?_
  refine wg_X7_9 hx hb hts iX7 hown hK hP 0 rfl k1 (v := .long k) rfl dX7_trace_1 ?_
  exact ret 4 ls k (by rfl) dX7_trace_4

/-! ===== LastWord, walked: the paper, what is done ===== -/
abbrev rmX7_mayStand : Room := { frames := 1, cells := 0, slots := 0, locals := 21 }
theorem hd_X7_mayStand : yX7_mayStand.cls = RX7 ∧ yX7_mayStand.cls ≠ "java/lang/invoke/MethodHandle" ∧ yX7_mayStand.cls ≠ "java/lang/invoke/VarHandle" ∧ (parseMethodDescriptor yX7_mayStand.desc).map (fun d => d.parameters.length) = some 2 := by decide +kernel
set_option maxHeartbeats 4000000 in
set_option maxRecDepth 100000 in
theorem c_X7_mayStand (l : Launch) (D : va_G) (c : Nat → ClassId) (x : Nat) (t : Nat → Nat) (p : Nat → Nat) (sp : Nat → Nat) (a : Nat → Nat) (b : Nat → Nat) (h : Nat → Nat) (g : Nat → Nat) (f : Nat → Nat) (o : Nat → Nat) (k : Int64) (π : Nat → Nat → Int32) (w : Int32) (s : Int32) : wk_RdI l yX7_mayStand wsX7_mayStand rmX7_mayStand D (tysL c) [.ref x, .int w, .int s] (lwW x t p sp a b h g f o k ++ pageW c p π) (if isWr π w ∧ isSb s then 1 else 0) := by
  refine wk_mkR (cc := cX7_mayStand) (maxL := 3) (rt := .boolean) (by decide) rfl (Nat.le_of_ble_eq_true rfl) wk_narZ ?_
  intro pr ev ss mm args below meth cd ls H Q hst hP hK hl ret
  obtain ⟨hx, hb, hml, hown, hts, -⟩ := hst
  have hown : ss.vm.findClass RX7 = some mm.cls := hown
  have hl : lv_has ls 3 [(0, .ref x), (1, .int w), (2, .int s)] := hl
  have k1 := hts (.fieldLink RX7 19 "LastWord" "page" "LLastWord$Page;") (List.mem_of_getElem? (i := 1) rfl)
  have iX7 : ∀ w ∈ u_ws RX7 TX7 10, w ∈ wsX7_mayStand := fun _ h => (List.mem_cons_of_mem _ (List.mem_append_left _ (List.mem_append_right _ h)))
  refine lv_aload_n hx hb dX7_mayStand_0 rfl (lv_at hl 0 rfl) ?_
  refine wg_X7_1 hx hb hts iX7 hown hK hP 0 rfl k1 (v := .ref (p 0)) rfl dX7_mayStand_1 ?_
  refine lv_iload_n hx hb dX7_mayStand_4 rfl (lv_at hl 1 rfl) ?_
  refine wk_callRV (As := [.int w]) (rest := []) ⟨hx, hb, hml, hown, hts⟩ (c_X5_hasWriter l D c p π w) (cwV 1 hts gX7_mayStand_X5_hasWriter rfl rfl rfl hd_X5_hasWriter ⟨Nat.le_of_ble_eq_true rfl, Nat.le_of_ble_eq_true rfl⟩) hK hP [1, 2, 3, 4, 5, 6, 7, 8, 9, 10] rfl 0 rfl rfl rfl hl.1 rfl (Nat.le_of_ble_eq_true rfl) dX7_mayStand_5 (Nat.zero_le _) (Nat.zero_le _) ?_
  refine wk_bz (tgt := 24) hx hb dX7_mayStand_8 (by decide) (fun h1 => ?_) (fun h1 => ?_)
  · refine lv_iconst (v := 0) hx hb dX7_mayStand_24 (by decide) ?_
    exact ret 25 ls 0 ((if_neg (fun q => absurd q.1 h1)).symm) dX7_mayStand_25
  refine lv_iload_n hx hb dX7_mayStand_11 rfl (lv_at hl 2 rfl) ?_
  refine lv_if_lt (tgt := 24) hx hb dX7_mayStand_12 (by decide) (fun h2 => ?_) (fun h2 => ?_)
  · refine lv_iconst (v := 0) hx hb dX7_mayStand_24 (by decide) ?_
    exact ret 25 ls 0 ((if_neg (fun q => absurd h2 (Int32.not_lt.mpr q.2.1))).symm) dX7_mayStand_25
  refine lv_iload_n hx hb dX7_mayStand_15 rfl (lv_at hl 2 rfl) ?_
  refine lv_iconst (v := 5) hx hb dX7_mayStand_16 (by decide) ?_
  refine lv_icmp_ge (tgt := 24) hx hb dX7_mayStand_17 (by decide) (fun h3 => ?_) (fun h3 => ?_)
  · refine lv_iconst (v := 0) hx hb dX7_mayStand_24 (by decide) ?_
    exact ret 25 ls 0 ((if_neg (fun q => absurd q.2.2 (Int32.not_lt.mpr h3))).symm) dX7_mayStand_25
  refine lv_iconst (v := 1) hx hb dX7_mayStand_20 (by decide) ?_
  refine lv_goto (tgt := 25) hx hb dX7_mayStand_21 (by decide) ?_
  exact ret 25 ls 1 ((if_pos ⟨h1, Int32.not_lt.mp h2, Int32.not_le.mp h3⟩).symm) dX7_mayStand_25

abbrev rmX7_type : Room := { frames := 1, cells := 0, slots := 0, locals := 21 }
theorem hd_X7_type : yX7_type.cls = RX7 ∧ yX7_type.cls ≠ "java/lang/invoke/MethodHandle" ∧ yX7_type.cls ≠ "java/lang/invoke/VarHandle" ∧ (parseMethodDescriptor yX7_type.desc).map (fun d => d.parameters.length) = some 1 := by decide +kernel
set_option maxHeartbeats 4000000 in
set_option maxRecDepth 100000 in
theorem c_X7_type (l : Launch) (D : va_G) (c : Nat → ClassId) (x : Nat) (t : Nat → Nat) (p : Nat → Nat) (sp : Nat → Nat) (a : Nat → Nat) (b : Nat → Nat) (h : Nat → Nat) (g : Nat → Nat) (f : Nat → Nat) (o : Nat → Nat) (k : Int64) (τ : Nat → Nat → Int32) (x2 : Int32) (hT : wfT τ) : wk_UpI l yX7_type wsX7_type rmX7_type D (tysL c) [.ref x, .int x2] (lwW x t p sp a b h g f o k ++ textW c t τ) (lwW x t p sp a b h g f o k ++ textW c t (typeT τ x2)) (typeV τ x2) := by
  refine wk_mkU (cc := cX7_type) (maxL := 2) (rt := .int) (by decide) rfl (Nat.le_of_ble_eq_true rfl) rfl ?_
  intro A pr ev ss mm args below meth cd ls H H0 locs Q hst hP hK hD hS hA hl ret
  obtain ⟨hx, hb, hml, hown, hts, -⟩ := hst
  have hown : ss.vm.findClass RX7 = some mm.cls := hown
  have hl : lv_has ls 2 [(0, .ref x), (1, .int x2)] := hl
  have k1 := hts (.fieldLink RX7 12 "LastWord" "text" "LLastWord$Text;") (List.mem_of_getElem? (i := 1) rfl)
  have iX7 : ∀ w ∈ u_ws RX7 TX7 10, w ∈ wsX7_type := fun _ h => (List.mem_cons_of_mem _ (List.mem_append_left _ (List.mem_append_right _ h)))
  refine lv_iload_n hx hb dX7_type_0 rfl (lv_at hl 1 rfl) ?_
  refine lv_if_lt (tgt := 11) hx hb dX7_type_1 (by decide) (fun h1 => ?_) (fun h1 => ?_)
  · refine lv_iconst (v := -1) hx hb dX7_type_11 (by decide) ?_
    have eg2 : τ = typeT τ x2 := by rw [typeT, if_neg (fun q => absurd h1 (Int32.not_lt.mpr q.1))]
    have hP : va_P D vwCl (lwW x t p sp a b h g f o k ++ textW c t (typeT τ x2)) H := by rw [← eg2]; exact hP
    have hD : va_D A (lwW x t p sp a b h g f o k ++ textW c t (typeT τ x2)) := by rw [← eg2]; exact hD
    exact ret 12 ls H _ ((-1)) (by rw [typeV, if_neg (fun q => absurd h1 (Int32.not_lt.mpr q.1))]) hP hS dX7_type_12
  refine lv_iload_n hx hb dX7_type_4 rfl (lv_at hl 1 rfl) ?_
  refine lv_sipush (v := 255) hx hb dX7_type_5 (by decide) ?_
  refine lv_icmp_le (tgt := 13) hx hb dX7_type_8 (by decide) (fun h3 => ?_) (fun h3 => ?_)
  rotate_left
  · refine lv_iconst (v := -1) hx hb dX7_type_11 (by decide) ?_
    have eg5 : τ = typeT τ x2 := by rw [typeT, if_neg (fun q => absurd q.2 h3)]
    have hP : va_P D vwCl (lwW x t p sp a b h g f o k ++ textW c t (typeT τ x2)) H := by rw [← eg5]; exact hP
    have hD : va_D A (lwW x t p sp a b h g f o k ++ textW c t (typeT τ x2)) := by rw [← eg5]; exact hD
    exact ret 12 ls H _ ((-1)) (by rw [typeV, if_neg (fun q => absurd q.2 h3)]) hP hS dX7_type_12
  refine lv_aload_n hx hb dX7_type_13 rfl (lv_at hl 0 rfl) ?_
  refine wg_X7_0 hx hb hts iX7 hown hK hP 0 rfl k1 (v := .ref (t 0)) rfl dX7_type_14 ?_
  refine lv_iload_n hx hb dX7_type_17 rfl (lv_at hl 1 rfl) ?_
  refine wk_callUV (As := [.int x2]) (rest := []) ⟨hx, hb, hml, hown, hts⟩ (c_X6_add l D c t τ x2 (hT)) (cwV 1 hts gX7_type_X6_add rfl rfl rfl hd_X6_add ⟨Nat.le_of_ble_eq_true rfl, Nat.le_of_ble_eq_true rfl⟩) hK hP hD hS hA [1, 2] [0] 3 rfl rfl [t 0, t 1] rfl rfl (ws' := lwW x t p sp a b h g f o k ++ textW c t (addT τ x2)) rfl (wr := lwW x t p sp a b h g f o k) rfl rfl rfl rfl 0 rfl rfl rfl hl.1 rfl (Nat.le_of_ble_eq_true rfl) dX7_type_18 (Nat.zero_le _) (Nat.zero_le _) (fun H locs hP hD hS => ?_)
  have eg4 : addT τ x2 = typeT τ x2 := by rw [typeT, if_pos ⟨Int32.not_lt.mp h1, h3⟩]
  have hP : va_P D vwCl (lwW x t p sp a b h g f o k ++ textW c t (typeT τ x2)) H := by rw [← eg4]; exact hP
  have hD : va_D A (lwW x t p sp a b h g f o k ++ textW c t (typeT τ x2)) := by rw [← eg4]; exact hD
  exact ret 21 ls H _ (if lnT τ < 200 then nI (lnT τ + 1) else -3) (by rw [typeV]; exact (if_pos ⟨Int32.not_lt.mp h1, h3⟩).symm) hP hS dX7_type_21

abbrev rmX7_clear : Room := { frames := 1, cells := 0, slots := 0, locals := 21 }
theorem hd_X7_clear : yX7_clear.cls = RX7 ∧ yX7_clear.cls ≠ "java/lang/invoke/MethodHandle" ∧ yX7_clear.cls ≠ "java/lang/invoke/VarHandle" ∧ (parseMethodDescriptor yX7_clear.desc).map (fun d => d.parameters.length) = some 0 := by decide +kernel
set_option maxHeartbeats 4000000 in
set_option maxRecDepth 100000 in
theorem c_X7_clear (l : Launch) (D : va_G) (c : Nat → ClassId) (x : Nat) (t : Nat → Nat) (p : Nat → Nat) (sp : Nat → Nat) (a : Nat → Nat) (b : Nat → Nat) (h : Nat → Nat) (g : Nat → Nat) (f : Nat → Nat) (o : Nat → Nat) (k : Int64) (τ : Nat → Nat → Int32) : wk_UpI l yX7_clear wsX7_clear rmX7_clear D (tysL c) [.ref x] (lwW x t p sp a b h g f o k ++ textW c t τ) (lwW x t p sp a b h g f o k ++ textW c t (emptyT τ)) (τ 1 0) := by
  refine wk_mkU (cc := cX7_clear) (maxL := 1) (rt := .int) (by decide) rfl (Nat.le_of_ble_eq_true rfl) rfl ?_
  intro A pr ev ss mm args below meth cd ls H H0 locs Q hst hP hK hD hS hA hl ret
  obtain ⟨hx, hb, hml, hown, hts, -⟩ := hst
  have hown : ss.vm.findClass RX7 = some mm.cls := hown
  have hl : lv_has ls 1 [(0, .ref x)] := hl
  have k1 := hts (.fieldLink RX7 12 "LastWord" "text" "LLastWord$Text;") (List.mem_of_getElem? (i := 1) rfl)
  have iX7 : ∀ w ∈ u_ws RX7 TX7 10, w ∈ wsX7_clear := fun _ h => (List.mem_cons_of_mem _ (List.mem_append_left _ (List.mem_append_right _ h)))
  refine lv_aload_n hx hb dX7_clear_0 rfl (lv_at hl 0 rfl) ?_
  refine wg_X7_0 hx hb hts iX7 hown hK hP 0 rfl k1 (v := .ref (t 0)) rfl dX7_clear_1 ?_
  refine wk_callUV (As := []) (rest := []) ⟨hx, hb, hml, hown, hts⟩ (c_X6_empty l D c t τ) (cwV 0 hts gX7_clear_X6_empty rfl rfl rfl hd_X6_empty ⟨Nat.le_of_ble_eq_true rfl, Nat.le_of_ble_eq_true rfl⟩) hK hP hD hS hA [1, 2] [0] 3 rfl rfl [t 0, t 1] rfl rfl (ws' := lwW x t p sp a b h g f o k ++ textW c t (emptyT τ)) rfl (wr := lwW x t p sp a b h g f o k) rfl rfl rfl rfl 0 rfl rfl rfl hl.1 rfl (Nat.le_of_ble_eq_true rfl) dX7_clear_4 (Nat.zero_le _) (Nat.zero_le _) (fun H locs hP hD hS => ?_)
  exact ret 7 ls H _ (τ 1 0) (by rfl) hP hS dX7_clear_7

abbrev rmX7_paper_n : Room := { frames := 6, cells := 0, slots := 0, locals := 130 }
theorem hd_X7_paper : yX7_paper.cls = RX7 ∧ yX7_paper.cls ≠ "java/lang/invoke/MethodHandle" ∧ yX7_paper.cls ≠ "java/lang/invoke/VarHandle" ∧ (parseMethodDescriptor yX7_paper.desc).map (fun d => d.parameters.length) = some 0 := by decide +kernel
set_option maxHeartbeats 4000000 in
set_option maxRecDepth 100000 in
theorem c_X7_paper_n (l : Launch) (D : va_G) (c : Nat → ClassId) (x : Nat) (t : Nat → Nat) (p : Nat → Nat) (sp : Nat → Nat) (a : Nat → Nat) (b : Nat → Nat) (h : Nat → Nat) (g : Nat → Nat) (f : Nat → Nat) (o : Nat → Nat) (k : Int64) (τ : Nat → Nat → Int32) (ζ : Nat → Nat → Int32) (hT : wfT τ) (hb0 : papV τ ζ < 0) : wk_UpI l yX7_paper wsX7_paper rmX7_paper_n D (tysL c) [.ref x] (lwW x t p sp a b h g f o k ++ textW c t τ ++ pageW c sp ζ) (lwW x t p sp a b h g f o k ++ textW c t ((papE τ ζ).1) ++ pageW c sp ((papE τ ζ).2)) (papV τ ζ) := by
  refine wk_mkU (cc := cX7_paper) (maxL := 3) (rt := .int) (by decide) rfl (Nat.le_of_ble_eq_true rfl) rfl ?_
  intro A pr ev ss mm args below meth cd ls H H0 locs Q hst hP hK hD hS hA hl ret
  obtain ⟨hx, hb, hml, hown, hts, -⟩ := hst
  have hown : ss.vm.findClass RX7 = some mm.cls := hown
  have hl : lv_has ls 3 [(0, .ref x)] := hl
  have k1 := hts (.fieldLink RX7 12 "LastWord" "text" "LLastWord$Text;") (List.mem_of_getElem? (i := 1) rfl)
  have k2 := hts (.fieldLink RX7 23 "LastWord" "spare" "LLastWord$Page;") (List.mem_of_getElem? (i := 2) rfl)
  have iX7 : ∀ w ∈ u_ws RX7 TX7 10, w ∈ wsX7_paper := fun _ h => (List.mem_cons_of_mem _ (List.mem_append_left _ (List.mem_append_left _ (List.mem_append_left _ (List.mem_append_left _ (List.mem_append_left _ (List.mem_append_left _ (List.mem_append_right _ h))))))))
  refine lv_aload_n hx hb dX7_paper_0 rfl (lv_at hl 0 rfl) ?_
  refine wg_X7_0 hx hb hts iX7 hown hK hP 0 rfl k1 (v := .ref (t 0)) rfl dX7_paper_1 ?_
  refine lv_aload_n hx hb dX7_paper_4 rfl (lv_at hl 0 rfl) ?_
  refine wg_X7_2 hx hb hts iX7 hown hK hP 0 rfl k2 (v := .ref (sp 0)) rfl dX7_paper_5 ?_
  refine wk_callUV (As := [.ref (sp 0)]) (rest := []) ⟨hx, hb, hml, hown, hts⟩ (c_X6_readInto l D c t τ sp ζ (hT)) (cwV 1 hts gX7_paper_X6_readInto rfl rfl rfl hd_X6_readInto ⟨Nat.le_of_ble_eq_true rfl, Nat.le_of_ble_eq_true rfl⟩) hK hP hD hS hA [1, 2, 3, 4, 5, 6, 7, 8, 9, 10, 11, 12] [0] 13 rfl rfl [t 0, t 1, sp 0, sp 2, sp 3, sp 4, sp (5 + 0), sp (5 + 1), sp (5 + 2), sp (5 + 3), sp (5 + 4), sp (5 + 5)] rfl rfl (ws' := lwW x t p sp a b h g f o k ++ textW c t ((riE (ri0 τ) (blankF ζ) 8 0).1) ++ pageW c sp ((riE (ri0 τ) (blankF ζ) 8 0).2)) rfl (wr := lwW x t p sp a b h g f o k) rfl rfl rfl rfl 0 rfl rfl rfl hl.1 rfl (Nat.le_of_ble_eq_true rfl) dX7_paper_8 (Nat.zero_le _) (Nat.zero_le _) (fun H locs hP hD hS => ?_)
  refine lv_topi (fun rv erv => ?_)
  refine lv_istore_n (lv' := [(1, .int rv), (0, .ref x)]) hx hb dX7_paper_11 rfl hl (by decide) rfl (fun ls hl => ?_)
  refine lv_iload_n hx hb dX7_paper_12 rfl (lv_at hl 0 rfl) ?_
  refine lv_if_ge (tgt := 18) hx hb dX7_paper_13 (by decide) (fun q => absurd (erv ▸ hb0) (Int32.not_lt.mpr q)) (fun _ => ?_)
  refine lv_iload_n hx hb dX7_paper_16 rfl (lv_at hl 0 rfl) ?_
  exact ret 17 ls H _ rv (erv) hP hS dX7_paper_17

abbrev rmX7_paper_y : Room := { frames := 6, cells := 0, slots := 0, locals := 130 }
set_option maxHeartbeats 4000000 in
set_option maxRecDepth 100000 in
theorem c_X7_paper_y (l : Launch) (D : va_G) (c : Nat → ClassId) (x : Nat) (t : Nat → Nat) (p : Nat → Nat) (sp : Nat → Nat) (a : Nat → Nat) (b : Nat → Nat) (h : Nat → Nat) (g : Nat → Nat) (f : Nat → Nat) (o : Nat → Nat) (k : Int64) (τ : Nat → Nat → Int32) (π : Nat → Nat → Int32) (ζ : Nat → Nat → Int32) (σ : Nat → Nat → Int32) (η : Nat → Nat → Int32) (α : Nat → Nat → Int32) (φ : Nat → Nat → Int32) (hT : wfT τ) (hb0 : ¬ papV τ ζ < 0) : wk_UpI l yX7_paper wsX7_paper rmX7_paper_y D (tysL c) [.ref x] (lwW x t p sp a b h g f o k ++ textW c t τ ++ pageW c p π ++ pageW c sp ζ ++ affW c a σ ++ histW c h η ++ albumW c g α ++ findW c f φ) (lwW x t sp p a b h g f o k ++ textW c t (emptyT (papE τ ζ).1) ++ pageW c p π ++ pageW c sp ((papE τ ζ).2) ++ affW c a (anewL σ 6) ++ histW c h (hdropF η) ++ albumW c g (hdropF α) ++ findW c f (dropF φ)) (papV τ ζ) := by
  refine wk_mkU (cc := cX7_paper) (maxL := 3) (rt := .int) (by decide) rfl (Nat.le_of_ble_eq_true rfl) rfl ?_
  intro A pr ev ss mm args below meth cd ls H H0 locs Q hst hP hK hD hS hA hl ret
  obtain ⟨hx, hb, hml, hown, hts, -⟩ := hst
  have hown : ss.vm.findClass RX7 = some mm.cls := hown
  have hl : lv_has ls 3 [(0, .ref x)] := hl
  have k1 := hts (.fieldLink RX7 12 "LastWord" "text" "LLastWord$Text;") (List.mem_of_getElem? (i := 1) rfl)
  have k2 := hts (.fieldLink RX7 23 "LastWord" "spare" "LLastWord$Page;") (List.mem_of_getElem? (i := 2) rfl)
  have k3 := hts (.fieldLink RX7 19 "LastWord" "page" "LLastWord$Page;") (List.mem_of_getElem? (i := 3) rfl)
  have k4 := hts (.fieldLink RX7 29 "LastWord" "affairs" "LLastWord$Affairs;") (List.mem_of_getElem? (i := 4) rfl)
  have k5 := hts (.fieldLink RX7 39 "LastWord" "history" "LLastWord$History;") (List.mem_of_getElem? (i := 5) rfl)
  have k6 := hts (.fieldLink RX7 46 "LastWord" "album" "LLastWord$Album;") (List.mem_of_getElem? (i := 6) rfl)
  have k7 := hts (.fieldLink RX7 53 "LastWord" "findings" "LLastWord$Findings;") (List.mem_of_getElem? (i := 7) rfl)
  have iX7 : ∀ w ∈ u_ws RX7 TX7 10, w ∈ wsX7_paper := fun _ h => (List.mem_cons_of_mem _ (List.mem_append_left _ (List.mem_append_left _ (List.mem_append_left _ (List.mem_append_left _ (List.mem_append_left _ (List.mem_append_left _ (List.mem_append_right _ h))))))))
  refine lv_aload_n hx hb dX7_paper_0 rfl (lv_at hl 0 rfl) ?_
  refine wg_X7_0 hx hb hts iX7 hown hK hP 0 rfl k1 (v := .ref (t 0)) rfl dX7_paper_1 ?_
  refine lv_aload_n hx hb dX7_paper_4 rfl (lv_at hl 0 rfl) ?_
  refine wg_X7_2 hx hb hts iX7 hown hK hP 0 rfl k2 (v := .ref (sp 0)) rfl dX7_paper_5 ?_
  refine wk_callUV (As := [.ref (sp 0)]) (rest := []) ⟨hx, hb, hml, hown, hts⟩ (c_X6_readInto l D c t τ sp ζ (hT)) (cwV 1 hts gX7_paper_X6_readInto rfl rfl rfl hd_X6_readInto ⟨Nat.le_of_ble_eq_true rfl, Nat.le_of_ble_eq_true rfl⟩) hK hP hD hS hA [1, 2, 13, 14, 15, 16, 17, 18, 19, 20, 21, 22] [0, 3, 4, 5, 6, 7, 8, 9, 10, 11, 12, 23, 24, 25, 26, 27, 28, 29, 30, 31, 32, 33, 34, 35, 36, 37, 38] 39 rfl rfl [t 0, t 1, sp 0, sp 2, sp 3, sp 4, sp (5 + 0), sp (5 + 1), sp (5 + 2), sp (5 + 3), sp (5 + 4), sp (5 + 5)] rfl rfl (ws' := lwW x t p sp a b h g f o k ++ textW c t ((riE (ri0 τ) (blankF ζ) 8 0).1) ++ pageW c p π ++ pageW c sp ((riE (ri0 τ) (blankF ζ) 8 0).2) ++ affW c a σ ++ histW c h η ++ albumW c g α ++ findW c f φ) rfl (wr := lwW x t p sp a b h g f o k ++ pageW c p π ++ affW c a σ ++ histW c h η ++ albumW c g α ++ findW c f φ) rfl rfl rfl rfl 0 rfl rfl rfl hl.1 rfl (Nat.le_of_ble_eq_true rfl) dX7_paper_8 (Nat.zero_le _) (Nat.zero_le _) (fun H locs hP hD hS => ?_)
  refine lv_topi (fun rv erv => ?_)
  refine lv_istore_n (lv' := [(1, .int rv), (0, .ref x)]) hx hb dX7_paper_11 rfl hl (by decide) rfl (fun ls hl => ?_)
  refine lv_iload_n hx hb dX7_paper_12 rfl (lv_at hl 0 rfl) ?_
  refine lv_if_ge (tgt := 18) hx hb dX7_paper_13 (by decide) (fun _ => ?_) (fun q => absurd (Int32.not_lt.mp (erv ▸ hb0)) q)
  refine lv_aload_n hx hb dX7_paper_18 rfl (lv_at hl 1 rfl) ?_
  refine wg_X7_1 hx hb hts iX7 hown hK hP 0 rfl k3 (v := .ref (p 0)) rfl dX7_paper_19 ?_
  refine lv_astore_n (lv' := [(2, .ref (p 0)), (1, .int rv), (0, .ref x)]) hx hb dX7_paper_22 rfl hl (by decide) rfl (fun ls hl => ?_)
  refine lv_aload_n hx hb dX7_paper_23 rfl (lv_at hl 2 rfl) ?_
  refine lv_aload_n hx hb dX7_paper_24 rfl (lv_at hl 2 rfl) ?_
  refine wg_X7_2 hx hb hts iX7 hown hK hP 0 rfl k2 (v := .ref (sp 0)) rfl dX7_paper_25 ?_
  refine wp_X7_1 hx hb hts iX7 hown hK hP hD hS 0 rfl k3 (Nat.le_of_ble_eq_true rfl) dX7_paper_28 (ws' := lwW x t sp sp a b h g f o k ++ textW c t ((riE (ri0 τ) (blankF ζ) 8 0).1) ++ pageW c p π ++ pageW c sp ((riE (ri0 τ) (blankF ζ) 8 0).2) ++ affW c a σ ++ histW c h η ++ albumW c g α ++ findW c f φ) rfl (fun H locs hP hD hS => ?_)
  refine lv_aload_n hx hb dX7_paper_31 rfl (lv_at hl 2 rfl) ?_
  refine lv_aload_n hx hb dX7_paper_32 rfl (lv_at hl 0 rfl) ?_
  refine wp_X7_2 hx hb hts iX7 hown hK hP hD hS 0 rfl k2 (Nat.le_of_ble_eq_true rfl) dX7_paper_33 (ws' := lwW x t sp p a b h g f o k ++ textW c t ((riE (ri0 τ) (blankF ζ) 8 0).1) ++ pageW c p π ++ pageW c sp ((riE (ri0 τ) (blankF ζ) 8 0).2) ++ affW c a σ ++ histW c h η ++ albumW c g α ++ findW c f φ) rfl (fun H locs hP hD hS => ?_)
  refine lv_aload_n hx hb dX7_paper_36 rfl (lv_at hl 2 rfl) ?_
  refine wg_X7_0 hx hb hts iX7 hown hK hP 0 rfl k1 (v := .ref (t 0)) rfl dX7_paper_37 ?_
  refine wk_callUV (As := []) (rest := []) ⟨hx, hb, hml, hown, hts⟩ (c_X6_empty l D c t ((riE (ri0 τ) (blankF ζ) 8 0).1)) (cwV 0 hts gX7_paper_X6_empty rfl rfl rfl hd_X6_empty ⟨Nat.le_of_ble_eq_true rfl, Nat.le_of_ble_eq_true rfl⟩) hK hP hD hS hA [1, 2] [0, 3, 4, 5, 6, 7, 8, 9, 10, 11, 12, 13, 14, 15, 16, 17, 18, 19, 20, 21, 22, 23, 24, 25, 26, 27, 28, 29, 30, 31, 32, 33, 34, 35, 36, 37, 38] 39 rfl rfl [t 0, t 1] rfl rfl (ws' := lwW x t sp p a b h g f o k ++ textW c t (emptyT ((riE (ri0 τ) (blankF ζ) 8 0).1)) ++ pageW c p π ++ pageW c sp ((riE (ri0 τ) (blankF ζ) 8 0).2) ++ affW c a σ ++ histW c h η ++ albumW c g α ++ findW c f φ) rfl (wr := lwW x t sp p a b h g f o k ++ pageW c p π ++ pageW c sp ((riE (ri0 τ) (blankF ζ) 8 0).2) ++ affW c a σ ++ histW c h η ++ albumW c g α ++ findW c f φ) rfl rfl rfl rfl 0 rfl rfl rfl hl.1 rfl (Nat.le_of_ble_eq_true rfl) dX7_paper_40 (Nat.zero_le _) (Nat.zero_le _) (fun H locs hP hD hS => ?_)
  refine lv_pop hx hb dX7_paper_43 rfl ?_
  refine lv_aload_n hx hb dX7_paper_44 rfl (lv_at hl 2 rfl) ?_
  refine wg_X7_3 hx hb hts iX7 hown hK hP 0 rfl k4 (v := .ref (a 0)) rfl dX7_paper_45 ?_
  refine wk_callVV (As := []) (rest := []) ⟨hx, hb, hml, hown, hts⟩ (c_X0_beginAnew l D c a σ) (cwV 0 hts gX7_paper_X0_beginAnew rfl rfl rfl hd_X0_beginAnew ⟨Nat.le_of_ble_eq_true rfl, Nat.le_of_ble_eq_true rfl⟩) hK hP hD hS hA [23, 24, 25, 26, 27, 28, 29, 30] [0, 1, 2, 3, 4, 5, 6, 7, 8, 9, 10, 11, 12, 13, 14, 15, 16, 17, 18, 19, 20, 21, 22, 31, 32, 33, 34, 35, 36, 37, 38] 39 rfl rfl [a 0, a 4, a 5, a 6, a 7, a 8, a 9, a 10] rfl rfl (ws' := lwW x t sp p a b h g f o k ++ textW c t (emptyT ((riE (ri0 τ) (blankF ζ) 8 0).1)) ++ pageW c p π ++ pageW c sp ((riE (ri0 τ) (blankF ζ) 8 0).2) ++ affW c a (anewL σ 6) ++ histW c h η ++ albumW c g α ++ findW c f φ) rfl (wr := lwW x t sp p a b h g f o k ++ textW c t (emptyT ((riE (ri0 τ) (blankF ζ) 8 0).1)) ++ pageW c p π ++ pageW c sp ((riE (ri0 τ) (blankF ζ) 8 0).2) ++ histW c h η ++ albumW c g α ++ findW c f φ) rfl rfl rfl rfl 0 rfl rfl rfl hl.1 rfl (Nat.le_of_ble_eq_true rfl) dX7_paper_48 (Nat.zero_le _) (Nat.zero_le _) (fun H locs hP hD hS => ?_)
  refine lv_aload_n hx hb dX7_paper_51 rfl (lv_at hl 2 rfl) ?_
  refine wg_X7_5 hx hb hts iX7 hown hK hP 0 rfl k5 (v := .ref (h 0)) rfl dX7_paper_52 ?_
  refine wk_callVV (As := []) (rest := []) ⟨hx, hb, hml, hown, hts⟩ (c_X4_drop l D c h η) (cwV 0 hts gX7_paper_X4_drop rfl rfl rfl hd_X4_drop ⟨Nat.le_of_ble_eq_true rfl, Nat.le_of_ble_eq_true rfl⟩) hK hP hD hS hA [31, 32] [0, 1, 2, 3, 4, 5, 6, 7, 8, 9, 10, 11, 12, 13, 14, 15, 16, 17, 18, 19, 20, 21, 22, 23, 24, 25, 26, 27, 28, 29, 30, 33, 34, 35, 36, 37, 38] 39 rfl rfl [h 0, h 3] rfl rfl (ws' := lwW x t sp p a b h g f o k ++ textW c t (emptyT ((riE (ri0 τ) (blankF ζ) 8 0).1)) ++ pageW c p π ++ pageW c sp ((riE (ri0 τ) (blankF ζ) 8 0).2) ++ affW c a (anewL σ 6) ++ histW c h (hdropF η) ++ albumW c g α ++ findW c f φ) rfl (wr := lwW x t sp p a b h g f o k ++ textW c t (emptyT ((riE (ri0 τ) (blankF ζ) 8 0).1)) ++ pageW c p π ++ pageW c sp ((riE (ri0 τ) (blankF ζ) 8 0).2) ++ affW c a (anewL σ 6) ++ albumW c g α ++ findW c f φ) rfl rfl rfl rfl 0 rfl rfl rfl hl.1 rfl (Nat.le_of_ble_eq_true rfl) dX7_paper_55 (Nat.zero_le _) (Nat.zero_le _) (fun H locs hP hD hS => ?_)
  refine lv_aload_n hx hb dX7_paper_58 rfl (lv_at hl 2 rfl) ?_
  refine wg_X7_6 hx hb hts iX7 hown hK hP 0 rfl k6 (v := .ref (g 0)) rfl dX7_paper_59 ?_
  refine wk_callVV (As := []) (rest := []) ⟨hx, hb, hml, hown, hts⟩ (c_X1_drop l D c g α) (cwV 0 hts gX7_paper_X1_drop rfl rfl rfl hd_X1_drop ⟨Nat.le_of_ble_eq_true rfl, Nat.le_of_ble_eq_true rfl⟩) hK hP hD hS hA [33, 34] [0, 1, 2, 3, 4, 5, 6, 7, 8, 9, 10, 11, 12, 13, 14, 15, 16, 17, 18, 19, 20, 21, 22, 23, 24, 25, 26, 27, 28, 29, 30, 31, 32, 35, 36, 37, 38] 39 rfl rfl [g 0, g 3] rfl rfl (ws' := lwW x t sp p a b h g f o k ++ textW c t (emptyT ((riE (ri0 τ) (blankF ζ) 8 0).1)) ++ pageW c p π ++ pageW c sp ((riE (ri0 τ) (blankF ζ) 8 0).2) ++ affW c a (anewL σ 6) ++ histW c h (hdropF η) ++ albumW c g (hdropF α) ++ findW c f φ) rfl (wr := lwW x t sp p a b h g f o k ++ textW c t (emptyT ((riE (ri0 τ) (blankF ζ) 8 0).1)) ++ pageW c p π ++ pageW c sp ((riE (ri0 τ) (blankF ζ) 8 0).2) ++ affW c a (anewL σ 6) ++ histW c h (hdropF η) ++ findW c f φ) rfl rfl rfl rfl 0 rfl rfl rfl hl.1 rfl (Nat.le_of_ble_eq_true rfl) dX7_paper_62 (Nat.zero_le _) (Nat.zero_le _) (fun H locs hP hD hS => ?_)
  refine lv_aload_n hx hb dX7_paper_65 rfl (lv_at hl 2 rfl) ?_
  refine wg_X7_7 hx hb hts iX7 hown hK hP 0 rfl k7 (v := .ref (f 0)) rfl dX7_paper_66 ?_
  refine wk_callUV (As := []) (rest := []) ⟨hx, hb, hml, hown, hts⟩ (c_X3_drop l D c f φ) (cwV 0 hts gX7_paper_X3_drop rfl rfl rfl hd_X3_drop ⟨Nat.le_of_ble_eq_true rfl, Nat.le_of_ble_eq_true rfl⟩) hK hP hD hS hA [35, 36, 37, 38] [0, 1, 2, 3, 4, 5, 6, 7, 8, 9, 10, 11, 12, 13, 14, 15, 16, 17, 18, 19, 20, 21, 22, 23, 24, 25, 26, 27, 28, 29, 30, 31, 32, 33, 34] 39 rfl rfl [f 0, f 1, f 2, f 3] rfl rfl (ws' := lwW x t sp p a b h g f o k ++ textW c t (emptyT ((riE (ri0 τ) (blankF ζ) 8 0).1)) ++ pageW c p π ++ pageW c sp ((riE (ri0 τ) (blankF ζ) 8 0).2) ++ affW c a (anewL σ 6) ++ histW c h (hdropF η) ++ albumW c g (hdropF α) ++ findW c f (dropF φ)) rfl (wr := lwW x t sp p a b h g f o k ++ textW c t (emptyT ((riE (ri0 τ) (blankF ζ) 8 0).1)) ++ pageW c p π ++ pageW c sp ((riE (ri0 τ) (blankF ζ) 8 0).2) ++ affW c a (anewL σ 6) ++ histW c h (hdropF η) ++ albumW c g (hdropF α)) rfl rfl rfl rfl 0 rfl rfl rfl hl.1 rfl (Nat.le_of_ble_eq_true rfl) dX7_paper_69 (Nat.zero_le _) (Nat.zero_le _) (fun H locs hP hD hS => ?_)
  refine lv_pop hx hb dX7_paper_72 rfl ?_
  refine lv_iload_n hx hb dX7_paper_73 rfl (lv_at hl 1 rfl) ?_
  exact ret 74 ls H _ rv (erv) hP hS dX7_paper_74

abbrev rmX7_meant : Room := { frames := 2, cells := 0, slots := 0, locals := 43 }
theorem hd_X7_meant : yX7_meant.cls = RX7 ∧ yX7_meant.cls ≠ "java/lang/invoke/MethodHandle" ∧ yX7_meant.cls ≠ "java/lang/invoke/VarHandle" ∧ (parseMethodDescriptor yX7_meant.desc).map (fun d => d.parameters.length) = some 2 := by decide +kernel
set_option maxHeartbeats 4000000 in
set_option maxRecDepth 100000 in
theorem c_X7_meant (l : Launch) (D : va_G) (c : Nat → ClassId) (x : Nat) (t : Nat → Nat) (p : Nat → Nat) (sp : Nat → Nat) (a : Nat → Nat) (b : Nat → Nat) (h : Nat → Nat) (g : Nat → Nat) (f : Nat → Nat) (o : Nat → Nat) (k : Int64) (π : Nat → Nat → Int32) (σ : Nat → Nat → Int32) (w : Int32) (s : Int32) (hp : wfP π) : wk_RdI l yX7_meant wsX7_meant rmX7_meant D (tysL c) [.ref x, .int w, .int s] (lwW x t p sp a b h g f o k ++ pageW c p π ++ affW c a σ) (meantV π σ w s) := by
  refine wk_mkR (cc := cX7_meant) (maxL := 3) (rt := .int) (by decide) rfl (Nat.le_of_ble_eq_true rfl) rfl ?_
  intro pr ev ss mm args below meth cd ls H Q hst hP hK hl ret
  obtain ⟨hx, hb, hml, hown, hts, -⟩ := hst
  have hown : ss.vm.findClass RX7 = some mm.cls := hown
  have hl : lv_has ls 3 [(0, .ref x), (1, .int w), (2, .int s)] := hl
  have k1 := hts (.fieldLink RX7 19 "LastWord" "page" "LLastWord$Page;") (List.mem_of_getElem? (i := 1) rfl)
  have k2 := hts (.fieldLink RX7 29 "LastWord" "affairs" "LLastWord$Affairs;") (List.mem_of_getElem? (i := 2) rfl)
  have k3 := hts (.fieldLink RX7 134 "LastWord$Affairs" "laid" "I") (List.mem_of_getElem? (i := 3) rfl)
  have iX0 : ∀ w ∈ u_ws RX0 TX0 11, w ∈ wsX7_meant := fun _ h => (List.mem_cons_of_mem _ (List.mem_append_left _ (List.mem_append_right _ h)))
  have iX7 : ∀ w ∈ u_ws RX7 TX7 10, w ∈ wsX7_meant := fun _ h => (List.mem_cons_of_mem _ (List.mem_append_left _ (List.mem_append_left _ (List.mem_append_right _ h))))
  refine lv_aload_n hx hb dX7_meant_0 rfl (lv_at hl 0 rfl) ?_
  refine lv_iload_n hx hb dX7_meant_1 rfl (lv_at hl 1 rfl) ?_
  refine lv_iload_n hx hb dX7_meant_2 rfl (lv_at hl 2 rfl) ?_
  refine wk_callRV (As := [.int w, .int s]) (rest := []) ⟨hx, hb, hml, hown, hts⟩ (c_X7_mayStand l D c x t p sp a b h g f o k π w s) (cwV 2 hts gX7_meant_X7_mayStand rfl rfl rfl hd_X7_mayStand ⟨Nat.le_of_ble_eq_true rfl, Nat.le_of_ble_eq_true rfl⟩) hK hP [0, 1, 2, 3, 4, 5, 6, 7, 8, 9, 10] rfl 0 rfl rfl rfl hl.1 rfl (Nat.le_of_ble_eq_true rfl) dX7_meant_3 (Nat.zero_le _) (Nat.zero_le _) ?_
  refine wk_bnz (tgt := 11) hx hb dX7_meant_6 (by decide) (fun h1 => ?_) (fun h1 => ?_)
  rotate_left
  · refine lv_iconst (v := -1) hx hb dX7_meant_9 (by decide) ?_
    exact ret 10 ls ((-1)) (by rw [meantV, if_neg h1]) dX7_meant_10
  refine lv_aload_n hx hb dX7_meant_11 rfl (lv_at hl 0 rfl) ?_
  refine wg_X7_1 hx hb hts iX7 hown hK hP 0 rfl k1 (v := .ref (p 0)) rfl dX7_meant_12 ?_
  refine lv_iload_n hx hb dX7_meant_15 rfl (lv_at hl 1 rfl) ?_
  refine lv_iload_n hx hb dX7_meant_16 rfl (lv_at hl 2 rfl) ?_
  refine wk_eqi (y := nI s.toNatClampNeg) ((sb_ix h1.2).1) ?_
  refine lv_aload_n hx hb dX7_meant_17 rfl (lv_at hl 0 rfl) ?_
  refine wg_X7_3 hx hb hts iX7 hown hK hP 0 rfl k2 (v := .ref (a 0)) rfl dX7_meant_18 ?_
  refine wg_X0_3 hx hb hts iX0 hown hK hP 11 rfl k3 (v := .int (σ 3 0)) rfl dX7_meant_21 ?_
  refine wk_callRV (As := [.int w, .int (nI s.toNatClampNeg), .int (σ 3 0)]) (rest := []) ⟨hx, hb, hml, hown, hts⟩ (c_X5_answerer l D c p π w s.toNatClampNeg (σ 3 0) (hp) ((sb_ix h1.2).2)) (cwV 3 hts gX7_meant_X5_answerer rfl rfl rfl hd_X5_answerer ⟨Nat.le_of_ble_eq_true rfl, Nat.le_of_ble_eq_true rfl⟩) hK hP [1, 2, 3, 4, 5, 6, 7, 8, 9, 10] rfl 0 rfl rfl rfl hl.1 rfl (Nat.le_of_ble_eq_true rfl) dX7_meant_24 (Nat.zero_le _) (Nat.zero_le _) ?_
  exact ret 27 ls (answererF π w s.toNatClampNeg (σ 3 0)) (by rw [meantV, if_pos h1]) dX7_meant_27

abbrev rmX7_writer : Room := { frames := 2, cells := 0, slots := 0, locals := 44 }
theorem hd_X7_writer : yX7_writer.cls = RX7 ∧ yX7_writer.cls ≠ "java/lang/invoke/MethodHandle" ∧ yX7_writer.cls ≠ "java/lang/invoke/VarHandle" ∧ (parseMethodDescriptor yX7_writer.desc).map (fun d => d.parameters.length) = some 2 := by decide +kernel
set_option maxHeartbeats 4000000 in
set_option maxRecDepth 100000 in
theorem c_X7_writer (l : Launch) (D : va_G) (c : Nat → ClassId) (x : Nat) (t : Nat → Nat) (p : Nat → Nat) (sp : Nat → Nat) (a : Nat → Nat) (b : Nat → Nat) (h : Nat → Nat) (g : Nat → Nat) (f : Nat → Nat) (o : Nat → Nat) (k : Int64) (π : Nat → Nat → Int32) (σ : Nat → Nat → Int32) (w : Int32) (x2 : Int32) (hn : wfN π) (hq : wfQ σ) : wk_RdI l yX7_writer wsX7_writer rmX7_writer D (tysL c) [.ref x, .int w, .int x2] (lwW x t p sp a b h g f o k ++ pageW c p π ++ affW c a σ) (writerV π σ w x2) := by
  refine wk_mkR (cc := cX7_writer) (maxL := 3) (rt := .int) (by decide) rfl (Nat.le_of_ble_eq_true rfl) rfl ?_
  intro pr ev ss mm args below meth cd ls H Q hst hP hK hl ret
  obtain ⟨hx, hb, hml, hown, hts, -⟩ := hst
  have hown : ss.vm.findClass RX7 = some mm.cls := hown
  have hl : lv_has ls 3 [(0, .ref x), (1, .int w), (2, .int x2)] := hl
  have k1 := hts (.fieldLink RX7 19 "LastWord" "page" "LLastWord$Page;") (List.mem_of_getElem? (i := 1) rfl)
  have k2 := hts (.fieldLink RX7 89 "LastWord$Page" "pen" "[I") (List.mem_of_getElem? (i := 2) rfl)
  have k3 := hts (.fieldLink RX7 93 "LastWord$Page" "hobby" "[I") (List.mem_of_getElem? (i := 3) rfl)
  have k6 := hts (.fieldLink RX7 105 "LastWord$Page" "near" "[[I") (List.mem_of_getElem? (i := 6) rfl)
  have k4 := hts (.fieldLink RX7 29 "LastWord" "affairs" "LLastWord$Affairs;") (List.mem_of_getElem? (i := 4) rfl)
  have k5 := hts (.fieldLink RX7 102 "LastWord$Affairs" "lateTimes" "[I") (List.mem_of_getElem? (i := 5) rfl)
  have iX0 : ∀ w ∈ u_ws RX0 TX0 11, w ∈ wsX7_writer := fun _ h => (List.mem_cons_of_mem _ (List.mem_append_right _ h))
  have iX5 : ∀ w ∈ u_ws RX5 TX5 5, w ∈ wsX7_writer := fun _ h => (List.mem_cons_of_mem _ (List.mem_append_left _ (List.mem_append_right _ h)))
  have iX7 : ∀ w ∈ u_ws RX7 TX7 10, w ∈ wsX7_writer := fun _ h => (List.mem_cons_of_mem _ (List.mem_append_left _ (List.mem_append_left _ (List.mem_append_right _ h))))
  refine lv_aload_n hx hb dX7_writer_0 rfl (lv_at hl 0 rfl) ?_
  refine wg_X7_1 hx hb hts iX7 hown hK hP 0 rfl k1 (v := .ref (p 0)) rfl dX7_writer_1 ?_
  refine lv_iload_n hx hb dX7_writer_4 rfl (lv_at hl 1 rfl) ?_
  refine wk_callRV (As := [.int w]) (rest := []) ⟨hx, hb, hml, hown, hts⟩ (c_X5_hasWriter l D c p π w) (cwV 1 hts gX7_writer_X5_hasWriter rfl rfl rfl hd_X5_hasWriter ⟨Nat.le_of_ble_eq_true rfl, Nat.le_of_ble_eq_true rfl⟩) hK hP [1, 2, 3, 4, 5, 6, 7, 8, 9, 10] rfl 0 rfl rfl rfl hl.1 rfl (Nat.le_of_ble_eq_true rfl) dX7_writer_5 (Nat.zero_le _) (Nat.zero_le _) ?_
  refine wk_bz (tgt := 21) hx hb dX7_writer_8 (by decide) (fun h1 => ?_) (fun h1 => ?_)
  · refine lv_iconst (v := -1) hx hb dX7_writer_21 (by decide) ?_
    exact ret 22 ls ((-1)) (by rw [writerV, if_neg (fun q => absurd q.1 h1)]) dX7_writer_22
  refine lv_iload_n hx hb dX7_writer_11 rfl (lv_at hl 2 rfl) ?_
  refine lv_if_lt (tgt := 21) hx hb dX7_writer_12 (by decide) (fun h2 => ?_) (fun h2 => ?_)
  · refine lv_iconst (v := -1) hx hb dX7_writer_21 (by decide) ?_
    exact ret 22 ls ((-1)) (by rw [writerV, if_neg (fun q => absurd h2 (Int32.not_lt.mpr q.2.1))]) dX7_writer_22
  refine lv_iload_n hx hb dX7_writer_15 rfl (lv_at hl 2 rfl) ?_
  refine lv_bipush (v := 9) hx hb dX7_writer_16 (by decide) ?_
  refine lv_icmp_le (tgt := 23) hx hb dX7_writer_18 (by decide) (fun h3 => ?_) (fun h3 => ?_)
  rotate_left
  · refine lv_iconst (v := -1) hx hb dX7_writer_21 (by decide) ?_
    exact ret 22 ls ((-1)) (by rw [writerV, if_neg (fun q => absurd q.2.2 h3)]) dX7_writer_22
  have hw := wr_ix hn h1
  have hw2 := hw.2
  have hn6 := hn.2
  have hx0 : 0 ≤ x2 := Int32.not_lt.mp h2
  have hx9 : x2 ≤ 9 := h3
  refine lv_iload_n hx hb dX7_writer_23 rfl (lv_at hl 2 rfl) ?_
  rcases wk_sw x2 10 (by omega) with hsw | ⟨ksw, hksw, rfl⟩
  · refine lv_tableOut (tgt := 136) hx hb dX7_writer_24 (by omega) (by decide) ?_
    exfalso; have hq1 := Int32.le_iff_toInt_le.mp hx0; have hq2 := Int32.le_iff_toInt_le.mp hx9; rw [show (0 : Int32).toInt = 0 from by decide] at hq1; rw [show (9 : Int32).toInt = 9 from by decide] at hq2; omega
  rcases (show ksw = 0 ∨ ksw = 1 ∨ ksw = 2 ∨ ksw = 3 ∨ ksw = 4 ∨ ksw = 5 ∨ ksw = 6 ∨ ksw = 7 ∨ ksw = 8 ∨ ksw = 9 by omega) with rfl | rfl | rfl | rfl | rfl | rfl | rfl | rfl | rfl | rfl
  · refine lv_tableIn (off := 56) (tgt := 80) hx hb dX7_writer_24 (by decide) (by decide) (by decide) (by decide) ?_
    refine lv_aload_n hx hb dX7_writer_80 rfl (lv_at hl 0 rfl) ?_
    refine wg_X7_1 hx hb hts iX7 hown hK hP 0 rfl k1 (v := .ref (p 0)) rfl dX7_writer_81 ?_
    refine wg_X5_2 hx hb hts iX5 hown hK hP 1 rfl k2 (v := .ref (p 2)) rfl dX7_writer_84 ?_
    refine lv_iload_n hx hb dX7_writer_87 rfl (lv_at hl 1 rfl) ?_
    refine wk_ald (f := π 2) hx hb hK hP 2 0 rfl rfl w.toNatClampNeg (hw.1) (Nat.lt_of_lt_of_le hw.2 hn6) (by decide) dX7_writer_88 ?_
    exact ret 89 ls (π 2 w.toNatClampNeg) (by rw [writerV, if_pos ⟨h1, by decide, by decide⟩]; rfl) dX7_writer_89
  · refine lv_tableIn (off := 66) (tgt := 90) hx hb dX7_writer_24 (by decide) (by decide) (by decide) (by decide) ?_
    refine lv_aload_n hx hb dX7_writer_90 rfl (lv_at hl 0 rfl) ?_
    refine wg_X7_1 hx hb hts iX7 hown hK hP 0 rfl k1 (v := .ref (p 0)) rfl dX7_writer_91 ?_
    refine wg_X5_3 hx hb hts iX5 hown hK hP 1 rfl k3 (v := .ref (p 3)) rfl dX7_writer_94 ?_
    refine lv_iload_n hx hb dX7_writer_97 rfl (lv_at hl 1 rfl) ?_
    refine wk_ald (f := π 3) hx hb hK hP 3 0 rfl rfl w.toNatClampNeg (hw.1) (Nat.lt_of_lt_of_le hw.2 hn6) (by decide) dX7_writer_98 ?_
    exact ret 99 ls (π 3 w.toNatClampNeg) (by rw [writerV, if_pos ⟨h1, by decide, by decide⟩]; rfl) dX7_writer_99
  · refine lv_tableIn (off := 112) (tgt := 136) hx hb dX7_writer_24 (by decide) (by decide) (by decide) (by decide) ?_
    refine lv_aload_n hx hb dX7_writer_136 rfl (lv_at hl 0 rfl) ?_
    refine wg_X7_1 hx hb hts iX7 hown hK hP 0 rfl k1 (v := .ref (p 0)) rfl dX7_writer_137 ?_
    refine wg_X5_4 hx hb hts iX5 hown hK hP 1 rfl k6 (v := .ref (p 4)) rfl dX7_writer_140 ?_
    refine lv_iload_n hx hb dX7_writer_143 rfl (lv_at hl 1 rfl) ?_
    refine wk_eqi (y := nI w.toNatClampNeg) (hw.1) ?_
    refine wk_aald hx hb hK hP 4 2 rfl rfl rfl w.toNatClampNeg rfl (Nat.lt_of_lt_of_le hw.2 hn6) (by decide) rfl dX7_writer_144 ?_
    refine lv_iload_n hx hb dX7_writer_145 rfl (lv_at hl 2 rfl) ?_
    refine lv_iconst (v := 2) hx hb dX7_writer_146 (by decide) ?_
    refine lv_isub hx hb dX7_writer_147 ?_
    refine wk_eqi (show (nI 2) - 2 = nI 0 from by decide) ?_
    refine wk_ald hx hb hK hP (5 + w.toNatClampNeg) 0 (pageW_row (by omega) (a := (lwW x t p sp a b h g f o k : va_W)) (b := (affW c a σ : va_W)) rfl rfl) rfl 0 rfl (by omega) (by decide) dX7_writer_148 ?_
    exact ret 149 ls (π (5 + w.toNatClampNeg) 0) (by rw [writerV, if_pos ⟨h1, by decide, by decide⟩]; rfl) dX7_writer_149
  · refine lv_tableIn (off := 112) (tgt := 136) hx hb dX7_writer_24 (by decide) (by decide) (by decide) (by decide) ?_
    refine lv_aload_n hx hb dX7_writer_136 rfl (lv_at hl 0 rfl) ?_
    refine wg_X7_1 hx hb hts iX7 hown hK hP 0 rfl k1 (v := .ref (p 0)) rfl dX7_writer_137 ?_
    refine wg_X5_4 hx hb hts iX5 hown hK hP 1 rfl k6 (v := .ref (p 4)) rfl dX7_writer_140 ?_
    refine lv_iload_n hx hb dX7_writer_143 rfl (lv_at hl 1 rfl) ?_
    refine wk_eqi (y := nI w.toNatClampNeg) (hw.1) ?_
    refine wk_aald hx hb hK hP 4 2 rfl rfl rfl w.toNatClampNeg rfl (Nat.lt_of_lt_of_le hw.2 hn6) (by decide) rfl dX7_writer_144 ?_
    refine lv_iload_n hx hb dX7_writer_145 rfl (lv_at hl 2 rfl) ?_
    refine lv_iconst (v := 2) hx hb dX7_writer_146 (by decide) ?_
    refine lv_isub hx hb dX7_writer_147 ?_
    refine wk_eqi (show (nI 3) - 2 = nI 1 from by decide) ?_
    refine wk_ald hx hb hK hP (5 + w.toNatClampNeg) 0 (pageW_row (by omega) (a := (lwW x t p sp a b h g f o k : va_W)) (b := (affW c a σ : va_W)) rfl rfl) rfl 1 rfl (by omega) (by decide) dX7_writer_148 ?_
    exact ret 149 ls (π (5 + w.toNatClampNeg) 1) (by rw [writerV, if_pos ⟨h1, by decide, by decide⟩]; rfl) dX7_writer_149
  · refine lv_tableIn (off := 112) (tgt := 136) hx hb dX7_writer_24 (by decide) (by decide) (by decide) (by decide) ?_
    refine lv_aload_n hx hb dX7_writer_136 rfl (lv_at hl 0 rfl) ?_
    refine wg_X7_1 hx hb hts iX7 hown hK hP 0 rfl k1 (v := .ref (p 0)) rfl dX7_writer_137 ?_
    refine wg_X5_4 hx hb hts iX5 hown hK hP 1 rfl k6 (v := .ref (p 4)) rfl dX7_writer_140 ?_
    refine lv_iload_n hx hb dX7_writer_143 rfl (lv_at hl 1 rfl) ?_
    refine wk_eqi (y := nI w.toNatClampNeg) (hw.1) ?_
    refine wk_aald hx hb hK hP 4 2 rfl rfl rfl w.toNatClampNeg rfl (Nat.lt_of_lt_of_le hw.2 hn6) (by decide) rfl dX7_writer_144 ?_
    refine lv_iload_n hx hb dX7_writer_145 rfl (lv_at hl 2 rfl) ?_
    refine lv_iconst (v := 2) hx hb dX7_writer_146 (by decide) ?_
    refine lv_isub hx hb dX7_writer_147 ?_
    refine wk_eqi (show (nI 4) - 2 = nI 2 from by decide) ?_
    refine wk_ald hx hb hK hP (5 + w.toNatClampNeg) 0 (pageW_row (by omega) (a := (lwW x t p sp a b h g f o k : va_W)) (b := (affW c a σ : va_W)) rfl rfl) rfl 2 rfl (by omega) (by decide) dX7_writer_148 ?_
    exact ret 149 ls (π (5 + w.toNatClampNeg) 2) (by rw [writerV, if_pos ⟨h1, by decide, by decide⟩]; rfl) dX7_writer_149
  · refine lv_tableIn (off := 112) (tgt := 136) hx hb dX7_writer_24 (by decide) (by decide) (by decide) (by decide) ?_
    refine lv_aload_n hx hb dX7_writer_136 rfl (lv_at hl 0 rfl) ?_
    refine wg_X7_1 hx hb hts iX7 hown hK hP 0 rfl k1 (v := .ref (p 0)) rfl dX7_writer_137 ?_
    refine wg_X5_4 hx hb hts iX5 hown hK hP 1 rfl k6 (v := .ref (p 4)) rfl dX7_writer_140 ?_
    refine lv_iload_n hx hb dX7_writer_143 rfl (lv_at hl 1 rfl) ?_
    refine wk_eqi (y := nI w.toNatClampNeg) (hw.1) ?_
    refine wk_aald hx hb hK hP 4 2 rfl rfl rfl w.toNatClampNeg rfl (Nat.lt_of_lt_of_le hw.2 hn6) (by decide) rfl dX7_writer_144 ?_
    refine lv_iload_n hx hb dX7_writer_145 rfl (lv_at hl 2 rfl) ?_
    refine lv_iconst (v := 2) hx hb dX7_writer_146 (by decide) ?_
    refine lv_isub hx hb dX7_writer_147 ?_
    refine wk_eqi (show (nI 5) - 2 = nI 3 from by decide) ?_
    refine wk_ald hx hb hK hP (5 + w.toNatClampNeg) 0 (pageW_row (by omega) (a := (lwW x t p sp a b h g f o k : va_W)) (b := (affW c a σ : va_W)) rfl rfl) rfl 3 rfl (by omega) (by decide) dX7_writer_148 ?_
    exact ret 149 ls (π (5 + w.toNatClampNeg) 3) (by rw [writerV, if_pos ⟨h1, by decide, by decide⟩]; rfl) dX7_writer_149
  · refine lv_tableIn (off := 112) (tgt := 136) hx hb dX7_writer_24 (by decide) (by decide) (by decide) (by decide) ?_
    refine lv_aload_n hx hb dX7_writer_136 rfl (lv_at hl 0 rfl) ?_
    refine wg_X7_1 hx hb hts iX7 hown hK hP 0 rfl k1 (v := .ref (p 0)) rfl dX7_writer_137 ?_
    refine wg_X5_4 hx hb hts iX5 hown hK hP 1 rfl k6 (v := .ref (p 4)) rfl dX7_writer_140 ?_
    refine lv_iload_n hx hb dX7_writer_143 rfl (lv_at hl 1 rfl) ?_
    refine wk_eqi (y := nI w.toNatClampNeg) (hw.1) ?_
    refine wk_aald hx hb hK hP 4 2 rfl rfl rfl w.toNatClampNeg rfl (Nat.lt_of_lt_of_le hw.2 hn6) (by decide) rfl dX7_writer_144 ?_
    refine lv_iload_n hx hb dX7_writer_145 rfl (lv_at hl 2 rfl) ?_
    refine lv_iconst (v := 2) hx hb dX7_writer_146 (by decide) ?_
    refine lv_isub hx hb dX7_writer_147 ?_
    refine wk_eqi (show (nI 6) - 2 = nI 4 from by decide) ?_
    refine wk_ald hx hb hK hP (5 + w.toNatClampNeg) 0 (pageW_row (by omega) (a := (lwW x t p sp a b h g f o k : va_W)) (b := (affW c a σ : va_W)) rfl rfl) rfl 4 rfl (by omega) (by decide) dX7_writer_148 ?_
    exact ret 149 ls (π (5 + w.toNatClampNeg) 4) (by rw [writerV, if_pos ⟨h1, by decide, by decide⟩]; rfl) dX7_writer_149
  · refine lv_tableIn (off := 76) (tgt := 100) hx hb dX7_writer_24 (by decide) (by decide) (by decide) (by decide) ?_
    refine lv_aload_n hx hb dX7_writer_100 rfl (lv_at hl 0 rfl) ?_
    refine wg_X7_3 hx hb hts iX7 hown hK hP 0 rfl k4 (v := .ref (a 0)) rfl dX7_writer_101 ?_
    refine lv_iload_n hx hb dX7_writer_104 rfl (lv_at hl 1 rfl) ?_
    refine wk_callRV (As := [.int w]) (rest := []) ⟨hx, hb, hml, hown, hts⟩ (c_X0_hasLaid l D c a σ w) (cwV 1 hts gX7_writer_X0_hasLaid rfl rfl rfl hd_X0_hasLaid ⟨Nat.le_of_ble_eq_true rfl, Nat.le_of_ble_eq_true rfl⟩) hK hP [11, 12, 13, 14, 15, 16, 17, 18] rfl 0 rfl rfl rfl hl.1 rfl (Nat.le_of_ble_eq_true rfl) dX7_writer_105 (Nat.zero_le _) (Nat.zero_le _) ?_
    refine wk_bz (tgt := 115) hx hb dX7_writer_108 (by decide) (fun h4 => ?_) (fun h4 => ?_)
    · refine lv_iconst (v := 0) hx hb dX7_writer_115 (by decide) ?_
      exact ret 116 ls 0 (by rw [writerV, if_pos ⟨h1, by decide, by decide⟩]; show _ = (if laidB σ w then (1 : Int32) else 0); rw [if_neg h4]) dX7_writer_116
    refine lv_iconst (v := 1) hx hb dX7_writer_111 (by decide) ?_
    refine lv_goto (tgt := 116) hx hb dX7_writer_112 (by decide) ?_
    exact ret 116 ls 1 (by rw [writerV, if_pos ⟨h1, by decide, by decide⟩]; show _ = (if laidB σ w then (1 : Int32) else 0); rw [if_pos h4]) dX7_writer_116
  · refine lv_tableIn (off := 93) (tgt := 117) hx hb dX7_writer_24 (by decide) (by decide) (by decide) (by decide) ?_
    refine lv_aload_n hx hb dX7_writer_117 rfl (lv_at hl 0 rfl) ?_
    refine wg_X7_3 hx hb hts iX7 hown hK hP 0 rfl k4 (v := .ref (a 0)) rfl dX7_writer_118 ?_
    refine lv_iload_n hx hb dX7_writer_121 rfl (lv_at hl 1 rfl) ?_
    refine wk_callRV (As := [.int w]) (rest := []) ⟨hx, hb, hml, hown, hts⟩ (c_X0_owedBy l D c a σ w (hq)) (cwV 1 hts gX7_writer_X0_owedBy rfl rfl rfl hd_X0_owedBy ⟨Nat.le_of_ble_eq_true rfl, Nat.le_of_ble_eq_true rfl⟩) hK hP [11, 12, 13, 14, 15, 16, 17, 18] rfl 0 rfl rfl rfl hl.1 rfl (Nat.le_of_ble_eq_true rfl) dX7_writer_122 (Nat.zero_le _) (Nat.zero_le _) ?_
    exact ret 125 ls (bcF (obL (σ 8) w (nQ σ))) (by rw [writerV, if_pos ⟨h1, by decide, by decide⟩]; rfl) dX7_writer_125
  · refine lv_tableIn (off := 102) (tgt := 126) hx hb dX7_writer_24 (by decide) (by decide) (by decide) (by decide) ?_
    refine lv_aload_n hx hb dX7_writer_126 rfl (lv_at hl 0 rfl) ?_
    refine wg_X7_3 hx hb hts iX7 hown hK hP 0 rfl k4 (v := .ref (a 0)) rfl dX7_writer_127 ?_
    refine wg_X0_4 hx hb hts iX0 hown hK hP 11 rfl k5 (v := .ref (a 4)) rfl dX7_writer_130 ?_
    refine lv_iload_n hx hb dX7_writer_133 rfl (lv_at hl 1 rfl) ?_
    refine wk_ald (f := σ 4) hx hb hK hP 12 0 rfl rfl w.toNatClampNeg (hw.1) (Nat.lt_of_lt_of_le hw.2 hn6) (by decide) dX7_writer_134 ?_
    exact ret 135 ls (σ 4 w.toNatClampNeg) (by rw [writerV, if_pos ⟨h1, by decide, by decide⟩]; rfl) dX7_writer_135

abbrev rmX7_quarrel : Room := { frames := 1, cells := 0, slots := 0, locals := 21 }
theorem hd_X7_quarrel : yX7_quarrel.cls = RX7 ∧ yX7_quarrel.cls ≠ "java/lang/invoke/MethodHandle" ∧ yX7_quarrel.cls ≠ "java/lang/invoke/VarHandle" ∧ (parseMethodDescriptor yX7_quarrel.desc).map (fun d => d.parameters.length) = some 2 := by decide +kernel
set_option maxHeartbeats 4000000 in
set_option maxRecDepth 100000 in
theorem c_X7_quarrel (l : Launch) (D : va_G) (c : Nat → ClassId) (x : Nat) (t : Nat → Nat) (p : Nat → Nat) (sp : Nat → Nat) (a : Nat → Nat) (b : Nat → Nat) (h : Nat → Nat) (g : Nat → Nat) (f : Nat → Nat) (o : Nat → Nat) (k : Int64) (σ : Nat → Nat → Int32) (q : Int32) (x2 : Int32) (hq : wfQ σ) : wk_RdI l yX7_quarrel wsX7_quarrel rmX7_quarrel D (tysL c) [.ref x, .int q, .int x2] (lwW x t p sp a b h g f o k ++ affW c a σ) (quarrelV σ q x2) := by
  refine wk_mkR (cc := cX7_quarrel) (maxL := 3) (rt := .int) (by decide) rfl (Nat.le_of_ble_eq_true rfl) rfl ?_
  intro pr ev ss mm args below meth cd ls H Q hst hP hK hl ret
  obtain ⟨hx, hb, hml, hown, hts, -⟩ := hst
  have hown : ss.vm.findClass RX7 = some mm.cls := hown
  have hl : lv_has ls 3 [(0, .ref x), (1, .int q), (2, .int x2)] := hl
  have k1 := hts (.fieldLink RX7 29 "LastWord" "affairs" "LLastWord$Affairs;") (List.mem_of_getElem? (i := 1) rfl)
  have k2 := hts (.fieldLink RX7 112 "LastWord$Affairs" "author" "[I") (List.mem_of_getElem? (i := 2) rfl)
  have k3 := hts (.fieldLink RX7 115 "LastWord$Affairs" "subject" "[I") (List.mem_of_getElem? (i := 3) rfl)
  have k4 := hts (.fieldLink RX7 118 "LastWord$Affairs" "printedOn" "[I") (List.mem_of_getElem? (i := 4) rfl)
  have k5 := hts (.fieldLink RX7 121 "LastWord$Affairs" "owes" "[I") (List.mem_of_getElem? (i := 5) rfl)
  have k6 := hts (.fieldLink RX7 124 "LastWord$Affairs" "work" "[I") (List.mem_of_getElem? (i := 6) rfl)
  have k7 := hts (.fieldLink RX7 127 "LastWord$Affairs" "late" "[I") (List.mem_of_getElem? (i := 7) rfl)
  have iX0 : ∀ w ∈ u_ws RX0 TX0 11, w ∈ wsX7_quarrel := fun _ h => (List.mem_cons_of_mem _ (List.mem_append_right _ h))
  have iX7 : ∀ w ∈ u_ws RX7 TX7 10, w ∈ wsX7_quarrel := fun _ h => (List.mem_cons_of_mem _ (List.mem_append_left _ (List.mem_append_right _ h)))
  refine lv_aload_n hx hb dX7_quarrel_0 rfl (lv_at hl 0 rfl) ?_
  refine wg_X7_3 hx hb hts iX7 hown hK hP 0 rfl k1 (v := .ref (a 0)) rfl dX7_quarrel_1 ?_
  refine lv_iload_n hx hb dX7_quarrel_4 rfl (lv_at hl 1 rfl) ?_
  refine wk_callRV (As := [.int q]) (rest := []) ⟨hx, hb, hml, hown, hts⟩ (c_X0_hasQuarrel l D c a σ q) (cwV 1 hts gX7_quarrel_X0_hasQuarrel rfl rfl rfl hd_X0_hasQuarrel ⟨Nat.le_of_ble_eq_true rfl, Nat.le_of_ble_eq_true rfl⟩) hK hP [1, 2, 3, 4, 5, 6, 7, 8] rfl 0 rfl rfl rfl hl.1 rfl (Nat.le_of_ble_eq_true rfl) dX7_quarrel_5 (Nat.zero_le _) (Nat.zero_le _) ?_
  refine wk_bnz (tgt := 13) hx hb dX7_quarrel_8 (by decide) (fun h1 => ?_) (fun h1 => ?_)
  rotate_left
  · refine lv_iconst (v := -1) hx hb dX7_quarrel_11 (by decide) ?_
    exact ret 12 ls ((-1)) (by rw [quarrelV, if_neg (fun q => absurd q.1 h1)]) dX7_quarrel_12
  have hw := qu_ix hq h1
  have hn6 := hq.2
  refine lv_iload_n hx hb dX7_quarrel_13 rfl (lv_at hl 2 rfl) ?_
  rcases wk_sw x2 6 (by omega) with hsw | ⟨ksw, hksw, rfl⟩
  · refine lv_tableOut (tgt := 112) hx hb dX7_quarrel_14 (by omega) (by decide) ?_
    refine lv_iconst (v := -1) hx hb dX7_quarrel_112 (by decide) ?_
    exact ret 113 ls ((-1)) (by rw [quarrelV, if_neg (fun q => by omega)]) dX7_quarrel_113
  rcases (show ksw = 0 ∨ ksw = 1 ∨ ksw = 2 ∨ ksw = 3 ∨ ksw = 4 ∨ ksw = 5 by omega) with rfl | rfl | rfl | rfl | rfl | rfl
  · refine lv_tableIn (off := 38) (tgt := 52) hx hb dX7_quarrel_14 (by decide) (by decide) (by decide) (by decide) ?_
    refine lv_aload_n hx hb dX7_quarrel_52 rfl (lv_at hl 0 rfl) ?_
    refine wg_X7_3 hx hb hts iX7 hown hK hP 0 rfl k1 (v := .ref (a 0)) rfl dX7_quarrel_53 ?_
    refine wg_X0_5 hx hb hts iX0 hown hK hP 1 rfl k2 (v := .ref (a 5)) rfl dX7_quarrel_56 ?_
    refine lv_iload_n hx hb dX7_quarrel_59 rfl (lv_at hl 1 rfl) ?_
    refine wk_ald (f := σ 5) hx hb hK hP 3 0 rfl rfl q.toNatClampNeg (hw.1) (Nat.lt_of_lt_of_le hw.2 hn6) (by decide) dX7_quarrel_60 ?_
    exact ret 61 ls (σ 5 q.toNatClampNeg) (by rw [quarrelV, if_pos ⟨h1, by decide, by decide⟩]; rfl) dX7_quarrel_61
  · refine lv_tableIn (off := 48) (tgt := 62) hx hb dX7_quarrel_14 (by decide) (by decide) (by decide) (by decide) ?_
    refine lv_aload_n hx hb dX7_quarrel_62 rfl (lv_at hl 0 rfl) ?_
    refine wg_X7_3 hx hb hts iX7 hown hK hP 0 rfl k1 (v := .ref (a 0)) rfl dX7_quarrel_63 ?_
    refine wg_X0_6 hx hb hts iX0 hown hK hP 1 rfl k3 (v := .ref (a 6)) rfl dX7_quarrel_66 ?_
    refine lv_iload_n hx hb dX7_quarrel_69 rfl (lv_at hl 1 rfl) ?_
    refine wk_ald (f := σ 6) hx hb hK hP 4 0 rfl rfl q.toNatClampNeg (hw.1) (Nat.lt_of_lt_of_le hw.2 hn6) (by decide) dX7_quarrel_70 ?_
    exact ret 71 ls (σ 6 q.toNatClampNeg) (by rw [quarrelV, if_pos ⟨h1, by decide, by decide⟩]; rfl) dX7_quarrel_71
  · refine lv_tableIn (off := 58) (tgt := 72) hx hb dX7_quarrel_14 (by decide) (by decide) (by decide) (by decide) ?_
    refine lv_aload_n hx hb dX7_quarrel_72 rfl (lv_at hl 0 rfl) ?_
    refine wg_X7_3 hx hb hts iX7 hown hK hP 0 rfl k1 (v := .ref (a 0)) rfl dX7_quarrel_73 ?_
    refine wg_X0_7 hx hb hts iX0 hown hK hP 1 rfl k4 (v := .ref (a 7)) rfl dX7_quarrel_76 ?_
    refine lv_iload_n hx hb dX7_quarrel_79 rfl (lv_at hl 1 rfl) ?_
    refine wk_ald (f := σ 7) hx hb hK hP 5 0 rfl rfl q.toNatClampNeg (hw.1) (Nat.lt_of_lt_of_le hw.2 hn6) (by decide) dX7_quarrel_80 ?_
    exact ret 81 ls (σ 7 q.toNatClampNeg) (by rw [quarrelV, if_pos ⟨h1, by decide, by decide⟩]; rfl) dX7_quarrel_81
  · refine lv_tableIn (off := 68) (tgt := 82) hx hb dX7_quarrel_14 (by decide) (by decide) (by decide) (by decide) ?_
    refine lv_aload_n hx hb dX7_quarrel_82 rfl (lv_at hl 0 rfl) ?_
    refine wg_X7_3 hx hb hts iX7 hown hK hP 0 rfl k1 (v := .ref (a 0)) rfl dX7_quarrel_83 ?_
    refine wg_X0_8 hx hb hts iX0 hown hK hP 1 rfl k5 (v := .ref (a 8)) rfl dX7_quarrel_86 ?_
    refine lv_iload_n hx hb dX7_quarrel_89 rfl (lv_at hl 1 rfl) ?_
    refine wk_ald (f := σ 8) hx hb hK hP 6 0 rfl rfl q.toNatClampNeg (hw.1) (Nat.lt_of_lt_of_le hw.2 hn6) (by decide) dX7_quarrel_90 ?_
    exact ret 91 ls (σ 8 q.toNatClampNeg) (by rw [quarrelV, if_pos ⟨h1, by decide, by decide⟩]; rfl) dX7_quarrel_91
  · refine lv_tableIn (off := 78) (tgt := 92) hx hb dX7_quarrel_14 (by decide) (by decide) (by decide) (by decide) ?_
    refine lv_aload_n hx hb dX7_quarrel_92 rfl (lv_at hl 0 rfl) ?_
    refine wg_X7_3 hx hb hts iX7 hown hK hP 0 rfl k1 (v := .ref (a 0)) rfl dX7_quarrel_93 ?_
    refine wg_X0_9 hx hb hts iX0 hown hK hP 1 rfl k6 (v := .ref (a 9)) rfl dX7_quarrel_96 ?_
    refine lv_iload_n hx hb dX7_quarrel_99 rfl (lv_at hl 1 rfl) ?_
    refine wk_ald (f := σ 9) hx hb hK hP 7 0 rfl rfl q.toNatClampNeg (hw.1) (Nat.lt_of_lt_of_le hw.2 hn6) (by decide) dX7_quarrel_100 ?_
    exact ret 101 ls (σ 9 q.toNatClampNeg) (by rw [quarrelV, if_pos ⟨h1, by decide, by decide⟩]; rfl) dX7_quarrel_101
  · refine lv_tableIn (off := 88) (tgt := 102) hx hb dX7_quarrel_14 (by decide) (by decide) (by decide) (by decide) ?_
    refine lv_aload_n hx hb dX7_quarrel_102 rfl (lv_at hl 0 rfl) ?_
    refine wg_X7_3 hx hb hts iX7 hown hK hP 0 rfl k1 (v := .ref (a 0)) rfl dX7_quarrel_103 ?_
    refine wg_X0_10 hx hb hts iX0 hown hK hP 1 rfl k7 (v := .ref (a 10)) rfl dX7_quarrel_106 ?_
    refine lv_iload_n hx hb dX7_quarrel_109 rfl (lv_at hl 1 rfl) ?_
    refine wk_ald (f := σ 10) hx hb hK hP 8 0 rfl rfl q.toNatClampNeg (hw.1) (Nat.lt_of_lt_of_le hw.2 hn6) (by decide) dX7_quarrel_110 ?_
    exact ret 111 ls (σ 10 q.toNatClampNeg) (by rw [quarrelV, if_pos ⟨h1, by decide, by decide⟩]; rfl) dX7_quarrel_111

abbrev rmX7_now : Room := { frames := 2, cells := 0, slots := 0, locals := 43 }
theorem hd_X7_now : yX7_now.cls = RX7 ∧ yX7_now.cls ≠ "java/lang/invoke/MethodHandle" ∧ yX7_now.cls ≠ "java/lang/invoke/VarHandle" ∧ (parseMethodDescriptor yX7_now.desc).map (fun d => d.parameters.length) = some 1 := by decide +kernel
set_option maxHeartbeats 4000000 in
set_option maxRecDepth 100000 in
theorem c_X7_now (l : Launch) (D : va_G) (c : Nat → ClassId) (x : Nat) (t : Nat → Nat) (p : Nat → Nat) (sp : Nat → Nat) (a : Nat → Nat) (b : Nat → Nat) (h : Nat → Nat) (g : Nat → Nat) (f : Nat → Nat) (o : Nat → Nat) (k : Int64) (σ : Nat → Nat → Int32) (η : Nat → Nat → Int32) (x2 : Int32) (hq : wfQ σ) : wk_RdI l yX7_now wsX7_now rmX7_now D (tysL c) [.ref x, .int x2] (lwW x t p sp a b h g f o k ++ affW c a σ ++ histW c h η) (nowV σ η x2) := by
  refine wk_mkR (cc := cX7_now) (maxL := 2) (rt := .int) (by decide) rfl (Nat.le_of_ble_eq_true rfl) rfl ?_
  intro pr ev ss mm args below meth cd ls H Q hst hP hK hl ret
  obtain ⟨hx, hb, hml, hown, hts, -⟩ := hst
  have hown : ss.vm.findClass RX7 = some mm.cls := hown
  have hl : lv_has ls 2 [(0, .ref x), (1, .int x2)] := hl
  have k1 := hts (.fieldLink RX7 29 "LastWord" "affairs" "LLastWord$Affairs;") (List.mem_of_getElem? (i := 1) rfl)
  have k2 := hts (.fieldLink RX7 142 "LastWord$Affairs" "today" "I") (List.mem_of_getElem? (i := 2) rfl)
  have k3 := hts (.fieldLink RX7 145 "LastWord$Affairs" "quarrels" "I") (List.mem_of_getElem? (i := 3) rfl)
  have k4 := hts (.fieldLink RX7 151 "LastWord$Affairs" "letters" "I") (List.mem_of_getElem? (i := 4) rfl)
  have k5 := hts (.fieldLink RX7 39 "LastWord" "history" "LLastWord$History;") (List.mem_of_getElem? (i := 5) rfl)
  have k6 := hts (.fieldLink RX7 154 "LastWord$History" "known" "I") (List.mem_of_getElem? (i := 6) rfl)
  have iX0 : ∀ w ∈ u_ws RX0 TX0 11, w ∈ wsX7_now := fun _ h => (List.mem_cons_of_mem _ (List.mem_append_left _ (List.mem_append_right _ h)))
  have iX4 : ∀ w ∈ u_ws RX4 TX4 3, w ∈ wsX7_now := fun _ h => (List.mem_cons_of_mem _ (List.mem_append_right _ h))
  have iX7 : ∀ w ∈ u_ws RX7 TX7 10, w ∈ wsX7_now := fun _ h => (List.mem_cons_of_mem _ (List.mem_append_left _ (List.mem_append_left _ (List.mem_append_right _ h))))
  refine lv_iload_n hx hb dX7_now_0 rfl (lv_at hl 1 rfl) ?_
  rcases wk_sw x2 5 (by omega) with hsw | ⟨ksw, hksw, rfl⟩
  · refine lv_tableOut (tgt := 76) hx hb dX7_now_1 (by omega) (by decide) ?_
    refine lv_iconst (v := -1) hx hb dX7_now_76 (by decide) ?_
    exact ret 77 ls ((-1)) (by rw [nowV, if_neg (fun q => by omega)]) dX7_now_77
  rcases (show ksw = 0 ∨ ksw = 1 ∨ ksw = 2 ∨ ksw = 3 ∨ ksw = 4 by omega) with rfl | rfl | rfl | rfl | rfl
  · refine lv_tableIn (off := 35) (tgt := 36) hx hb dX7_now_1 (by decide) (by decide) (by decide) (by decide) ?_
    refine lv_aload_n hx hb dX7_now_36 rfl (lv_at hl 0 rfl) ?_
    refine wg_X7_3 hx hb hts iX7 hown hK hP 0 rfl k1 (v := .ref (a 0)) rfl dX7_now_37 ?_
    refine wg_X0_0 hx hb hts iX0 hown hK hP 1 rfl k2 (v := .int (σ 0 0)) rfl dX7_now_40 ?_
    exact ret 43 ls (σ 0 0) (by rw [nowV, if_pos ⟨by decide, by decide⟩]; rfl) dX7_now_43
  · refine lv_tableIn (off := 43) (tgt := 44) hx hb dX7_now_1 (by decide) (by decide) (by decide) (by decide) ?_
    refine lv_aload_n hx hb dX7_now_44 rfl (lv_at hl 0 rfl) ?_
    refine wg_X7_3 hx hb hts iX7 hown hK hP 0 rfl k1 (v := .ref (a 0)) rfl dX7_now_45 ?_
    refine wg_X0_2 hx hb hts iX0 hown hK hP 1 rfl k3 (v := .int (σ 2 0)) rfl dX7_now_48 ?_
    exact ret 51 ls (σ 2 0) (by rw [nowV, if_pos ⟨by decide, by decide⟩]; rfl) dX7_now_51
  · refine lv_tableIn (off := 51) (tgt := 52) hx hb dX7_now_1 (by decide) (by decide) (by decide) (by decide) ?_
    refine lv_aload_n hx hb dX7_now_52 rfl (lv_at hl 0 rfl) ?_
    refine wg_X7_3 hx hb hts iX7 hown hK hP 0 rfl k1 (v := .ref (a 0)) rfl dX7_now_53 ?_
    refine wk_callRV (As := []) (rest := []) ⟨hx, hb, hml, hown, hts⟩ (c_X0_closedBits l D c a σ (hq)) (cwV 0 hts gX7_now_X0_closedBits rfl rfl rfl hd_X0_closedBits ⟨Nat.le_of_ble_eq_true rfl, Nat.le_of_ble_eq_true rfl⟩) hK hP [1, 2, 3, 4, 5, 6, 7, 8] rfl 0 rfl rfl rfl hl.1 rfl (Nat.le_of_ble_eq_true rfl) dX7_now_56 (Nat.zero_le _) (Nat.zero_le _) ?_
    exact ret 59 ls (obL (σ 8) (-9) (nQ σ)) (by rw [nowV, if_pos ⟨by decide, by decide⟩]; rfl) dX7_now_59
  · refine lv_tableIn (off := 59) (tgt := 60) hx hb dX7_now_1 (by decide) (by decide) (by decide) (by decide) ?_
    refine lv_aload_n hx hb dX7_now_60 rfl (lv_at hl 0 rfl) ?_
    refine wg_X7_3 hx hb hts iX7 hown hK hP 0 rfl k1 (v := .ref (a 0)) rfl dX7_now_61 ?_
    refine wg_X0_1 hx hb hts iX0 hown hK hP 1 rfl k4 (v := .int (σ 1 0)) rfl dX7_now_64 ?_
    exact ret 67 ls (σ 1 0) (by rw [nowV, if_pos ⟨by decide, by decide⟩]; rfl) dX7_now_67
  · refine lv_tableIn (off := 67) (tgt := 68) hx hb dX7_now_1 (by decide) (by decide) (by decide) (by decide) ?_
    refine lv_aload_n hx hb dX7_now_68 rfl (lv_at hl 0 rfl) ?_
    refine wg_X7_5 hx hb hts iX7 hown hK hP 0 rfl k5 (v := .ref (h 0)) rfl dX7_now_69 ?_
    refine wg_X4_1 hx hb hts iX4 hown hK hP 9 rfl k6 (v := .int (η 1 0)) rfl dX7_now_72 ?_
    exact ret 75 ls (η 1 0) (by rw [nowV, if_pos ⟨by decide, by decide⟩]; rfl) dX7_now_75

abbrev rmX7_writes : Room := { frames := 4, cells := 0, slots := 0, locals := 106 }
theorem hd_X7_writes : yX7_writes.cls = RX7 ∧ yX7_writes.cls ≠ "java/lang/invoke/MethodHandle" ∧ yX7_writes.cls ≠ "java/lang/invoke/VarHandle" ∧ (parseMethodDescriptor yX7_writes.desc).map (fun d => d.parameters.length) = some 2 := by decide +kernel
set_option maxHeartbeats 4000000 in
set_option maxRecDepth 100000 in
theorem c_X7_writes (l : Launch) (D : va_G) (c : Nat → ClassId) (x : Nat) (t : Nat → Nat) (p : Nat → Nat) (sp : Nat → Nat) (a : Nat → Nat) (b : Nat → Nat) (h : Nat → Nat) (g : Nat → Nat) (f : Nat → Nat) (o : Nat → Nat) (k : Int64) (π : Nat → Nat → Int32) (σ : Nat → Nat → Int32) (η : Nat → Nat → Int32) (ρ : Nat → Nat → Int32) (w : Int32) (s : Int32) (hp : wfP π) (ha : wfA π σ) (hh : wfH η) : wk_UpI l yX7_writes wsX7_writes rmX7_writes D (tysL c) [.ref x, .int w, .int s] (lwW x t p sp a b h g f o k ++ pageW c p π ++ affW c a σ ++ histW c h η ++ affW c (subA h (nX η)) ρ) (lwW x t p sp a b h g f o k ++ pageW c p π ++ affW c a (writesA π σ w s) ++ histW c h (writesH π σ η w s) ++ affW c (subA h (nX η)) (writesR π σ ρ w s)) (writesV π σ w s) := by
  refine wk_mkU (cc := cX7_writes) (maxL := 3) (rt := .int) (by decide) rfl (Nat.le_of_ble_eq_true rfl) rfl ?_
  intro A pr ev ss mm args below meth cd ls H H0 locs Q hst hP hK hD hS hA hl ret
  obtain ⟨hx, hb, hml, hown, hts, -⟩ := hst
  have hown : ss.vm.findClass RX7 = some mm.cls := hown
  have hl : lv_has ls 3 [(0, .ref x), (1, .int w), (2, .int s)] := hl
  have k1 := hts (.fieldLink RX7 29 "LastWord" "affairs" "LLastWord$Affairs;") (List.mem_of_getElem? (i := 1) rfl)
  have k2 := hts (.fieldLink RX7 145 "LastWord$Affairs" "quarrels" "I") (List.mem_of_getElem? (i := 2) rfl)
  have k3 := hts (.fieldLink RX7 39 "LastWord" "history" "LLastWord$History;") (List.mem_of_getElem? (i := 3) rfl)
  have k4 := hts (.fieldLink RX7 19 "LastWord" "page" "LLastWord$Page;") (List.mem_of_getElem? (i := 4) rfl)
  have iX0 : ∀ w ∈ u_ws RX0 TX0 11, w ∈ wsX7_writes := fun _ h => (List.mem_cons_of_mem _ (List.mem_append_left _ (List.mem_append_left _ (List.mem_append_right _ h))))
  have iX7 : ∀ w ∈ u_ws RX7 TX7 10, w ∈ wsX7_writes := fun _ h => (List.mem_cons_of_mem _ (List.mem_append_left _ (List.mem_append_left _ (List.mem_append_left _ (List.mem_append_right _ h)))))
  have hq6 := ha.1.2
  refine lv_aload_n hx hb dX7_writes_0 rfl (lv_at hl 0 rfl) ?_
  refine lv_iload_n hx hb dX7_writes_1 rfl (lv_at hl 1 rfl) ?_
  refine lv_iload_n hx hb dX7_writes_2 rfl (lv_at hl 2 rfl) ?_
  refine wk_callRV (As := [.int w, .int s]) (rest := []) ⟨hx, hb, hml, hown, hts⟩ (c_X7_mayStand l D c x t p sp a b h g f o k π w s) (cwV 2 hts gX7_writes_X7_mayStand rfl rfl rfl hd_X7_mayStand ⟨Nat.le_of_ble_eq_true rfl, Nat.le_of_ble_eq_true rfl⟩) hK hP [0, 1, 2, 3, 4, 5, 6, 7, 8, 9, 10] rfl 0 rfl rfl rfl hl.1 rfl (Nat.le_of_ble_eq_true rfl) dX7_writes_3 (Nat.zero_le _) (Nat.zero_le _) ?_
  refine wk_bnz (tgt := 11) hx hb dX7_writes_6 (by decide) (fun h1 => ?_) (fun h1 => ?_)
  rotate_left
  · refine lv_iconst (v := -1) hx hb dX7_writes_9 (by decide) ?_
    have eg13 : σ = writesA π σ w s := by rw [writesA, if_neg (fun q => absurd q.1 h1)]
    have hP : va_P D vwCl (lwW x t p sp a b h g f o k ++ pageW c p π ++ affW c a (writesA π σ w s) ++ histW c h η ++ affW c (subA h (nX η)) ρ) H := by rw [← eg13]; exact hP
    have hD : va_D A (lwW x t p sp a b h g f o k ++ pageW c p π ++ affW c a (writesA π σ w s) ++ histW c h η ++ affW c (subA h (nX η)) ρ) := by rw [← eg13]; exact hD
    have eg14 : η = writesH π σ η w s := by rw [writesH, if_neg (fun q => absurd q.1 h1)]
    have hP : va_P D vwCl (lwW x t p sp a b h g f o k ++ pageW c p π ++ affW c a (writesA π σ w s) ++ histW c h (writesH π σ η w s) ++ affW c (subA h (nX η)) ρ) H := by rw [← eg14]; exact hP
    have hD : va_D A (lwW x t p sp a b h g f o k ++ pageW c p π ++ affW c a (writesA π σ w s) ++ histW c h (writesH π σ η w s) ++ affW c (subA h (nX η)) ρ) := by rw [← eg14]; exact hD
    have eg15 : ρ = writesR π σ ρ w s := by rw [writesR, if_neg (fun q => absurd q.1 h1)]
    have hP : va_P D vwCl (lwW x t p sp a b h g f o k ++ pageW c p π ++ affW c a (writesA π σ w s) ++ histW c h (writesH π σ η w s) ++ affW c (subA h (nX η)) (writesR π σ ρ w s)) H := by rw [← eg15]; exact hP
    have hD : va_D A (lwW x t p sp a b h g f o k ++ pageW c p π ++ affW c a (writesA π σ w s) ++ histW c h (writesH π σ η w s) ++ affW c (subA h (nX η)) (writesR π σ ρ w s)) := by rw [← eg15]; exact hD
    exact ret 10 ls H _ ((-1)) (by rw [writesV, if_neg h1]) hP hS dX7_writes_10
  refine lv_aload_n hx hb dX7_writes_11 rfl (lv_at hl 0 rfl) ?_
  refine wg_X7_3 hx hb hts iX7 hown hK hP 0 rfl k1 (v := .ref (a 0)) rfl dX7_writes_12 ?_
  refine lv_iload_n hx hb dX7_writes_15 rfl (lv_at hl 1 rfl) ?_
  refine wk_callRV (As := [.int w]) (rest := []) ⟨hx, hb, hml, hown, hts⟩ (c_X0_hasLaid l D c a σ w) (cwV 1 hts gX7_writes_X0_hasLaid rfl rfl rfl hd_X0_hasLaid ⟨Nat.le_of_ble_eq_true rfl, Nat.le_of_ble_eq_true rfl⟩) hK hP [11, 12, 13, 14, 15, 16, 17, 18] rfl 0 rfl rfl rfl hl.1 rfl (Nat.le_of_ble_eq_true rfl) dX7_writes_16 (Nat.zero_le _) (Nat.zero_le _) ?_
  refine wk_bz (tgt := 25) hx hb dX7_writes_19 (by decide) (fun h2 => ?_) (fun h2 => ?_)
  rotate_left
  · refine lv_bipush (v := -2) hx hb dX7_writes_22 (by decide) ?_
    have eg10 : σ = writesA π σ w s := by rw [writesA, if_neg (fun q => absurd h2 q.2.1)]
    have hP : va_P D vwCl (lwW x t p sp a b h g f o k ++ pageW c p π ++ affW c a (writesA π σ w s) ++ histW c h η ++ affW c (subA h (nX η)) ρ) H := by rw [← eg10]; exact hP
    have hD : va_D A (lwW x t p sp a b h g f o k ++ pageW c p π ++ affW c a (writesA π σ w s) ++ histW c h η ++ affW c (subA h (nX η)) ρ) := by rw [← eg10]; exact hD
    have eg11 : η = writesH π σ η w s := by rw [writesH, if_neg (fun q => absurd h2 q.2.1)]
    have hP : va_P D vwCl (lwW x t p sp a b h g f o k ++ pageW c p π ++ affW c a (writesA π σ w s) ++ histW c h (writesH π σ η w s) ++ affW c (subA h (nX η)) ρ) H := by rw [← eg11]; exact hP
    have hD : va_D A (lwW x t p sp a b h g f o k ++ pageW c p π ++ affW c a (writesA π σ w s) ++ histW c h (writesH π σ η w s) ++ affW c (subA h (nX η)) ρ) := by rw [← eg11]; exact hD
    have eg12 : ρ = writesR π σ ρ w s := by rw [writesR, if_neg (fun q => absurd h2 q.2.1)]
    have hP : va_P D vwCl (lwW x t p sp a b h g f o k ++ pageW c p π ++ affW c a (writesA π σ w s) ++ histW c h (writesH π σ η w s) ++ affW c (subA h (nX η)) (writesR π σ ρ w s)) H := by rw [← eg12]; exact hP
    have hD : va_D A (lwW x t p sp a b h g f o k ++ pageW c p π ++ affW c a (writesA π σ w s) ++ histW c h (writesH π σ η w s) ++ affW c (subA h (nX η)) (writesR π σ ρ w s)) := by rw [← eg12]; exact hD
    exact ret 24 ls H _ ((-2)) (by rw [writesV, if_pos h1, if_pos h2]) hP hS dX7_writes_24
  refine lv_aload_n hx hb dX7_writes_25 rfl (lv_at hl 0 rfl) ?_
  refine wg_X7_3 hx hb hts iX7 hown hK hP 0 rfl k1 (v := .ref (a 0)) rfl dX7_writes_26 ?_
  refine wg_X0_2 hx hb hts iX0 hown hK hP 11 rfl k2 (v := .int (σ 2 0)) rfl dX7_writes_29 ?_
  refine wk_eqi (ha.1.1) ?_
  refine lv_bipush (v := 6) hx hb dX7_writes_32 (by decide) ?_
  refine wk_lt (tgt := 40) hx hb (nQ σ) 6 rfl rfl (by omega) (by omega) dX7_writes_34 (by decide) (fun h3 => ?_) (fun h3 => ?_)
  rotate_left
  · refine lv_bipush (v := -3) hx hb dX7_writes_37 (by decide) ?_
    have eg7 : σ = writesA π σ w s := by rw [writesA, if_neg (fun q => absurd q.2.2 (by omega))]
    have hP : va_P D vwCl (lwW x t p sp a b h g f o k ++ pageW c p π ++ affW c a (writesA π σ w s) ++ histW c h η ++ affW c (subA h (nX η)) ρ) H := by rw [← eg7]; exact hP
    have hD : va_D A (lwW x t p sp a b h g f o k ++ pageW c p π ++ affW c a (writesA π σ w s) ++ histW c h η ++ affW c (subA h (nX η)) ρ) := by rw [← eg7]; exact hD
    have eg8 : η = writesH π σ η w s := by rw [writesH, if_neg (fun q => absurd q.2.2 (by omega))]
    have hP : va_P D vwCl (lwW x t p sp a b h g f o k ++ pageW c p π ++ affW c a (writesA π σ w s) ++ histW c h (writesH π σ η w s) ++ affW c (subA h (nX η)) ρ) H := by rw [← eg8]; exact hP
    have hD : va_D A (lwW x t p sp a b h g f o k ++ pageW c p π ++ affW c a (writesA π σ w s) ++ histW c h (writesH π σ η w s) ++ affW c (subA h (nX η)) ρ) := by rw [← eg8]; exact hD
    have eg9 : ρ = writesR π σ ρ w s := by rw [writesR, if_neg (fun q => absurd q.2.2 (by omega))]
    have hP : va_P D vwCl (lwW x t p sp a b h g f o k ++ pageW c p π ++ affW c a (writesA π σ w s) ++ histW c h (writesH π σ η w s) ++ affW c (subA h (nX η)) (writesR π σ ρ w s)) H := by rw [← eg9]; exact hP
    have hD : va_D A (lwW x t p sp a b h g f o k ++ pageW c p π ++ affW c a (writesA π σ w s) ++ histW c h (writesH π σ η w s) ++ affW c (subA h (nX η)) (writesR π σ ρ w s)) := by rw [← eg9]; exact hD
    exact ret 39 ls H _ ((-3)) (by rw [writesV, if_pos h1, if_neg h2, if_neg (by omega)]) hP hS dX7_writes_39
  refine lv_aload_n hx hb dX7_writes_40 rfl (lv_at hl 0 rfl) ?_
  refine wg_X7_5 hx hb hts iX7 hown hK hP 0 rfl k3 (v := .ref (h 0)) rfl dX7_writes_41 ?_
  refine lv_aload_n hx hb dX7_writes_44 rfl (lv_at hl 0 rfl) ?_
  refine wg_X7_3 hx hb hts iX7 hown hK hP 0 rfl k1 (v := .ref (a 0)) rfl dX7_writes_45 ?_
  refine wk_callVV (As := [.ref (a 0)]) (rest := []) ⟨hx, hb, hml, hown, hts⟩ (c_X4_remember l D c h η ρ a σ (hh)) (cwV 1 hts gX7_writes_X4_remember rfl rfl rfl hd_X4_remember ⟨Nat.le_of_ble_eq_true rfl, Nat.le_of_ble_eq_true rfl⟩) hK hP hD hS hA [19, 20, 21, 22, 23, 24, 25, 26, 27, 28, 11, 12, 13, 14, 15, 16, 17, 18] [0, 1, 2, 3, 4, 5, 6, 7, 8, 9, 10] 29 rfl rfl [h 0, h 3, subA h (nX η) 0, subA h (nX η) 4, subA h (nX η) 5, subA h (nX η) 6, subA h (nX η) 7, subA h (nX η) 8, subA h (nX η) 9, subA h (nX η) 10, a 0, a 4, a 5, a 6, a 7, a 8, a 9, a 10] rfl rfl (ws' := lwW x t p sp a b h g f o k ++ pageW c p π ++ affW c a σ ++ histW c h (remF η) ++ affW c (subA h (nX η)) σ) rfl (wr := lwW x t p sp a b h g f o k ++ pageW c p π) rfl rfl rfl rfl 0 rfl rfl rfl hl.1 rfl (Nat.le_of_ble_eq_true rfl) dX7_writes_48 (Nat.zero_le _) (Nat.zero_le _) (fun H locs hP hD hS => ?_)
  refine lv_aload_n hx hb dX7_writes_51 rfl (lv_at hl 0 rfl) ?_
  refine wg_X7_3 hx hb hts iX7 hown hK hP 0 rfl k1 (v := .ref (a 0)) rfl dX7_writes_52 ?_
  refine lv_aload_n hx hb dX7_writes_55 rfl (lv_at hl 0 rfl) ?_
  refine wg_X7_1 hx hb hts iX7 hown hK hP 0 rfl k4 (v := .ref (p 0)) rfl dX7_writes_56 ?_
  refine lv_iload_n hx hb dX7_writes_59 rfl (lv_at hl 1 rfl) ?_
  refine lv_iload_n hx hb dX7_writes_60 rfl (lv_at hl 2 rfl) ?_
  refine wk_eqi (y := nI s.toNatClampNeg) ((sb_ix h1.2).1) ?_
  refine wk_callUV (As := [.ref (p 0), .int w, .int (nI s.toNatClampNeg)]) (rest := []) ⟨hx, hb, hml, hown, hts⟩ (c_X0_begin l D c a σ p π w s.toNatClampNeg (hp) (ha.1) (by omega) ((sb_ix h1.2).2)) (cwV 3 hts gX7_writes_X0_begin rfl rfl rfl hd_X0_begin ⟨Nat.le_of_ble_eq_true rfl, Nat.le_of_ble_eq_true rfl⟩) hK hP hD hS hA [11, 12, 13, 14, 15, 16, 17, 18, 1, 2, 3, 4, 5, 6, 7, 8, 9, 10] [0, 19, 20, 21, 22, 23, 24, 25, 26, 27, 28] 29 rfl rfl [a 0, a 4, a 5, a 6, a 7, a 8, a 9, a 10, p 0, p 2, p 3, p 4, p (5 + 0), p (5 + 1), p (5 + 2), p (5 + 3), p (5 + 4), p (5 + 5)] rfl rfl (ws' := lwW x t p sp a b h g f o k ++ pageW c p π ++ affW c a (beginF π σ w s.toNatClampNeg) ++ histW c h (remF η) ++ affW c (subA h (nX η)) σ) rfl (wr := lwW x t p sp a b h g f o k ++ histW c h (remF η) ++ affW c (subA h (nX η)) σ) rfl rfl rfl rfl 0 rfl rfl rfl hl.1 rfl (Nat.le_of_ble_eq_true rfl) dX7_writes_61 (Nat.zero_le _) (Nat.zero_le _) (fun H locs hP hD hS => ?_)
  have eg4 : beginF π σ w s.toNatClampNeg = writesA π σ w s := by rw [writesA, if_pos ⟨h1, h2, by omega⟩]
  have hP : va_P D vwCl (lwW x t p sp a b h g f o k ++ pageW c p π ++ affW c a (writesA π σ w s) ++ histW c h (remF η) ++ affW c (subA h (nX η)) σ) H := by rw [← eg4]; exact hP
  have hD : va_D A (lwW x t p sp a b h g f o k ++ pageW c p π ++ affW c a (writesA π σ w s) ++ histW c h (remF η) ++ affW c (subA h (nX η)) σ) := by rw [← eg4]; exact hD
  have eg5 : remF η = writesH π σ η w s := by rw [writesH, if_pos ⟨h1, h2, by omega⟩]
  have hP : va_P D vwCl (lwW x t p sp a b h g f o k ++ pageW c p π ++ affW c a (writesA π σ w s) ++ histW c h (writesH π σ η w s) ++ affW c (subA h (nX η)) σ) H := by rw [← eg5]; exact hP
  have hD : va_D A (lwW x t p sp a b h g f o k ++ pageW c p π ++ affW c a (writesA π σ w s) ++ histW c h (writesH π σ η w s) ++ affW c (subA h (nX η)) σ) := by rw [← eg5]; exact hD
  have eg6 : σ = writesR π σ ρ w s := by rw [writesR, if_pos ⟨h1, h2, by omega⟩]
  have hP : va_P D vwCl (lwW x t p sp a b h g f o k ++ pageW c p π ++ affW c a (writesA π σ w s) ++ histW c h (writesH π σ η w s) ++ affW c (subA h (nX η)) (writesR π σ ρ w s)) H := by rw [← eg6]; exact hP
  have hD : va_D A (lwW x t p sp a b h g f o k ++ pageW c p π ++ affW c a (writesA π σ w s) ++ histW c h (writesH π σ η w s) ++ affW c (subA h (nX η)) (writesR π σ ρ w s)) := by rw [← eg6]; exact hD
  exact ret 64 ls H _ (nI (nQ σ)) (by rw [writesV, if_pos h1, if_neg h2, if_pos (by omega)]) hP hS dX7_writes_64

abbrev rmX7_day : Room := { frames := 4, cells := 0, slots := 0, locals := 106 }
theorem hd_X7_day : yX7_day.cls = RX7 ∧ yX7_day.cls ≠ "java/lang/invoke/MethodHandle" ∧ yX7_day.cls ≠ "java/lang/invoke/VarHandle" ∧ (parseMethodDescriptor yX7_day.desc).map (fun d => d.parameters.length) = some 0 := by decide +kernel
set_option maxHeartbeats 4000000 in
set_option maxRecDepth 100000 in
theorem c_X7_day (l : Launch) (D : va_G) (c : Nat → ClassId) (x : Nat) (t : Nat → Nat) (p : Nat → Nat) (sp : Nat → Nat) (a : Nat → Nat) (b : Nat → Nat) (h : Nat → Nat) (g : Nat → Nat) (f : Nat → Nat) (o : Nat → Nat) (k : Int64) (π : Nat → Nat → Int32) (σ : Nat → Nat → Int32) (η : Nat → Nat → Int32) (ρ : Nat → Nat → Int32) (hp : wfP π) (ha : wfA π σ) (hh : wfH η) : wk_UpI l yX7_day wsX7_day rmX7_day D (tysL c) [.ref x] (lwW x t p sp a b h g f o k ++ pageW c p π ++ affW c a σ ++ histW c h η ++ affW c (subA h (nX η)) ρ) (lwW x t p sp a b h g f o k ++ pageW c p π ++ affW c a (dayAA π σ) ++ histW c h (dayH σ η) ++ affW c (subA h (nX η)) (dayR σ ρ)) (dayV π σ) := by
  refine wk_mkU (cc := cX7_day) (maxL := 1) (rt := .int) (by decide) rfl (Nat.le_of_ble_eq_true rfl) rfl ?_
  intro A pr ev ss mm args below meth cd ls H H0 locs Q hst hP hK hD hS hA hl ret
  obtain ⟨hx, hb, hml, hown, hts, -⟩ := hst
  have hown : ss.vm.findClass RX7 = some mm.cls := hown
  have hl : lv_has ls 1 [(0, .ref x)] := hl
  have k1 := hts (.fieldLink RX7 29 "LastWord" "affairs" "LLastWord$Affairs;") (List.mem_of_getElem? (i := 1) rfl)
  have k2 := hts (.fieldLink RX7 142 "LastWord$Affairs" "today" "I") (List.mem_of_getElem? (i := 2) rfl)
  have k3 := hts (.fieldLink RX7 39 "LastWord" "history" "LLastWord$History;") (List.mem_of_getElem? (i := 3) rfl)
  have k4 := hts (.fieldLink RX7 19 "LastWord" "page" "LLastWord$Page;") (List.mem_of_getElem? (i := 4) rfl)
  have iX0 : ∀ w ∈ u_ws RX0 TX0 11, w ∈ wsX7_day := fun _ h => (List.mem_cons_of_mem _ (List.mem_append_left _ (List.mem_append_left _ (List.mem_append_right _ h))))
  have iX7 : ∀ w ∈ u_ws RX7 TX7 10, w ∈ wsX7_day := fun _ h => (List.mem_cons_of_mem _ (List.mem_append_left _ (List.mem_append_left _ (List.mem_append_left _ (List.mem_append_right _ h)))))
  refine lv_aload_n hx hb dX7_day_0 rfl (lv_at hl 0 rfl) ?_
  refine wg_X7_3 hx hb hts iX7 hown hK hP 0 rfl k1 (v := .ref (a 0)) rfl dX7_day_1 ?_
  refine wg_X0_0 hx hb hts iX0 hown hK hP 11 rfl k2 (v := .int (σ 0 0)) rfl dX7_day_4 ?_
  refine lv_sipush (v := 999) hx hb dX7_day_7 (by decide) ?_
  refine lv_icmp_lt (tgt := 16) hx hb dX7_day_10 (by decide) (fun h1 => ?_) (fun h1 => ?_)
  rotate_left
  · refine lv_bipush (v := -2) hx hb dX7_day_13 (by decide) ?_
    have eg5 : σ = dayAA π σ := by rw [dayAA, if_neg h1]
    have hP : va_P D vwCl (lwW x t p sp a b h g f o k ++ pageW c p π ++ affW c a (dayAA π σ) ++ histW c h η ++ affW c (subA h (nX η)) ρ) H := by rw [← eg5]; exact hP
    have hD : va_D A (lwW x t p sp a b h g f o k ++ pageW c p π ++ affW c a (dayAA π σ) ++ histW c h η ++ affW c (subA h (nX η)) ρ) := by rw [← eg5]; exact hD
    have eg6 : η = dayH σ η := by rw [dayH, if_neg h1]
    have hP : va_P D vwCl (lwW x t p sp a b h g f o k ++ pageW c p π ++ affW c a (dayAA π σ) ++ histW c h (dayH σ η) ++ affW c (subA h (nX η)) ρ) H := by rw [← eg6]; exact hP
    have hD : va_D A (lwW x t p sp a b h g f o k ++ pageW c p π ++ affW c a (dayAA π σ) ++ histW c h (dayH σ η) ++ affW c (subA h (nX η)) ρ) := by rw [← eg6]; exact hD
    have eg7 : ρ = dayR σ ρ := by rw [dayR, if_neg h1]
    have hP : va_P D vwCl (lwW x t p sp a b h g f o k ++ pageW c p π ++ affW c a (dayAA π σ) ++ histW c h (dayH σ η) ++ affW c (subA h (nX η)) (dayR σ ρ)) H := by rw [← eg7]; exact hP
    have hD : va_D A (lwW x t p sp a b h g f o k ++ pageW c p π ++ affW c a (dayAA π σ) ++ histW c h (dayH σ η) ++ affW c (subA h (nX η)) (dayR σ ρ)) := by rw [← eg7]; exact hD
    exact ret 15 ls H _ ((-2)) (by rw [dayV, if_neg h1]) hP hS dX7_day_15
  refine lv_aload_n hx hb dX7_day_16 rfl (lv_at hl 0 rfl) ?_
  refine wg_X7_5 hx hb hts iX7 hown hK hP 0 rfl k3 (v := .ref (h 0)) rfl dX7_day_17 ?_
  refine lv_aload_n hx hb dX7_day_20 rfl (lv_at hl 0 rfl) ?_
  refine wg_X7_3 hx hb hts iX7 hown hK hP 0 rfl k1 (v := .ref (a 0)) rfl dX7_day_21 ?_
  refine wk_callVV (As := [.ref (a 0)]) (rest := []) ⟨hx, hb, hml, hown, hts⟩ (c_X4_remember l D c h η ρ a σ (hh)) (cwV 1 hts gX7_day_X4_remember rfl rfl rfl hd_X4_remember ⟨Nat.le_of_ble_eq_true rfl, Nat.le_of_ble_eq_true rfl⟩) hK hP hD hS hA [19, 20, 21, 22, 23, 24, 25, 26, 27, 28, 11, 12, 13, 14, 15, 16, 17, 18] [0, 1, 2, 3, 4, 5, 6, 7, 8, 9, 10] 29 rfl rfl [h 0, h 3, subA h (nX η) 0, subA h (nX η) 4, subA h (nX η) 5, subA h (nX η) 6, subA h (nX η) 7, subA h (nX η) 8, subA h (nX η) 9, subA h (nX η) 10, a 0, a 4, a 5, a 6, a 7, a 8, a 9, a 10] rfl rfl (ws' := lwW x t p sp a b h g f o k ++ pageW c p π ++ affW c a σ ++ histW c h (remF η) ++ affW c (subA h (nX η)) σ) rfl (wr := lwW x t p sp a b h g f o k ++ pageW c p π) rfl rfl rfl rfl 0 rfl rfl rfl hl.1 rfl (Nat.le_of_ble_eq_true rfl) dX7_day_24 (Nat.zero_le _) (Nat.zero_le _) (fun H locs hP hD hS => ?_)
  refine lv_aload_n hx hb dX7_day_27 rfl (lv_at hl 0 rfl) ?_
  refine wg_X7_3 hx hb hts iX7 hown hK hP 0 rfl k1 (v := .ref (a 0)) rfl dX7_day_28 ?_
  refine lv_aload_n hx hb dX7_day_31 rfl (lv_at hl 0 rfl) ?_
  refine wg_X7_1 hx hb hts iX7 hown hK hP 0 rfl k4 (v := .ref (p 0)) rfl dX7_day_32 ?_
  refine wk_callUV (As := [.ref (p 0)]) (rest := []) ⟨hx, hb, hml, hown, hts⟩ (c_X0_passDay l D c a σ p π (hp) (ha)) (cwV 1 hts gX7_day_X0_passDay rfl rfl rfl hd_X0_passDay ⟨Nat.le_of_ble_eq_true rfl, Nat.le_of_ble_eq_true rfl⟩) hK hP hD hS hA [11, 12, 13, 14, 15, 16, 17, 18, 1, 2, 3, 4, 5, 6, 7, 8, 9, 10] [0, 19, 20, 21, 22, 23, 24, 25, 26, 27, 28] 29 rfl rfl [a 0, a 4, a 5, a 6, a 7, a 8, a 9, a 10, p 0, p 2, p 3, p 4, p (5 + 0), p (5 + 1), p (5 + 2), p (5 + 3), p (5 + 4), p (5 + 5)] rfl rfl (ws' := lwW x t p sp a b h g f o k ++ pageW c p π ++ affW c a (passF π σ) ++ histW c h (remF η) ++ affW c (subA h (nX η)) σ) rfl (wr := lwW x t p sp a b h g f o k ++ histW c h (remF η) ++ affW c (subA h (nX η)) σ) rfl rfl rfl rfl 0 rfl rfl rfl hl.1 rfl (Nat.le_of_ble_eq_true rfl) dX7_day_35 (Nat.zero_le _) (Nat.zero_le _) (fun H locs hP hD hS => ?_)
  have eg2 : passF π σ = dayAA π σ := by rw [dayAA, if_pos h1]
  have hP : va_P D vwCl (lwW x t p sp a b h g f o k ++ pageW c p π ++ affW c a (dayAA π σ) ++ histW c h (remF η) ++ affW c (subA h (nX η)) σ) H := by rw [← eg2]; exact hP
  have hD : va_D A (lwW x t p sp a b h g f o k ++ pageW c p π ++ affW c a (dayAA π σ) ++ histW c h (remF η) ++ affW c (subA h (nX η)) σ) := by rw [← eg2]; exact hD
  have eg3 : remF η = dayH σ η := by rw [dayH, if_pos h1]
  have hP : va_P D vwCl (lwW x t p sp a b h g f o k ++ pageW c p π ++ affW c a (dayAA π σ) ++ histW c h (dayH σ η) ++ affW c (subA h (nX η)) σ) H := by rw [← eg3]; exact hP
  have hD : va_D A (lwW x t p sp a b h g f o k ++ pageW c p π ++ affW c a (dayAA π σ) ++ histW c h (dayH σ η) ++ affW c (subA h (nX η)) σ) := by rw [← eg3]; exact hD
  have eg4 : σ = dayR σ ρ := by rw [dayR, if_pos h1]
  have hP : va_P D vwCl (lwW x t p sp a b h g f o k ++ pageW c p π ++ affW c a (dayAA π σ) ++ histW c h (dayH σ η) ++ affW c (subA h (nX η)) (dayR σ ρ)) H := by rw [← eg4]; exact hP
  have hD : va_D A (lwW x t p sp a b h g f o k ++ pageW c p π ++ affW c a (dayAA π σ) ++ histW c h (dayH σ η) ++ affW c (subA h (nX η)) (dayR σ ρ)) := by rw [← eg4]; exact hD
  exact ret 38 ls H _ (passN π σ) (by rw [dayV, if_pos h1]) hP hS dX7_day_38

abbrev rmX7_lays : Room := { frames := 3, cells := 0, slots := 0, locals := 106 }
theorem hd_X7_lays : yX7_lays.cls = RX7 ∧ yX7_lays.cls ≠ "java/lang/invoke/MethodHandle" ∧ yX7_lays.cls ≠ "java/lang/invoke/VarHandle" ∧ (parseMethodDescriptor yX7_lays.desc).map (fun d => d.parameters.length) = some 1 := by decide +kernel
set_option maxHeartbeats 4000000 in
set_option maxRecDepth 100000 in
theorem c_X7_lays (l : Launch) (D : va_G) (c : Nat → ClassId) (x : Nat) (t : Nat → Nat) (p : Nat → Nat) (sp : Nat → Nat) (a : Nat → Nat) (b : Nat → Nat) (h : Nat → Nat) (g : Nat → Nat) (f : Nat → Nat) (o : Nat → Nat) (k : Int64) (π : Nat → Nat → Int32) (σ : Nat → Nat → Int32) (η : Nat → Nat → Int32) (ρ : Nat → Nat → Int32) (w : Int32) (hp : wfP π) (ha : wfA π σ) (hh : wfH η) : wk_UpI l yX7_lays wsX7_lays rmX7_lays D (tysL c) [.ref x, .int w] (lwW x t p sp a b h g f o k ++ pageW c p π ++ affW c a σ ++ histW c h η ++ affW c (subA h (nX η)) ρ) (lwW x t p sp a b h g f o k ++ pageW c p π ++ affW c a (laysA π σ w) ++ histW c h (laysH π σ η w) ++ affW c (subA h (nX η)) (laysR π σ ρ w)) (laysV π σ w) := by
  refine wk_mkU (cc := cX7_lays) (maxL := 2) (rt := .int) (by decide) rfl (Nat.le_of_ble_eq_true rfl) rfl ?_
  intro A pr ev ss mm args below meth cd ls H H0 locs Q hst hP hK hD hS hA hl ret
  obtain ⟨hx, hb, hml, hown, hts, -⟩ := hst
  have hown : ss.vm.findClass RX7 = some mm.cls := hown
  have hl : lv_has ls 2 [(0, .ref x), (1, .int w)] := hl
  have k1 := hts (.fieldLink RX7 19 "LastWord" "page" "LLastWord$Page;") (List.mem_of_getElem? (i := 1) rfl)
  have k2 := hts (.fieldLink RX7 29 "LastWord" "affairs" "LLastWord$Affairs;") (List.mem_of_getElem? (i := 2) rfl)
  have k3 := hts (.fieldLink RX7 39 "LastWord" "history" "LLastWord$History;") (List.mem_of_getElem? (i := 3) rfl)
  have iX7 : ∀ w ∈ u_ws RX7 TX7 10, w ∈ wsX7_lays := fun _ h => (List.mem_cons_of_mem _ (List.mem_append_left _ (List.mem_append_left _ (List.mem_append_left _ (List.mem_append_right _ h)))))
  refine lv_aload_n hx hb dX7_lays_0 rfl (lv_at hl 0 rfl) ?_
  refine wg_X7_1 hx hb hts iX7 hown hK hP 0 rfl k1 (v := .ref (p 0)) rfl dX7_lays_1 ?_
  refine lv_iload_n hx hb dX7_lays_4 rfl (lv_at hl 1 rfl) ?_
  refine wk_callRV (As := [.int w]) (rest := []) ⟨hx, hb, hml, hown, hts⟩ (c_X5_hasWriter l D c p π w) (cwV 1 hts gX7_lays_X5_hasWriter rfl rfl rfl hd_X5_hasWriter ⟨Nat.le_of_ble_eq_true rfl, Nat.le_of_ble_eq_true rfl⟩) hK hP [1, 2, 3, 4, 5, 6, 7, 8, 9, 10] rfl 0 rfl rfl rfl hl.1 rfl (Nat.le_of_ble_eq_true rfl) dX7_lays_5 (Nat.zero_le _) (Nat.zero_le _) ?_
  refine wk_bnz (tgt := 13) hx hb dX7_lays_8 (by decide) (fun h1 => ?_) (fun h1 => ?_)
  rotate_left
  · refine lv_iconst (v := -1) hx hb dX7_lays_11 (by decide) ?_
    have eg9 : σ = laysA π σ w := by rw [laysA, if_neg (fun q => absurd q.1 h1)]
    have hP : va_P D vwCl (lwW x t p sp a b h g f o k ++ pageW c p π ++ affW c a (laysA π σ w) ++ histW c h η ++ affW c (subA h (nX η)) ρ) H := by rw [← eg9]; exact hP
    have hD : va_D A (lwW x t p sp a b h g f o k ++ pageW c p π ++ affW c a (laysA π σ w) ++ histW c h η ++ affW c (subA h (nX η)) ρ) := by rw [← eg9]; exact hD
    have eg10 : η = laysH π σ η w := by rw [laysH, if_neg (fun q => absurd q.1 h1)]
    have hP : va_P D vwCl (lwW x t p sp a b h g f o k ++ pageW c p π ++ affW c a (laysA π σ w) ++ histW c h (laysH π σ η w) ++ affW c (subA h (nX η)) ρ) H := by rw [← eg10]; exact hP
    have hD : va_D A (lwW x t p sp a b h g f o k ++ pageW c p π ++ affW c a (laysA π σ w) ++ histW c h (laysH π σ η w) ++ affW c (subA h (nX η)) ρ) := by rw [← eg10]; exact hD
    have eg11 : ρ = laysR π σ ρ w := by rw [laysR, if_neg (fun q => absurd q.1 h1)]
    have hP : va_P D vwCl (lwW x t p sp a b h g f o k ++ pageW c p π ++ affW c a (laysA π σ w) ++ histW c h (laysH π σ η w) ++ affW c (subA h (nX η)) (laysR π σ ρ w)) H := by rw [← eg11]; exact hP
    have hD : va_D A (lwW x t p sp a b h g f o k ++ pageW c p π ++ affW c a (laysA π σ w) ++ histW c h (laysH π σ η w) ++ affW c (subA h (nX η)) (laysR π σ ρ w)) := by rw [← eg11]; exact hD
    exact ret 12 ls H _ ((-1)) (by rw [laysV, if_neg h1]) hP hS dX7_lays_12
  refine lv_aload_n hx hb dX7_lays_13 rfl (lv_at hl 0 rfl) ?_
  refine wg_X7_3 hx hb hts iX7 hown hK hP 0 rfl k2 (v := .ref (a 0)) rfl dX7_lays_14 ?_
  refine lv_iload_n hx hb dX7_lays_17 rfl (lv_at hl 1 rfl) ?_
  refine wk_callRV (As := [.int w]) (rest := []) ⟨hx, hb, hml, hown, hts⟩ (c_X0_hasLaid l D c a σ w) (cwV 1 hts gX7_lays_X0_hasLaid rfl rfl rfl hd_X0_hasLaid ⟨Nat.le_of_ble_eq_true rfl, Nat.le_of_ble_eq_true rfl⟩) hK hP [11, 12, 13, 14, 15, 16, 17, 18] rfl 0 rfl rfl rfl hl.1 rfl (Nat.le_of_ble_eq_true rfl) dX7_lays_18 (Nat.zero_le _) (Nat.zero_le _) ?_
  refine wk_bz (tgt := 27) hx hb dX7_lays_21 (by decide) (fun h2 => ?_) (fun h2 => ?_)
  rotate_left
  · refine lv_bipush (v := -2) hx hb dX7_lays_24 (by decide) ?_
    have eg6 : σ = laysA π σ w := by rw [laysA, if_neg (fun q => absurd h2 q.2)]
    have hP : va_P D vwCl (lwW x t p sp a b h g f o k ++ pageW c p π ++ affW c a (laysA π σ w) ++ histW c h η ++ affW c (subA h (nX η)) ρ) H := by rw [← eg6]; exact hP
    have hD : va_D A (lwW x t p sp a b h g f o k ++ pageW c p π ++ affW c a (laysA π σ w) ++ histW c h η ++ affW c (subA h (nX η)) ρ) := by rw [← eg6]; exact hD
    have eg7 : η = laysH π σ η w := by rw [laysH, if_neg (fun q => absurd h2 q.2)]
    have hP : va_P D vwCl (lwW x t p sp a b h g f o k ++ pageW c p π ++ affW c a (laysA π σ w) ++ histW c h (laysH π σ η w) ++ affW c (subA h (nX η)) ρ) H := by rw [← eg7]; exact hP
    have hD : va_D A (lwW x t p sp a b h g f o k ++ pageW c p π ++ affW c a (laysA π σ w) ++ histW c h (laysH π σ η w) ++ affW c (subA h (nX η)) ρ) := by rw [← eg7]; exact hD
    have eg8 : ρ = laysR π σ ρ w := by rw [laysR, if_neg (fun q => absurd h2 q.2)]
    have hP : va_P D vwCl (lwW x t p sp a b h g f o k ++ pageW c p π ++ affW c a (laysA π σ w) ++ histW c h (laysH π σ η w) ++ affW c (subA h (nX η)) (laysR π σ ρ w)) H := by rw [← eg8]; exact hP
    have hD : va_D A (lwW x t p sp a b h g f o k ++ pageW c p π ++ affW c a (laysA π σ w) ++ histW c h (laysH π σ η w) ++ affW c (subA h (nX η)) (laysR π σ ρ w)) := by rw [← eg8]; exact hD
    exact ret 26 ls H _ ((-2)) (by rw [laysV, if_pos h1, if_pos h2]) hP hS dX7_lays_26
  refine lv_aload_n hx hb dX7_lays_27 rfl (lv_at hl 0 rfl) ?_
  refine wg_X7_5 hx hb hts iX7 hown hK hP 0 rfl k3 (v := .ref (h 0)) rfl dX7_lays_28 ?_
  refine lv_aload_n hx hb dX7_lays_31 rfl (lv_at hl 0 rfl) ?_
  refine wg_X7_3 hx hb hts iX7 hown hK hP 0 rfl k2 (v := .ref (a 0)) rfl dX7_lays_32 ?_
  refine wk_callVV (As := [.ref (a 0)]) (rest := []) ⟨hx, hb, hml, hown, hts⟩ (c_X4_remember l D c h η ρ a σ (hh)) (cwV 1 hts gX7_lays_X4_remember rfl rfl rfl hd_X4_remember ⟨Nat.le_of_ble_eq_true rfl, Nat.le_of_ble_eq_true rfl⟩) hK hP hD hS hA [19, 20, 21, 22, 23, 24, 25, 26, 27, 28, 11, 12, 13, 14, 15, 16, 17, 18] [0, 1, 2, 3, 4, 5, 6, 7, 8, 9, 10] 29 rfl rfl [h 0, h 3, subA h (nX η) 0, subA h (nX η) 4, subA h (nX η) 5, subA h (nX η) 6, subA h (nX η) 7, subA h (nX η) 8, subA h (nX η) 9, subA h (nX η) 10, a 0, a 4, a 5, a 6, a 7, a 8, a 9, a 10] rfl rfl (ws' := lwW x t p sp a b h g f o k ++ pageW c p π ++ affW c a σ ++ histW c h (remF η) ++ affW c (subA h (nX η)) σ) rfl (wr := lwW x t p sp a b h g f o k ++ pageW c p π) rfl rfl rfl rfl 0 rfl rfl rfl hl.1 rfl (Nat.le_of_ble_eq_true rfl) dX7_lays_35 (Nat.zero_le _) (Nat.zero_le _) (fun H locs hP hD hS => ?_)
  refine lv_aload_n hx hb dX7_lays_38 rfl (lv_at hl 0 rfl) ?_
  refine wg_X7_3 hx hb hts iX7 hown hK hP 0 rfl k2 (v := .ref (a 0)) rfl dX7_lays_39 ?_
  refine lv_aload_n hx hb dX7_lays_42 rfl (lv_at hl 0 rfl) ?_
  refine wg_X7_1 hx hb hts iX7 hown hK hP 0 rfl k1 (v := .ref (p 0)) rfl dX7_lays_43 ?_
  refine lv_iload_n hx hb dX7_lays_46 rfl (lv_at hl 1 rfl) ?_
  refine wk_eqi (y := nI w.toNatClampNeg) ((wr_ix hp.n h1).1) ?_
  refine wk_callUV (As := [.ref (p 0), .int (nI w.toNatClampNeg)]) (rest := []) ⟨hx, hb, hml, hown, hts⟩ (c_X0_layDown l D c a σ p π w.toNatClampNeg (hp) (ha)) (cwV 2 hts gX7_lays_X0_layDown rfl rfl rfl hd_X0_layDown ⟨Nat.le_of_ble_eq_true rfl, Nat.le_of_ble_eq_true rfl⟩) hK hP hD hS hA [11, 12, 13, 14, 15, 16, 17, 18, 1, 2, 3, 4, 5, 6, 7, 8, 9, 10] [0, 19, 20, 21, 22, 23, 24, 25, 26, 27, 28] 29 rfl rfl [a 0, a 4, a 5, a 6, a 7, a 8, a 9, a 10, p 0, p 2, p 3, p 4, p (5 + 0), p (5 + 1), p (5 + 2), p (5 + 3), p (5 + 4), p (5 + 5)] rfl rfl (ws' := lwW x t p sp a b h g f o k ++ pageW c p π ++ affW c a (layF π σ w.toNatClampNeg) ++ histW c h (remF η) ++ affW c (subA h (nX η)) σ) rfl (wr := lwW x t p sp a b h g f o k ++ histW c h (remF η) ++ affW c (subA h (nX η)) σ) rfl rfl rfl rfl 0 rfl rfl rfl hl.1 rfl (Nat.le_of_ble_eq_true rfl) dX7_lays_47 (Nat.zero_le _) (Nat.zero_le _) (fun H locs hP hD hS => ?_)
  have eg3 : layF π σ w.toNatClampNeg = laysA π σ w := by rw [laysA, if_pos ⟨h1, h2⟩]
  have hP : va_P D vwCl (lwW x t p sp a b h g f o k ++ pageW c p π ++ affW c a (laysA π σ w) ++ histW c h (remF η) ++ affW c (subA h (nX η)) σ) H := by rw [← eg3]; exact hP
  have hD : va_D A (lwW x t p sp a b h g f o k ++ pageW c p π ++ affW c a (laysA π σ w) ++ histW c h (remF η) ++ affW c (subA h (nX η)) σ) := by rw [← eg3]; exact hD
  have eg4 : remF η = laysH π σ η w := by rw [laysH, if_pos ⟨h1, h2⟩]
  have hP : va_P D vwCl (lwW x t p sp a b h g f o k ++ pageW c p π ++ affW c a (laysA π σ w) ++ histW c h (laysH π σ η w) ++ affW c (subA h (nX η)) σ) H := by rw [← eg4]; exact hP
  have hD : va_D A (lwW x t p sp a b h g f o k ++ pageW c p π ++ affW c a (laysA π σ w) ++ histW c h (laysH π σ η w) ++ affW c (subA h (nX η)) σ) := by rw [← eg4]; exact hD
  have eg5 : σ = laysR π σ ρ w := by rw [laysR, if_pos ⟨h1, h2⟩]
  have hP : va_P D vwCl (lwW x t p sp a b h g f o k ++ pageW c p π ++ affW c a (laysA π σ w) ++ histW c h (laysH π σ η w) ++ affW c (subA h (nX η)) (laysR π σ ρ w)) H := by rw [← eg5]; exact hP
  have hD : va_D A (lwW x t p sp a b h g f o k ++ pageW c p π ++ affW c a (laysA π σ w) ++ histW c h (laysH π σ η w) ++ affW c (subA h (nX η)) (laysR π σ ρ w)) := by rw [← eg5]; exact hD
  exact ret 50 ls H _ (bcF (layB σ w.toNatClampNeg)) (by rw [laysV, if_pos h1, if_neg h2]) hP hS dX7_lays_50

abbrev rmX7_undo : Room := { frames := 3, cells := 0, slots := 0, locals := 106 }
theorem hd_X7_undo : yX7_undo.cls = RX7 ∧ yX7_undo.cls ≠ "java/lang/invoke/MethodHandle" ∧ yX7_undo.cls ≠ "java/lang/invoke/VarHandle" ∧ (parseMethodDescriptor yX7_undo.desc).map (fun d => d.parameters.length) = some 0 := by decide +kernel
set_option maxHeartbeats 4000000 in
set_option maxRecDepth 100000 in
theorem c_X7_undo (l : Launch) (D : va_G) (c : Nat → ClassId) (x : Nat) (t : Nat → Nat) (p : Nat → Nat) (sp : Nat → Nat) (a : Nat → Nat) (b : Nat → Nat) (h : Nat → Nat) (g : Nat → Nat) (f : Nat → Nat) (o : Nat → Nat) (k : Int64) (σ : Nat → Nat → Int32) (η : Nat → Nat → Int32) (ρ : Nat → Nat → Int32) (hh : wfH η) : wk_UpI l yX7_undo wsX7_undo rmX7_undo D (tysL c) [.ref x] (lwW x t p sp a b h g f o k ++ affW c a σ ++ histW c h η ++ affW c (subA h ((nX η + 9) % 10)) ρ) (lwW x t p sp a b h g f o k ++ affW c a (undoA η σ ρ) ++ histW c h (undoH η) ++ affW c (subA h ((nX η + 9) % 10)) ρ) (undoV η) := by
  refine wk_mkU (cc := cX7_undo) (maxL := 1) (rt := .int) (by decide) rfl (Nat.le_of_ble_eq_true rfl) rfl ?_
  intro A pr ev ss mm args below meth cd ls H H0 locs Q hst hP hK hD hS hA hl ret
  obtain ⟨hx, hb, hml, hown, hts, -⟩ := hst
  have hown : ss.vm.findClass RX7 = some mm.cls := hown
  have hl : lv_has ls 1 [(0, .ref x)] := hl
  have k1 := hts (.fieldLink RX7 39 "LastWord" "history" "LLastWord$History;") (List.mem_of_getElem? (i := 1) rfl)
  have k2 := hts (.fieldLink RX7 154 "LastWord$History" "known" "I") (List.mem_of_getElem? (i := 2) rfl)
  have k3 := hts (.fieldLink RX7 29 "LastWord" "affairs" "LLastWord$Affairs;") (List.mem_of_getElem? (i := 3) rfl)
  have iX4 : ∀ w ∈ u_ws RX4 TX4 3, w ∈ wsX7_undo := fun _ h => (List.mem_cons_of_mem _ (List.mem_append_left _ (List.mem_append_right _ h)))
  have iX7 : ∀ w ∈ u_ws RX7 TX7 10, w ∈ wsX7_undo := fun _ h => (List.mem_cons_of_mem _ (List.mem_append_left _ (List.mem_append_left _ (List.mem_append_right _ h))))
  refine lv_aload_n hx hb dX7_undo_0 rfl (lv_at hl 0 rfl) ?_
  refine wg_X7_5 hx hb hts iX7 hown hK hP 0 rfl k1 (v := .ref (h 0)) rfl dX7_undo_1 ?_
  refine wg_X4_1 hx hb hts iX4 hown hK hP 9 rfl k2 (v := .int (η 1 0)) rfl dX7_undo_4 ?_
  refine lv_if_ne (tgt := 13) hx hb dX7_undo_7 (by decide) (fun h1 => ?_) (fun h1 => ?_)
  rotate_left
  · refine lv_bipush (v := -2) hx hb dX7_undo_10 (by decide) ?_
    have eg4 : σ = undoA η σ ρ := by rw [undoA, if_pos h1]
    have hP : va_P D vwCl (lwW x t p sp a b h g f o k ++ affW c a (undoA η σ ρ) ++ histW c h η ++ affW c (subA h ((nX η + 9) % 10)) ρ) H := by rw [← eg4]; exact hP
    have hD : va_D A (lwW x t p sp a b h g f o k ++ affW c a (undoA η σ ρ) ++ histW c h η ++ affW c (subA h ((nX η + 9) % 10)) ρ) := by rw [← eg4]; exact hD
    have eg5 : η = undoH η := by rw [undoH, if_pos h1]
    have hP : va_P D vwCl (lwW x t p sp a b h g f o k ++ affW c a (undoA η σ ρ) ++ histW c h (undoH η) ++ affW c (subA h ((nX η + 9) % 10)) ρ) H := by rw [← eg5]; exact hP
    have hD : va_D A (lwW x t p sp a b h g f o k ++ affW c a (undoA η σ ρ) ++ histW c h (undoH η) ++ affW c (subA h ((nX η + 9) % 10)) ρ) := by rw [← eg5]; exact hD
    exact ret 12 ls H _ ((-2)) (by rw [undoV, if_pos h1]) hP hS dX7_undo_12
  refine lv_aload_n hx hb dX7_undo_13 rfl (lv_at hl 0 rfl) ?_
  refine wg_X7_5 hx hb hts iX7 hown hK hP 0 rfl k1 (v := .ref (h 0)) rfl dX7_undo_14 ?_
  refine lv_aload_n hx hb dX7_undo_17 rfl (lv_at hl 0 rfl) ?_
  refine wg_X7_3 hx hb hts iX7 hown hK hP 0 rfl k3 (v := .ref (a 0)) rfl dX7_undo_18 ?_
  refine wk_callVV (As := [.ref (a 0)]) (rest := []) ⟨hx, hb, hml, hown, hts⟩ (c_X4_recall l D c h η ρ a σ (hh)) (cwV 1 hts gX7_undo_X4_recall rfl rfl rfl hd_X4_recall ⟨Nat.le_of_ble_eq_true rfl, Nat.le_of_ble_eq_true rfl⟩) hK hP hD hS hA [9, 10, 11, 12, 13, 14, 15, 16, 17, 18, 1, 2, 3, 4, 5, 6, 7, 8] [0] 19 rfl rfl [h 0, h 3, subA h ((nX η + 9) % 10) 0, subA h ((nX η + 9) % 10) 4, subA h ((nX η + 9) % 10) 5, subA h ((nX η + 9) % 10) 6, subA h ((nX η + 9) % 10) 7, subA h ((nX η + 9) % 10) 8, subA h ((nX η + 9) % 10) 9, subA h ((nX η + 9) % 10) 10, a 0, a 4, a 5, a 6, a 7, a 8, a 9, a 10] rfl rfl (ws' := lwW x t p sp a b h g f o k ++ affW c a ρ ++ histW c h (recF η) ++ affW c (subA h ((nX η + 9) % 10)) ρ) rfl (wr := lwW x t p sp a b h g f o k) rfl rfl rfl rfl 0 rfl rfl rfl hl.1 rfl (Nat.le_of_ble_eq_true rfl) dX7_undo_21 (Nat.zero_le _) (Nat.zero_le _) (fun H locs hP hD hS => ?_)
  refine lv_aload_n hx hb dX7_undo_24 rfl (lv_at hl 0 rfl) ?_
  refine wg_X7_5 hx hb hts iX7 hown hK hP 0 rfl k1 (v := .ref (h 0)) rfl dX7_undo_25 ?_
  refine wg_X4_1 hx hb hts iX4 hown hK hP 9 rfl k2 (v := .int ((recF η) 1 0)) rfl dX7_undo_28 ?_
  have eg2 : ρ = undoA η σ ρ := by rw [undoA, if_neg h1]
  have hP : va_P D vwCl (lwW x t p sp a b h g f o k ++ affW c a (undoA η σ ρ) ++ histW c h (recF η) ++ affW c (subA h ((nX η + 9) % 10)) ρ) H := by rw [← eg2]; exact hP
  have hD : va_D A (lwW x t p sp a b h g f o k ++ affW c a (undoA η σ ρ) ++ histW c h (recF η) ++ affW c (subA h ((nX η + 9) % 10)) ρ) := by rw [← eg2]; exact hD
  have eg3 : recF η = undoH η := by rw [undoH, if_neg h1]
  have hP : va_P D vwCl (lwW x t p sp a b h g f o k ++ affW c a (undoA η σ ρ) ++ histW c h (undoH η) ++ affW c (subA h ((nX η + 9) % 10)) ρ) H := by rw [← eg3]; exact hP
  have hD : va_D A (lwW x t p sp a b h g f o k ++ affW c a (undoA η σ ρ) ++ histW c h (undoH η) ++ affW c (subA h ((nX η + 9) % 10)) ρ) := by rw [← eg3]; exact hD
  exact ret 31 ls H _ ((recF η) 1 0) (by rw [undoV, if_neg h1]; rfl) hP hS dX7_undo_31

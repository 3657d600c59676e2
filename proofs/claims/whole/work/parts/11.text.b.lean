abbrev rmX6_readWriter : Room := { frames := 4, cells := 0, slots := 0, locals := 84 }
theorem hd_X6_readWriter : yX6_readWriter.cls = RX6 ∧ yX6_readWriter.cls ≠ "java/lang/invoke/MethodHandle" ∧ yX6_readWriter.cls ≠ "java/lang/invoke/VarHandle" ∧ (parseMethodDescriptor yX6_readWriter.desc).map (fun d => d.parameters.length) = some 1 := by decide +kernel
set_option maxHeartbeats 4000000 in
set_option maxRecDepth 100000 in
theorem c_X6_readWriter (l : Launch) (D : va_G) (c : Nat → ClassId) (t : Nat → Nat) (τ : Nat → Nat → Int32) (p : Nat → Nat) (π : Nat → Nat → Int32) (hT : wfT τ) (hpl : wfL τ) (hn : wfN π) : wk_UpI l yX6_readWriter wsX6_readWriter rmX6_readWriter D (tysL c) [.ref (t 0), .ref (p 0)] (textW c t τ ++ pageW c p π) (textW c t (rwT π τ) ++ pageW c p (rwP π τ)) (if rwOK π τ then 1 else 0) := by
  refine wk_mkU (cc := cX6_readWriter) (maxL := 4) (rt := .boolean) (by decide) rfl (Nat.le_of_ble_eq_true rfl) wk_narZ ?_
  intro A pr ev ss mm args below meth cd ls H H0 locs Q hst hP hK hD hS hA hl ret
  obtain ⟨hx, hb, hml, hown, hts, -⟩ := hst
  have hown : ss.vm.findClass RX6 = some mm.cls := hown
  have hl : lv_has ls 4 [(0, .ref (t 0)), (1, .ref (p 0))] := hl
  have k1 := hts (.fieldLink RX6 51 "LastWord$Page" "writers" "I") (List.mem_of_getElem? (i := 1) rfl)
  have k2 := hts (.fieldLink RX6 58 "LastWord$Page" "pen" "[I") (List.mem_of_getElem? (i := 2) rfl)
  have k3 := hts (.fieldLink RX6 61 "LastWord$Text" "value" "I") (List.mem_of_getElem? (i := 3) rfl)
  have k4 := hts (.fieldLink RX6 64 "LastWord$Page" "hobby" "[I") (List.mem_of_getElem? (i := 4) rfl)
  have k5 := hts (.fieldLink RX6 67 "LastWord$Page" "near" "[[I") (List.mem_of_getElem? (i := 5) rfl)
  have iX5 : ∀ w ∈ u_ws RX5 TX5 5, w ∈ wsX6_readWriter := fun _ h => (List.mem_cons_of_mem _ (List.mem_append_left _ (List.mem_append_right _ h)))
  have iX6 : ∀ w ∈ u_ws RX6 TX6 7, w ∈ wsX6_readWriter := fun _ h => (List.mem_cons_of_mem _ (List.mem_append_right _ h))
  have hn6 := hn.2
  refine lv_aload_n hx hb dX6_readWriter_0 rfl (lv_at hl 1 rfl) ?_
  refine wg_X5_0 hx hb hts iX5 hown hK hP 2 rfl k1 (v := .int (π 0 0)) rfl dX6_readWriter_1 ?_
  refine wk_eqi (hn.1) ?_
  refine lv_istore_n (lv' := [(2, .int (nI (nW π))), (0, .ref (t 0)), (1, .ref (p 0))]) hx hb dX6_readWriter_4 rfl hl (by decide) rfl (fun ls hl => ?_)
  refine lv_iload_n hx hb dX6_readWriter_5 rfl (lv_at hl 0 rfl) ?_
  refine lv_bipush (v := 6) hx hb dX6_readWriter_6 (by decide) ?_
  refine wk_ge (tgt := 21) hx hb (nW π) 6 rfl rfl (by omega) (by omega) dX6_readWriter_8 (by decide) (fun h1 => ?_) (fun h1 => ?_)
  · refine lv_iconst (v := 0) hx hb dX6_readWriter_21 (by decide) ?_
    have eg2 : τ = rwT π τ := by rw [rwT, if_neg (by omega)]
    have hP : va_P D vwCl (textW c t (rwT π τ) ++ pageW c p π) H := by rw [← eg2]; exact hP
    have hD : va_D A (textW c t (rwT π τ) ++ pageW c p π) := by rw [← eg2]; exact hD
    have eg3 : π = rwP π τ := by rw [rwP, if_neg (by omega)]
    have hP : va_P D vwCl (textW c t (rwT π τ) ++ pageW c p (rwP π τ)) H := by rw [← eg3]; exact hP
    have hD : va_D A (textW c t (rwT π τ) ++ pageW c p (rwP π τ)) := by rw [← eg3]; exact hD
    exact ret 22 ls H _ 0 ((if_neg (fun q => absurd q.1 (by omega))).symm) hP hS dX6_readWriter_22
  refine lv_aload_n hx hb dX6_readWriter_11 rfl (lv_at hl 1 rfl) ?_
  refine lv_iconst (v := 1) hx hb dX6_readWriter_12 (by decide) ?_
  refine lv_bipush (v := 9) hx hb dX6_readWriter_13 (by decide) ?_
  refine wk_callUV (As := [.int 1, .int 9]) (rest := []) ⟨hx, hb, hml, hown, hts⟩ (c_X6_readNumber l D c t τ 1 9 (hT) (hpl)) (cwV 2 hts gX6_readWriter_X6_readNumber rfl rfl rfl hd_X6_readNumber ⟨Nat.le_of_ble_eq_true rfl, Nat.le_of_ble_eq_true rfl⟩) hK hP hD hS hA [0, 1] [2, 3, 4, 5, 6, 7, 8, 9, 10, 11] 12 rfl rfl [t 0, t 1] rfl rfl (ws' := textW c t (ntF τ) ++ pageW c p π) rfl (wr := pageW c p π) rfl rfl rfl rfl 0 rfl rfl rfl hl.1 rfl (Nat.le_of_ble_eq_true rfl) dX6_readWriter_15 (Nat.zero_le _) (Nat.zero_le _) (fun H locs hP hD hS => ?_)
  refine wk_bnz (tgt := 23) hx hb dX6_readWriter_18 (by decide) (fun h4 => ?_) (fun h4 => ?_)
  rotate_left
  · refine lv_iconst (v := 0) hx hb dX6_readWriter_21 (by decide) ?_
    have eg18 : ntF τ = rwT π τ := by rw [rwT, if_pos (by omega), show rwN τ = 0 from by rw [rwN, rwK, if_neg (show ¬ okK τ 0 from h4)], if_neg (by omega)]; try rfl
    have hP : va_P D vwCl (textW c t (rwT π τ) ++ pageW c p π) H := by rw [← eg18]; exact hP
    have hD : va_D A (textW c t (rwT π τ) ++ pageW c p π) := by rw [← eg18]; exact hD
    have eg19 : π = rwP π τ := by rw [rwP, if_pos (by omega), show rwN τ = 0 from by rw [rwN, rwK, if_neg (show ¬ okK τ 0 from h4)], if_neg (by omega)]; try rfl
    have hP : va_P D vwCl (textW c t (rwT π τ) ++ pageW c p (rwP π τ)) H := by rw [← eg19]; exact hP
    have hD : va_D A (textW c t (rwT π τ) ++ pageW c p (rwP π τ)) := by rw [← eg19]; exact hD
    exact ret 22 ls H _ 0 ((if_neg (fun q => absurd q.2 (by rw [rwN, rwK, if_neg (show ¬ okK τ 0 from h4)]; decide))).symm) hP hS dX6_readWriter_22
  have hk0 : okK τ 0 := h4
  refine lv_aload_n hx hb dX6_readWriter_23 rfl (lv_at hl 2 rfl) ?_
  refine wg_X5_2 hx hb hts iX5 hown hK hP 2 rfl k2 (v := .ref (p 2)) rfl dX6_readWriter_24 ?_
  refine lv_iload_n hx hb dX6_readWriter_27 rfl (lv_at hl 0 rfl) ?_
  refine lv_aload_n hx hb dX6_readWriter_28 rfl (lv_at hl 1 rfl) ?_
  refine wg_X6_6 hx hb hts iX6 hown hK hP 0 rfl k3 (v := .int ((ntF τ) 6 0)) rfl dX6_readWriter_29 ?_
  refine wk_eqi (ntF_V τ) ?_
  refine lv_topi (fun v0 e0 => ?_)
  refine wk_ast hx hb hK hP hD hS 3 0 rfl rfl (nW π) rfl (by omega) (by decide) dX6_readWriter_32 (ws' := textW c t (ntF τ) ++ pageW c p (va_up π 2 (upd (π 2) (nW π) v0))) rfl (fun H locs hP hD hS => ?_)
  refine lv_aload_n hx hb dX6_readWriter_33 rfl (lv_at hl 1 rfl) ?_
  refine lv_iconst (v := 0) hx hb dX6_readWriter_34 (by decide) ?_
  refine lv_iconst (v := 5) hx hb dX6_readWriter_35 (by decide) ?_
  refine wk_callUV (As := [.int 0, .int 5]) (rest := []) ⟨hx, hb, hml, hown, hts⟩ (c_X6_readNumber l D c t (ntF τ) 0 5 (tsK_T hT 1) (tsK_L hT hpl 1)) (cwV 2 hts gX6_readWriter_X6_readNumber rfl rfl rfl hd_X6_readNumber ⟨Nat.le_of_ble_eq_true rfl, Nat.le_of_ble_eq_true rfl⟩) hK hP hD hS hA [0, 1] [2, 3, 4, 5, 6, 7, 8, 9, 10, 11] 12 rfl rfl [t 0, t 1] rfl rfl (ws' := textW c t (ntF (ntF τ)) ++ pageW c p (va_up π 2 (upd (π 2) (nW π) v0))) rfl (wr := pageW c p (va_up π 2 (upd (π 2) (nW π) v0))) rfl rfl rfl rfl 0 rfl rfl rfl hl.1 rfl (Nat.le_of_ble_eq_true rfl) dX6_readWriter_36 (Nat.zero_le _) (Nat.zero_le _) (fun H locs hP hD hS => ?_)
  refine wk_bnz (tgt := 44) hx hb dX6_readWriter_39 (by decide) (fun h5 => ?_) (fun h5 => ?_)
  rotate_left
  · refine lv_iconst (v := 0) hx hb dX6_readWriter_42 (by decide) ?_
    have eg16 : ntF (ntF τ) = rwT π τ := by rw [rwT, if_pos (by omega), show rwN τ = 1 from by rw [rwN, rwK, if_pos hk0, rwK, if_neg (show ¬ okK τ 1 from h5)], if_neg (by omega)]; try rfl
    have hP : va_P D vwCl (textW c t (rwT π τ) ++ pageW c p (va_up π 2 (upd (π 2) (nW π) v0))) H := by rw [← eg16]; exact hP
    have hD : va_D A (textW c t (rwT π τ) ++ pageW c p (va_up π 2 (upd (π 2) (nW π) v0))) := by rw [← eg16]; exact hD
    have eg17 : va_up π 2 (upd (π 2) (nW π) v0) = rwP π τ := by rw [e0, rwP, if_pos (by omega), show rwN τ = 1 from by rw [rwN, rwK, if_pos hk0, rwK, if_neg (show ¬ okK τ 1 from h5)], if_neg (by omega)]; exact wrP_1 π (nW π) τ
    have hP : va_P D vwCl (textW c t (rwT π τ) ++ pageW c p (rwP π τ)) H := by rw [← eg17]; exact hP
    have hD : va_D A (textW c t (rwT π τ) ++ pageW c p (rwP π τ)) := by rw [← eg17]; exact hD
    exact ret 43 ls H _ 0 ((if_neg (fun q => absurd q.2 (by rw [rwN, rwK, if_pos hk0, rwK, if_neg (show ¬ okK τ 1 from h5)]; decide))).symm) hP hS dX6_readWriter_43
  have hk1 : okK τ 1 := h5
  refine lv_aload_n hx hb dX6_readWriter_44 rfl (lv_at hl 2 rfl) ?_
  refine wg_X5_3 hx hb hts iX5 hown hK hP 2 rfl k4 (v := .ref (p 3)) rfl dX6_readWriter_45 ?_
  refine lv_iload_n hx hb dX6_readWriter_48 rfl (lv_at hl 0 rfl) ?_
  refine lv_aload_n hx hb dX6_readWriter_49 rfl (lv_at hl 1 rfl) ?_
  refine wg_X6_6 hx hb hts iX6 hown hK hP 0 rfl k3 (v := .int ((ntF (ntF τ)) 6 0)) rfl dX6_readWriter_50 ?_
  refine wk_eqi (ntF_V (ntF τ)) ?_
  refine lv_topi (fun v1 e1 => ?_)
  refine wk_ast hx hb hK hP hD hS 4 0 rfl rfl (nW π) rfl (by omega) (by decide) dX6_readWriter_53 (ws' := textW c t (ntF (ntF τ)) ++ pageW c p (va_up (va_up π 2 (upd (π 2) (nW π) v0)) 3 (upd (π 3) (nW π) v1))) rfl (fun H locs hP hD hS => ?_)
  refine lv_iconst (v := 0) hx hb dX6_readWriter_54 (by decide) ?_
  refine lv_istore_n (lv' := [(3, .int 0), (2, .int (nI (nW π))), (0, .ref (t 0)), (1, .ref (p 0))]) hx hb dX6_readWriter_55 rfl hl (by decide) rfl (fun ls hl => ?_)
  have lp56 : ∀ (n : Nat) (i : Nat), (i ≤ 5) → (rwK τ (5 - i) (i + 2) = rwN τ) → 5 - i < n → ∀ (H : Heap) (locs : List Loc), va_P D vwCl (textW c t (tsK τ (i + 2)) ++ pageW c p (wrP π (nW π) τ (i + 2))) H → va_D A (textW c t (tsK τ (i + 2)) ++ pageW c p (wrP π (nW π) τ (i + 2))) → va_S A H0 H locs → ∀ ls : Array Slot, lv_has ls 4 [(0, .ref (t 0)), (1, .ref (p 0)), (2, .int (nI (nW π))), (3, .int (nI i))] → W pr l ev rmX6_readWriter ss mm args below meth cd H locs 0 0 Q (F0 mm 56 ls []) := by
    intro n
    induction n with
    | zero => intro i hi hv hn; exact absurd hn (Nat.not_lt_zero _)
    | succ n ih56 =>
      intro i hi hv hn H locs hP hD hS ls hl
      refine lv_iload_n hx hb dX6_readWriter_56 rfl (lv_at hl 3 rfl) ?_
      refine lv_iconst (v := 5) hx hb dX6_readWriter_57 (by decide) ?_
      refine wk_ge (tgt := 91) hx hb i 5 rfl rfl (by omega) (by omega) dX6_readWriter_58 (by decide) (fun h6 => ?_) (fun h6 => ?_)
      · refine lv_aload_n hx hb dX6_readWriter_91 rfl (lv_at hl 1 rfl) ?_
        refine lv_iload_n hx hb dX6_readWriter_92 rfl (lv_at hl 2 rfl) ?_
        refine lv_iconst (v := 1) hx hb dX6_readWriter_93 (by decide) ?_
        refine lv_iadd hx hb dX6_readWriter_94 ?_
        refine wk_eqi (nI_add (nW π) 1) ?_
        refine wp_X5_0 hx hb hts iX5 hown hK hP hD hS 2 rfl k1 (Nat.le_of_ble_eq_true rfl) dX6_readWriter_95 (ws' := textW c t (tsK τ (i + 2)) ++ pageW c p (va_up (wrP π (nW π) τ (i + 2)) 0 (fun _ => nI ((nW π) + 1)))) rfl (fun H locs hP hD hS => ?_)
        refine lv_iconst (v := 1) hx hb dX6_readWriter_98 (by decide) ?_
        have eg7 : tsK τ (i + 2) = rwT π τ := by rw [rwT, if_pos (by omega), if_pos (show rwN τ = 7 by rw [← hv, show 5 - i = 0 by omega, rwK]; omega), show i = 5 by omega]
        have hP : va_P D vwCl (textW c t (rwT π τ) ++ pageW c p (va_up (wrP π (nW π) τ (i + 2)) 0 (fun _ => nI ((nW π) + 1)))) H := by rw [← eg7]; exact hP
        have hD : va_D A (textW c t (rwT π τ) ++ pageW c p (va_up (wrP π (nW π) τ (i + 2)) 0 (fun _ => nI ((nW π) + 1)))) := by rw [← eg7]; exact hD
        have eg8 : va_up (wrP π (nW π) τ (i + 2)) 0 (fun _ => nI ((nW π) + 1)) = rwP π τ := by rw [rwP, if_pos (by omega), if_pos (show rwN τ = 7 by rw [← hv, show 5 - i = 0 by omega, rwK]; omega), show i = 5 by omega]
        have hP : va_P D vwCl (textW c t (rwT π τ) ++ pageW c p (rwP π τ)) H := by rw [← eg8]; exact hP
        have hD : va_D A (textW c t (rwT π τ) ++ pageW c p (rwP π τ)) := by rw [← eg8]; exact hD
        exact ret 99 ls H _ 1 ((if_pos ⟨by omega, by rw [← hv, show 5 - i = 0 by omega, rwK]; omega⟩).symm) hP hS dX6_readWriter_99
      refine lv_aload_n hx hb dX6_readWriter_61 rfl (lv_at hl 0 rfl) ?_
      refine lv_iconst (v := 0) hx hb dX6_readWriter_62 (by decide) ?_
      refine lv_bipush (v := 9) hx hb dX6_readWriter_63 (by decide) ?_
      refine wk_callUV (As := [.int 0, .int 9]) (rest := []) ⟨hx, hb, hml, hown, hts⟩ (c_X6_readNumber l D c t (tsK τ (i + 2)) 0 9 (tsK_T hT (i + 2)) (tsK_L hT hpl (i + 2))) (cwV 2 hts gX6_readWriter_X6_readNumber rfl rfl rfl hd_X6_readNumber ⟨Nat.le_of_ble_eq_true rfl, Nat.le_of_ble_eq_true rfl⟩) hK hP hD hS hA [0, 1] [2, 3, 4, 5, 6, 7, 8, 9, 10, 11] 12 rfl rfl [t 0, t 1] rfl rfl (ws' := textW c t (ntF (tsK τ (i + 2))) ++ pageW c p (wrP π (nW π) τ (i + 2))) rfl (wr := pageW c p (wrP π (nW π) τ (i + 2))) rfl rfl rfl rfl 0 rfl rfl rfl hl.1 rfl (Nat.le_of_ble_eq_true rfl) dX6_readWriter_65 (Nat.zero_le _) (Nat.zero_le _) (fun H locs hP hD hS => ?_)
      refine wk_bnz (tgt := 73) hx hb dX6_readWriter_68 (by decide) (fun h9 => ?_) (fun h9 => ?_)
      rotate_left
      · have hk : ¬ okK τ (i + 2) := by unfold okK loK hiK; rw [if_neg (by omega), if_neg (by omega)]; exact h9
        refine lv_iconst (v := 0) hx hb dX6_readWriter_71 (by decide) ?_
        have eg12 : ntF (tsK τ (i + 2)) = rwT π τ := by rw [rwT, if_pos (by omega), show rwN τ = i + 2 from by rw [← hv, show 5 - i = (5 - (i + 1)) + 1 by omega, rwK, if_neg hk], if_neg (by omega)]; try rfl
        have hP : va_P D vwCl (textW c t (rwT π τ) ++ pageW c p (wrP π (nW π) τ (i + 2))) H := by rw [← eg12]; exact hP
        have hD : va_D A (textW c t (rwT π τ) ++ pageW c p (wrP π (nW π) τ (i + 2))) := by rw [← eg12]; exact hD
        have eg13 : wrP π (nW π) τ (i + 2) = rwP π τ := by rw [rwP, if_pos (by omega), show rwN τ = i + 2 from by rw [← hv, show 5 - i = (5 - (i + 1)) + 1 by omega, rwK, if_neg hk], if_neg (by omega)]; try rfl
        have hP : va_P D vwCl (textW c t (rwT π τ) ++ pageW c p (rwP π τ)) H := by rw [← eg13]; exact hP
        have hD : va_D A (textW c t (rwT π τ) ++ pageW c p (rwP π τ)) := by rw [← eg13]; exact hD
        exact ret 72 ls H _ 0 ((if_neg (fun q => absurd q.2 (by rw [← hv, show 5 - i = (5 - (i + 1)) + 1 by omega, rwK, if_neg hk]; omega))).symm) hP hS dX6_readWriter_72
      have hk : okK τ (i + 2) := by unfold okK loK hiK; rw [if_neg (by omega), if_neg (by omega)]; exact h9
      refine lv_aload_n hx hb dX6_readWriter_73 rfl (lv_at hl 1 rfl) ?_
      refine wg_X5_4 hx hb hts iX5 hown hK hP 2 rfl k5 (v := .ref (p 4)) rfl dX6_readWriter_74 ?_
      refine lv_iload_n hx hb dX6_readWriter_77 rfl (lv_at hl 2 rfl) ?_
      refine wk_aald hx hb hK hP 5 2 rfl rfl rfl (nW π) rfl (by omega) (by decide) rfl dX6_readWriter_78 ?_
      refine lv_iload_n hx hb dX6_readWriter_79 rfl (lv_at hl 3 rfl) ?_
      refine lv_aload_n hx hb dX6_readWriter_80 rfl (lv_at hl 0 rfl) ?_
      refine wg_X6_6 hx hb hts iX6 hown hK hP 0 rfl k3 (v := .int ((ntF (tsK τ (i + 2))) 6 0)) rfl dX6_readWriter_81 ?_
      refine wk_eqi (ntF_V (tsK τ (i + 2))) ?_
      refine lv_topi (fun v2 e2 => ?_)
      refine wk_ast hx hb hK hP hD hS (6 + ((nW π))) 0 (pageW_row (by omega) (a := (textW c t (ntF (tsK τ (i + 2))) : va_W)) (b := ([] : va_W)) rfl rfl) rfl i rfl (by omega) (by decide) dX6_readWriter_84 (ws' := textW c t (ntF (tsK τ (i + 2))) ++ pageW c p (setN (wrP π (nW π) τ (i + 2)) ((nW π)) i v2)) (pageW_set (by omega) (a := (textW c t (ntF (tsK τ (i + 2))) : va_W)) (b := ([] : va_W)) rfl rfl rfl) (fun H locs hP hD hS => ?_)
      refine lv_iinc (v := nI (i + 1)) (lv' := [(3, .int (nI (i + 1))), (0, .ref (t 0)), (1, .ref (p 0)), (2, .int (nI (nW π)))]) hx hb dX6_readWriter_85 hl (k := 3) rfl (nI_inc i 1) (by decide) rfl (fun ls hl => ?_)
      refine lv_goto (tgt := 56) hx hb dX6_readWriter_88 (by decide) ?_
      have eg10 : ntF (tsK τ (i + 2)) = tsK τ ((i + 1) + 2) := by rfl
      have hP : va_P D vwCl (textW c t (tsK τ ((i + 1) + 2)) ++ pageW c p (setN (wrP π (nW π) τ (i + 2)) ((nW π)) i v2)) H := by rw [← eg10]; exact hP
      have hD : va_D A (textW c t (tsK τ ((i + 1) + 2)) ++ pageW c p (setN (wrP π (nW π) τ (i + 2)) ((nW π)) i v2)) := by rw [← eg10]; exact hD
      have eg11 : setN (wrP π (nW π) τ (i + 2)) ((nW π)) i v2 = wrP π (nW π) τ ((i + 1) + 2) := by rw [e2]; exact wrP_near π (nW π) τ i
      have hP : va_P D vwCl (textW c t (tsK τ ((i + 1) + 2)) ++ pageW c p (wrP π (nW π) τ ((i + 1) + 2))) H := by rw [← eg11]; exact hP
      have hD : va_D A (textW c t (tsK τ ((i + 1) + 2)) ++ pageW c p (wrP π (nW π) τ ((i + 1) + 2))) := by rw [← eg11]; exact hD
      have hl : lv_has ls 4 [(0, .ref (t 0)), (1, .ref (p 0)), (2, .int (nI (nW π))), (3, .int (nI (i + 1)))] := lv_sub hl [1, 2, 3, 0] rfl
      exact ih56 (i + 1) (by omega) (by rw [← hv, show 5 - i = (5 - (i + 1)) + 1 by omega, rwK, if_pos hk]) (by omega) H _ hP hD hS ls hl
  have eg14 : ntF (ntF τ) = tsK τ (0 + 2) := by exact tsK_2 τ
  have hP : va_P D vwCl (textW c t (tsK τ (0 + 2)) ++ pageW c p (va_up (va_up π 2 (upd (π 2) (nW π) v0)) 3 (upd (π 3) (nW π) v1))) H := by rw [← eg14]; exact hP
  have hD : va_D A (textW c t (tsK τ (0 + 2)) ++ pageW c p (va_up (va_up π 2 (upd (π 2) (nW π) v0)) 3 (upd (π 3) (nW π) v1))) := by rw [← eg14]; exact hD
  have eg15 : va_up (va_up π 2 (upd (π 2) (nW π) v0)) 3 (upd (π 3) (nW π) v1) = wrP π (nW π) τ (0 + 2) := by rw [e0, e1]; exact wrP_2 π (nW π) τ
  have hP : va_P D vwCl (textW c t (tsK τ (0 + 2)) ++ pageW c p (wrP π (nW π) τ (0 + 2))) H := by rw [← eg15]; exact hP
  have hD : va_D A (textW c t (tsK τ (0 + 2)) ++ pageW c p (wrP π (nW π) τ (0 + 2))) := by rw [← eg15]; exact hD
  have hl : lv_has ls 4 [(0, .ref (t 0)), (1, .ref (p 0)), (2, .int (nI (nW π))), (3, .int 0)] := lv_sub hl [2, 3, 1, 0] rfl
  have hl := wk_lset (y := nI 0) (lv_sub (l' := [(3, .int 0), (0, .ref (t 0)), (1, .ref (p 0)), (2, .int (nI (nW π)))]) hl [3, 0, 1, 2] rfl) (by rfl)
  have hl : lv_has ls 4 [(0, .ref (t 0)), (1, .ref (p 0)), (2, .int (nI (nW π))), (3, .int (nI 0))] := lv_sub hl [1, 2, 3, 0] rfl
  exact lp56 _ 0 (by omega) (rwN_2 hk0 hk1) (Nat.lt_succ_self _) H locs hP hD hS ls hl

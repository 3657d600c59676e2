abbrev rmX6_readInto : Room := { frames := 5, cells := 0, slots := 0, locals := 107 }
theorem hd_X6_readInto : yX6_readInto.cls = RX6 ∧ yX6_readInto.cls ≠ "java/lang/invoke/MethodHandle" ∧ yX6_readInto.cls ≠ "java/lang/invoke/VarHandle" ∧ (parseMethodDescriptor yX6_readInto.desc).map (fun d => d.parameters.length) = some 1 := by decide +kernel
set_option maxHeartbeats 4000000 in
set_option maxRecDepth 100000 in
theorem c_X6_readInto (l : Launch) (D : va_G) (c : Nat → ClassId) (t : Nat → Nat) (τ : Nat → Nat → Int32) (p : Nat → Nat) (π : Nat → Nat → Int32) (hT : wfT τ) : wk_UpI l yX6_readInto wsX6_readInto rmX6_readInto D (tysL c) [.ref (t 0), .ref (p 0)] (textW c t τ ++ pageW c p π) (textW c t ((riE (ri0 τ) (blankF π) 8 0).1) ++ pageW c p ((riE (ri0 τ) (blankF π) 8 0).2)) (riV (ri0 τ) (blankF π) 8 0) := by
  refine wk_mkU (cc := cX6_readInto) (maxL := 4) (rt := .int) (by decide) rfl (Nat.le_of_ble_eq_true rfl) rfl ?_
  intro A pr ev ss mm args below meth cd ls H H0 locs Q hst hP hK hD hS hA hl ret
  obtain ⟨hx, hb, hml, hown, hts, -⟩ := hst
  have hown : ss.vm.findClass RX6 = some mm.cls := hown
  have hl : lv_has ls 4 [(0, .ref (t 0)), (1, .ref (p 0))] := hl
  have k1 := hts (.fieldLink RX6 24 "LastWord$Text" "place" "I") (List.mem_of_getElem? (i := 1) rfl)
  have k2 := hts (.fieldLink RX6 27 "LastWord$Text" "termTold" "Z") (List.mem_of_getElem? (i := 2) rfl)
  have k4 := hts (.fieldLink RX6 48 "LastWord$Text" "start" "I") (List.mem_of_getElem? (i := 4) rfl)
  have k3 := hts (.fieldLink RX6 34 "LastWord$Text" "token" "I") (List.mem_of_getElem? (i := 3) rfl)
  have iX6 : ∀ w ∈ u_ws RX6 TX6 7, w ∈ wsX6_readInto := fun _ h => (List.mem_cons_of_mem _ (List.mem_append_left _ (List.mem_append_right _ h)))
  have h0L : wfL (ri0 τ) := by show (0 : Int32) = nI (0 : Int32).toNatClampNeg ∧ (0 : Int32).toNatClampNeg ≤ lnT τ; exact ⟨by decide, by rw [show (0 : Int32).toNatClampNeg = 0 from by decide]; omega⟩
  have h0N : wfN (blankF π) := by show (0 : Int32) = nI (0 : Int32).toNatClampNeg ∧ (0 : Int32).toNatClampNeg ≤ 6; decide
  refine lv_aload_n hx hb dX6_readInto_0 rfl (lv_at hl 1 rfl) ?_
  refine wk_callVV (As := []) (rest := []) ⟨hx, hb, hml, hown, hts⟩ (c_X5_blank l D c p π) (cwV 0 hts gX6_readInto_X5_blank rfl rfl rfl hd_X5_blank ⟨Nat.le_of_ble_eq_true rfl, Nat.le_of_ble_eq_true rfl⟩) hK hP hD hS hA [2, 3, 4, 5, 6, 7, 8, 9, 10, 11] [0, 1] 12 rfl rfl [p 0, p 2, p 3, p 4, p (5 + 0), p (5 + 1), p (5 + 2), p (5 + 3), p (5 + 4), p (5 + 5)] rfl rfl (ws' := textW c t τ ++ pageW c p (blankF π)) rfl (wr := textW c t τ) rfl rfl rfl rfl 0 rfl rfl rfl hl.1 rfl (Nat.le_of_ble_eq_true rfl) dX6_readInto_1 (Nat.zero_le _) (Nat.zero_le _) (fun H locs hP hD hS => ?_)
  refine lv_aload_n hx hb dX6_readInto_4 rfl (lv_at hl 0 rfl) ?_
  refine lv_iconst (v := 0) hx hb dX6_readInto_5 (by decide) ?_
  refine wp_X6_2 hx hb hts iX6 hown hK hP hD hS 0 rfl k1 (Nat.le_of_ble_eq_true rfl) dX6_readInto_6 (ws' := textW c t (va_up τ 2 (fun _ => 0)) ++ pageW c p (blankF π)) rfl (fun H locs hP hD hS => ?_)
  refine lv_aload_n hx hb dX6_readInto_9 rfl (lv_at hl 0 rfl) ?_
  refine lv_iconst (v := 0) hx hb dX6_readInto_10 (by decide) ?_
  refine wp_X6_3 hx hb hts iX6 hown hK hP hD hS 0 rfl k2 (Nat.le_of_ble_eq_true rfl) (by decide) dX6_readInto_11 (ws' := textW c t (va_up (va_up τ 2 (fun _ => 0)) 3 (fun _ => 0)) ++ pageW c p (blankF π)) rfl (fun H locs hP hD hS => ?_)
  refine lv_iconst (v := 0) hx hb dX6_readInto_14 (by decide) ?_
  refine lv_istore_n (lv' := [(2, .int 0), (0, .ref (t 0)), (1, .ref (p 0))]) hx hb dX6_readInto_15 rfl hl (by decide) rfl (fun ls hl => ?_)
  have lp16 : ∀ (n : Nat) (i : Nat), (i ≤ 8) → (riV (ri0 τ) (blankF π) (8 - i) i = riV (ri0 τ) (blankF π) 8 0) → (riE (ri0 τ) (blankF π) (8 - i) i = riE (ri0 τ) (blankF π) 8 0) → 8 - i < n → ∀ (H : Heap) (locs : List Loc), va_P D vwCl (textW c t ((riA (ri0 τ) (blankF π) i).1) ++ pageW c p ((riA (ri0 τ) (blankF π) i).2)) H → va_D A (textW c t ((riA (ri0 τ) (blankF π) i).1) ++ pageW c p ((riA (ri0 τ) (blankF π) i).2)) → va_S A H0 H locs → ∀ ls : Array Slot, lv_has ls 4 [(0, .ref (t 0)), (1, .ref (p 0)), (2, .int (nI i))] → W pr l ev rmX6_readInto ss mm args below meth cd H locs 0 0 Q (F0 mm 16 ls []) := by
    intro n
    induction n with
    | zero => intro i hi hv he hn; exact absurd hn (Nat.not_lt_zero _)
    | succ n ih16 =>
      intro i hi hv he hn H locs hP hD hS ls hl
      obtain ⟨hTi, hLi, hNi⟩ := riA_wf (τ := ri0 τ) (π := blankF π) hT h0L h0N i
      refine lv_iload_n hx hb dX6_readInto_16 rfl (lv_at hl 2 rfl) ?_
      refine lv_bipush (v := 7) hx hb dX6_readInto_17 (by decide) ?_
      refine wk_gt (tgt := 96) hx hb i 7 rfl rfl (by omega) (by omega) dX6_readInto_19 (by decide) (fun h1 => ?_) (fun h1 => ?_)
      · refine lv_bipush (v := -10) hx hb dX6_readInto_96 (by decide) ?_
        refine lv_aload_n hx hb dX6_readInto_98 rfl (lv_at hl 0 rfl) ?_
        refine wg_X6_4 hx hb hts iX6 hown hK hP 0 rfl k4 (v := .int (((riA (ri0 τ) (blankF π) i).1) 4 0)) rfl dX6_readInto_99 ?_
        refine lv_isub hx hb dX6_readInto_102 ?_
        have eg2 : (riA (ri0 τ) (blankF π) i).1 = (riE (ri0 τ) (blankF π) 8 0).1 := by rw [← he, show 8 - i = 0 by omega]; rfl
        have hP : va_P D vwCl (textW c t ((riE (ri0 τ) (blankF π) 8 0).1) ++ pageW c p ((riA (ri0 τ) (blankF π) i).2)) H := by rw [← eg2]; exact hP
        have hD : va_D A (textW c t ((riE (ri0 τ) (blankF π) 8 0).1) ++ pageW c p ((riA (ri0 τ) (blankF π) i).2)) := by rw [← eg2]; exact hD
        have eg3 : (riA (ri0 τ) (blankF π) i).2 = (riE (ri0 τ) (blankF π) 8 0).2 := by rw [← he, show 8 - i = 0 by omega]; rfl
        have hP : va_P D vwCl (textW c t ((riE (ri0 τ) (blankF π) 8 0).1) ++ pageW c p ((riE (ri0 τ) (blankF π) 8 0).2)) H := by rw [← eg3]; exact hP
        have hD : va_D A (textW c t ((riE (ri0 τ) (blankF π) 8 0).1) ++ pageW c p ((riE (ri0 τ) (blankF π) 8 0).2)) := by rw [← eg3]; exact hD
        exact ret 103 ls H _ (((-10)) - (((riA (ri0 τ) (blankF π) i).1) 4 0)) (by rw [← hv, show 8 - i = 0 by omega]; rfl) hP hS dX6_readInto_103
      refine lv_aload_n hx hb dX6_readInto_22 rfl (lv_at hl 0 rfl) ?_
      refine wk_callVV (As := []) (rest := []) ⟨hx, hb, hml, hown, hts⟩ (c_X6_nextToken l D c t ((riA (ri0 τ) (blankF π) i).1) (hTi) (hLi)) (cwV 0 hts gX6_readInto_X6_nextToken rfl rfl rfl hd_X6_nextToken ⟨Nat.le_of_ble_eq_true rfl, Nat.le_of_ble_eq_true rfl⟩) hK hP hD hS hA [0, 1] [2, 3, 4, 5, 6, 7, 8, 9, 10, 11] 12 rfl rfl [t 0, t 1] rfl rfl (ws' := textW c t (ntF ((riA (ri0 τ) (blankF π) i).1)) ++ pageW c p ((riA (ri0 τ) (blankF π) i).2)) rfl (wr := pageW c p ((riA (ri0 τ) (blankF π) i).2)) rfl rfl rfl rfl 0 rfl rfl rfl hl.1 rfl (Nat.le_of_ble_eq_true rfl) dX6_readInto_23 (Nat.zero_le _) (Nat.zero_le _) (fun H locs hP hD hS => ?_)
      refine lv_aload_n hx hb dX6_readInto_26 rfl (lv_at hl 0 rfl) ?_
      refine wg_X6_5 hx hb hts iX6 hown hK hP 0 rfl k3 (v := .int ((ntF ((riA (ri0 τ) (blankF π) i).1)) 5 0)) rfl dX6_readInto_27 ?_
      refine wk_eqi (ntF_5 ((riA (ri0 τ) (blankF π) i).1)) ?_
      refine lv_iconst (v := -1) hx hb dX6_readInto_30 (by decide) ?_
      refine lv_icmp_ne (tgt := 36) hx hb dX6_readInto_31 (by decide) (fun h4 => ?_) (fun h4 => ?_)
      rotate_left
      · refine lv_iload_n hx hb dX6_readInto_34 rfl (lv_at hl 2 rfl) ?_
        have eg28 : ntF ((riA (ri0 τ) (blankF π) i).1) = (riE (ri0 τ) (blankF π) 8 0).1 := by rw [← he, show 8 - i = (8 - (i + 1)) + 1 by omega, riE, if_pos h4]
        have hP : va_P D vwCl (textW c t ((riE (ri0 τ) (blankF π) 8 0).1) ++ pageW c p ((riA (ri0 τ) (blankF π) i).2)) H := by rw [← eg28]; exact hP
        have hD : va_D A (textW c t ((riE (ri0 τ) (blankF π) 8 0).1) ++ pageW c p ((riA (ri0 τ) (blankF π) i).2)) := by rw [← eg28]; exact hD
        have eg29 : (riA (ri0 τ) (blankF π) i).2 = (riE (ri0 τ) (blankF π) 8 0).2 := by rw [← he, show 8 - i = (8 - (i + 1)) + 1 by omega, riE, if_pos h4]
        have hP : va_P D vwCl (textW c t ((riE (ri0 τ) (blankF π) 8 0).1) ++ pageW c p ((riE (ri0 τ) (blankF π) 8 0).2)) H := by rw [← eg29]; exact hP
        have hD : va_D A (textW c t ((riE (ri0 τ) (blankF π) 8 0).1) ++ pageW c p ((riE (ri0 τ) (blankF π) 8 0).2)) := by rw [← eg29]; exact hD
        exact ret 35 ls H _ (nI i) (by rw [← hv, show 8 - i = (8 - (i + 1)) + 1 by omega, riV, if_pos h4]) hP hS dX6_readInto_35
      have hne : ¬ ntT ((riA (ri0 τ) (blankF π) i).1) = -1 := h4
      refine lv_aload_n hx hb dX6_readInto_36 rfl (lv_at hl 0 rfl) ?_
      refine wg_X6_5 hx hb hts iX6 hown hK hP 0 rfl k3 (v := .int ((ntF ((riA (ri0 τ) (blankF π) i).1)) 5 0)) rfl dX6_readInto_37 ?_
      refine wk_eqi (ntF_5 ((riA (ri0 τ) (blankF π) i).1)) ?_
      refine lv_bipush (v := 119) hx hb dX6_readInto_40 (by decide) ?_
      refine lv_icmp_ne (tgt := 53) hx hb dX6_readInto_42 (by decide) (fun h5 => ?_) (fun h5 => ?_)
      rotate_left
      · refine lv_aload_n hx hb dX6_readInto_45 rfl (lv_at hl 0 rfl) ?_
        refine lv_aload_n hx hb dX6_readInto_46 rfl (lv_at hl 1 rfl) ?_
        refine wk_callUV (As := [.ref (p 0)]) (rest := []) ⟨hx, hb, hml, hown, hts⟩ (c_X6_readWriter l D c t (ntF ((riA (ri0 τ) (blankF π) i).1)) p ((riA (ri0 τ) (blankF π) i).2) (ntF_T hTi) (ntF_L hTi hLi) (hNi)) (cwV 1 hts gX6_readInto_X6_readWriter rfl rfl rfl hd_X6_readWriter ⟨Nat.le_of_ble_eq_true rfl, Nat.le_of_ble_eq_true rfl⟩) hK hP hD hS hA [0, 1, 2, 3, 4, 5, 6, 7, 8, 9, 10, 11] [] 12 rfl rfl [t 0, t 1, p 0, p 2, p 3, p 4, p (5 + 0), p (5 + 1), p (5 + 2), p (5 + 3), p (5 + 4), p (5 + 5)] rfl rfl (ws' := textW c t (rwT ((riA (ri0 τ) (blankF π) i).2) (ntF ((riA (ri0 τ) (blankF π) i).1))) ++ pageW c p (rwP ((riA (ri0 τ) (blankF π) i).2) (ntF ((riA (ri0 τ) (blankF π) i).1)))) rfl (wr := []) rfl rfl rfl rfl 0 rfl rfl rfl hl.1 rfl (Nat.le_of_ble_eq_true rfl) dX6_readInto_47 (Nat.zero_le _) (Nat.zero_le _) (fun H locs hP hD hS => ?_)
        refine lv_goto (tgt := 75) hx hb dX6_readInto_50 (by decide) ?_
        refine lv_istore_n (lv' := [(3, .int (if rwOK ((riA (ri0 τ) (blankF π) i).2) (ntF ((riA (ri0 τ) (blankF π) i).1)) then 1 else 0)), (0, .ref (t 0)), (1, .ref (p 0)), (2, .int (nI i))]) hx hb dX6_readInto_75 rfl hl (by decide) rfl (fun ls hl => ?_)
        refine lv_iload_n hx hb dX6_readInto_76 rfl (lv_at hl 0 rfl) ?_
        refine wk_bz (tgt := 96) hx hb dX6_readInto_77 (by decide) (fun h20 => ?_) (fun h20 => ?_)
        · have hok : ¬ itOK ((riA (ri0 τ) (blankF π) i).1) ((riA (ri0 τ) (blankF π) i).2) := fun q => q.elim (fun q => absurd q.2.1 h20) (fun q => absurd (h5.symm.trans q.1) (by decide))
          have hit : itT ((riA (ri0 τ) (blankF π) i).1) ((riA (ri0 τ) (blankF π) i).2) = rwT ((riA (ri0 τ) (blankF π) i).2) (ntF ((riA (ri0 τ) (blankF π) i).1)) := by rw [itT, if_pos h5, if_neg h20]
          have hip : itP ((riA (ri0 τ) (blankF π) i).1) ((riA (ri0 τ) (blankF π) i).2) = rwP ((riA (ri0 τ) (blankF π) i).2) (ntF ((riA (ri0 τ) (blankF π) i).1)) := by rw [itP, if_pos h5]
          refine lv_bipush (v := -10) hx hb dX6_readInto_96 (by decide) ?_
          refine lv_aload_n hx hb dX6_readInto_98 rfl (lv_at hl 1 rfl) ?_
          refine wg_X6_4 hx hb hts iX6 hown hK hP 0 rfl k4 (v := .int ((rwT ((riA (ri0 τ) (blankF π) i).2) (ntF ((riA (ri0 τ) (blankF π) i).1))) 4 0)) rfl dX6_readInto_99 ?_
          refine lv_isub hx hb dX6_readInto_102 ?_
          have eg21 : rwT ((riA (ri0 τ) (blankF π) i).2) (ntF ((riA (ri0 τ) (blankF π) i).1)) = (riE (ri0 τ) (blankF π) 8 0).1 := by rw [← he, show 8 - i = (8 - (i + 1)) + 1 by omega, riE, if_neg hne, if_neg hok]; exact hit.symm
          have hP : va_P D vwCl (textW c t ((riE (ri0 τ) (blankF π) 8 0).1) ++ pageW c p (rwP ((riA (ri0 τ) (blankF π) i).2) (ntF ((riA (ri0 τ) (blankF π) i).1)))) H := by rw [← eg21]; exact hP
          have hD : va_D A (textW c t ((riE (ri0 τ) (blankF π) 8 0).1) ++ pageW c p (rwP ((riA (ri0 τ) (blankF π) i).2) (ntF ((riA (ri0 τ) (blankF π) i).1)))) := by rw [← eg21]; exact hD
          have eg22 : rwP ((riA (ri0 τ) (blankF π) i).2) (ntF ((riA (ri0 τ) (blankF π) i).1)) = (riE (ri0 τ) (blankF π) 8 0).2 := by rw [← he, show 8 - i = (8 - (i + 1)) + 1 by omega, riE, if_neg hne, if_neg hok]; exact hip.symm
          have hP : va_P D vwCl (textW c t ((riE (ri0 τ) (blankF π) 8 0).1) ++ pageW c p ((riE (ri0 τ) (blankF π) 8 0).2)) H := by rw [← eg22]; exact hP
          have hD : va_D A (textW c t ((riE (ri0 τ) (blankF π) 8 0).1) ++ pageW c p ((riE (ri0 τ) (blankF π) 8 0).2)) := by rw [← eg22]; exact hD
          exact ret 103 ls H _ (((-10)) - ((rwT ((riA (ri0 τ) (blankF π) i).2) (ntF ((riA (ri0 τ) (blankF π) i).1))) 4 0)) (by rw [← hv, show 8 - i = (8 - (i + 1)) + 1 by omega, riV, if_neg hne, if_neg hok, hit]) hP hS dX6_readInto_103
        refine lv_aload_n hx hb dX6_readInto_80 rfl (lv_at hl 1 rfl) ?_
        refine wk_callUV (As := []) (rest := []) ⟨hx, hb, hml, hown, hts⟩ (c_X6_readSemicolon l D c t (rwT ((riA (ri0 τ) (blankF π) i).2) (ntF ((riA (ri0 τ) (blankF π) i).1))) (rw_T (ntF_T hTi)) (rw_L (ntF_T hTi) (ntF_L hTi hLi))) (cwV 0 hts gX6_readInto_X6_readSemicolon rfl rfl rfl hd_X6_readSemicolon ⟨Nat.le_of_ble_eq_true rfl, Nat.le_of_ble_eq_true rfl⟩) hK hP hD hS hA [0, 1] [2, 3, 4, 5, 6, 7, 8, 9, 10, 11] 12 rfl rfl [t 0, t 1] rfl rfl (ws' := textW c t (ntF (rwT ((riA (ri0 τ) (blankF π) i).2) (ntF ((riA (ri0 τ) (blankF π) i).1)))) ++ pageW c p (rwP ((riA (ri0 τ) (blankF π) i).2) (ntF ((riA (ri0 τ) (blankF π) i).1)))) rfl (wr := pageW c p (rwP ((riA (ri0 τ) (blankF π) i).2) (ntF ((riA (ri0 τ) (blankF π) i).1)))) rfl rfl rfl rfl 0 rfl rfl rfl hl.1 rfl (Nat.le_of_ble_eq_true rfl) dX6_readInto_81 (Nat.zero_le _) (Nat.zero_le _) (fun H locs hP hD hS => ?_)
        refine wk_bnz (tgt := 90) hx hb dX6_readInto_84 (by decide) (fun h23 => ?_) (fun h23 => ?_)
        · have hok : itOK ((riA (ri0 τ) (blankF π) i).1) ((riA (ri0 τ) (blankF π) i).2) := Or.inl ⟨h5, h20, h23⟩
          have hit : itT ((riA (ri0 τ) (blankF π) i).1) ((riA (ri0 τ) (blankF π) i).2) = ntF (rwT ((riA (ri0 τ) (blankF π) i).2) (ntF ((riA (ri0 τ) (blankF π) i).1))) := by rw [itT, if_pos h5, if_pos h20]
          have hip : itP ((riA (ri0 τ) (blankF π) i).1) ((riA (ri0 τ) (blankF π) i).2) = rwP ((riA (ri0 τ) (blankF π) i).2) (ntF ((riA (ri0 τ) (blankF π) i).1)) := by rw [itP, if_pos h5]
          refine lv_iinc (v := nI (i + 1)) (lv' := [(2, .int (nI (i + 1))), (3, .int (if rwOK ((riA (ri0 τ) (blankF π) i).2) (ntF ((riA (ri0 τ) (blankF π) i).1)) then 1 else 0)), (0, .ref (t 0)), (1, .ref (p 0))]) hx hb dX6_readInto_90 hl (k := 3) rfl (nI_inc i 1) (by decide) rfl (fun ls hl => ?_)
          refine lv_goto (tgt := 16) hx hb dX6_readInto_93 (by decide) ?_
          have eg24 : ntF (rwT ((riA (ri0 τ) (blankF π) i).2) (ntF ((riA (ri0 τ) (blankF π) i).1))) = (riA (ri0 τ) (blankF π) (i + 1)).1 := by first | rfl | (rw [riA]; exact hit.symm) | (rw [riA]; exact hip.symm)
          have hP : va_P D vwCl (textW c t ((riA (ri0 τ) (blankF π) (i + 1)).1) ++ pageW c p (rwP ((riA (ri0 τ) (blankF π) i).2) (ntF ((riA (ri0 τ) (blankF π) i).1)))) H := by rw [← eg24]; exact hP
          have hD : va_D A (textW c t ((riA (ri0 τ) (blankF π) (i + 1)).1) ++ pageW c p (rwP ((riA (ri0 τ) (blankF π) i).2) (ntF ((riA (ri0 τ) (blankF π) i).1)))) := by rw [← eg24]; exact hD
          have eg25 : rwP ((riA (ri0 τ) (blankF π) i).2) (ntF ((riA (ri0 τ) (blankF π) i).1)) = (riA (ri0 τ) (blankF π) (i + 1)).2 := by first | rfl | (rw [riA]; exact hit.symm) | (rw [riA]; exact hip.symm)
          have hP : va_P D vwCl (textW c t ((riA (ri0 τ) (blankF π) (i + 1)).1) ++ pageW c p ((riA (ri0 τ) (blankF π) (i + 1)).2)) H := by rw [← eg25]; exact hP
          have hD : va_D A (textW c t ((riA (ri0 τ) (blankF π) (i + 1)).1) ++ pageW c p ((riA (ri0 τ) (blankF π) (i + 1)).2)) := by rw [← eg25]; exact hD
          have hl : lv_has ls 4 [(0, .ref (t 0)), (1, .ref (p 0)), (2, .int (nI (i + 1)))] := lv_sub hl [2, 3, 0] rfl
          exact ih16 (i + 1) (by omega) (by rw [← hv, show 8 - i = (8 - (i + 1)) + 1 by omega, riV, if_neg hne, if_pos hok]) (by rw [← he, show 8 - i = (8 - (i + 1)) + 1 by omega, riE, if_neg hne, if_pos hok]) (by omega) H _ hP hD hS ls hl
        refine lv_goto (tgt := 96) hx hb dX6_readInto_87 (by decide) ?_
        have hok : ¬ itOK ((riA (ri0 τ) (blankF π) i).1) ((riA (ri0 τ) (blankF π) i).2) := fun q => q.elim (fun q => absurd q.2.2 h23) (fun q => absurd (h5.symm.trans q.1) (by decide))
        have hit : itT ((riA (ri0 τ) (blankF π) i).1) ((riA (ri0 τ) (blankF π) i).2) = ntF (rwT ((riA (ri0 τ) (blankF π) i).2) (ntF ((riA (ri0 τ) (blankF π) i).1))) := by rw [itT, if_pos h5, if_pos h20]
        have hip : itP ((riA (ri0 τ) (blankF π) i).1) ((riA (ri0 τ) (blankF π) i).2) = rwP ((riA (ri0 τ) (blankF π) i).2) (ntF ((riA (ri0 τ) (blankF π) i).1)) := by rw [itP, if_pos h5]
        refine lv_bipush (v := -10) hx hb dX6_readInto_96 (by decide) ?_
        refine lv_aload_n hx hb dX6_readInto_98 rfl (lv_at hl 1 rfl) ?_
        refine wg_X6_4 hx hb hts iX6 hown hK hP 0 rfl k4 (v := .int ((ntF (rwT ((riA (ri0 τ) (blankF π) i).2) (ntF ((riA (ri0 τ) (blankF π) i).1)))) 4 0)) rfl dX6_readInto_99 ?_
        refine lv_isub hx hb dX6_readInto_102 ?_
        have eg26 : ntF (rwT ((riA (ri0 τ) (blankF π) i).2) (ntF ((riA (ri0 τ) (blankF π) i).1))) = (riE (ri0 τ) (blankF π) 8 0).1 := by rw [← he, show 8 - i = (8 - (i + 1)) + 1 by omega, riE, if_neg hne, if_neg hok]; exact hit.symm
        have hP : va_P D vwCl (textW c t ((riE (ri0 τ) (blankF π) 8 0).1) ++ pageW c p (rwP ((riA (ri0 τ) (blankF π) i).2) (ntF ((riA (ri0 τ) (blankF π) i).1)))) H := by rw [← eg26]; exact hP
        have hD : va_D A (textW c t ((riE (ri0 τ) (blankF π) 8 0).1) ++ pageW c p (rwP ((riA (ri0 τ) (blankF π) i).2) (ntF ((riA (ri0 τ) (blankF π) i).1)))) := by rw [← eg26]; exact hD
        have eg27 : rwP ((riA (ri0 τ) (blankF π) i).2) (ntF ((riA (ri0 τ) (blankF π) i).1)) = (riE (ri0 τ) (blankF π) 8 0).2 := by rw [← he, show 8 - i = (8 - (i + 1)) + 1 by omega, riE, if_neg hne, if_neg hok]; exact hip.symm
        have hP : va_P D vwCl (textW c t ((riE (ri0 τ) (blankF π) 8 0).1) ++ pageW c p ((riE (ri0 τ) (blankF π) 8 0).2)) H := by rw [← eg27]; exact hP
        have hD : va_D A (textW c t ((riE (ri0 τ) (blankF π) 8 0).1) ++ pageW c p ((riE (ri0 τ) (blankF π) 8 0).2)) := by rw [← eg27]; exact hD
        exact ret 103 ls H _ (((-10)) - ((ntF (rwT ((riA (ri0 τ) (blankF π) i).2) (ntF ((riA (ri0 τ) (blankF π) i).1)))) 4 0)) (by rw [← hv, show 8 - i = (8 - (i + 1)) + 1 by omega, riV, if_neg hne, if_neg hok, hit]) hP hS dX6_readInto_103
      refine lv_aload_n hx hb dX6_readInto_53 rfl (lv_at hl 0 rfl) ?_
      refine wg_X6_5 hx hb hts iX6 hown hK hP 0 rfl k3 (v := .int ((ntF ((riA (ri0 τ) (blankF π) i).1)) 5 0)) rfl dX6_readInto_54 ?_
      refine wk_eqi (ntF_5 ((riA (ri0 τ) (blankF π) i).1)) ?_
      refine lv_bipush (v := 116) hx hb dX6_readInto_57 (by decide) ?_
      refine lv_icmp_ne (tgt := 74) hx hb dX6_readInto_59 (by decide) (fun h6 => ?_) (fun h6 => ?_)
      · refine lv_iconst (v := 0) hx hb dX6_readInto_74 (by decide) ?_
        refine lv_istore_n (lv' := [(3, .int 0), (0, .ref (t 0)), (1, .ref (p 0)), (2, .int (nI i))]) hx hb dX6_readInto_75 rfl hl (by decide) rfl (fun ls hl => ?_)
        refine lv_iload_n hx hb dX6_readInto_76 rfl (lv_at hl 0 rfl) ?_
        refine lv_if_eq (tgt := 96) hx hb dX6_readInto_77 (by decide) (fun _ => ?_) (fun q => absurd (by decide) q)
        have hok : ¬ itOK ((riA (ri0 τ) (blankF π) i).1) ((riA (ri0 τ) (blankF π) i).2) := fun q => q.elim (fun q => absurd q.1 h5) (fun q => absurd q.1 h6)
        have hit : itT ((riA (ri0 τ) (blankF π) i).1) ((riA (ri0 τ) (blankF π) i).2) = ntF ((riA (ri0 τ) (blankF π) i).1) := by rw [itT, if_neg h5, if_neg h6]
        have hip : itP ((riA (ri0 τ) (blankF π) i).1) ((riA (ri0 τ) (blankF π) i).2) = (riA (ri0 τ) (blankF π) i).2 := by rw [itP, if_neg h5, if_neg h6]
        refine lv_bipush (v := -10) hx hb dX6_readInto_96 (by decide) ?_
        refine lv_aload_n hx hb dX6_readInto_98 rfl (lv_at hl 1 rfl) ?_
        refine wg_X6_4 hx hb hts iX6 hown hK hP 0 rfl k4 (v := .int ((ntF ((riA (ri0 τ) (blankF π) i).1)) 4 0)) rfl dX6_readInto_99 ?_
        refine lv_isub hx hb dX6_readInto_102 ?_
        have eg8 : ntF ((riA (ri0 τ) (blankF π) i).1) = (riE (ri0 τ) (blankF π) 8 0).1 := by rw [← he, show 8 - i = (8 - (i + 1)) + 1 by omega, riE, if_neg hne, if_neg hok]; exact hit.symm
        have hP : va_P D vwCl (textW c t ((riE (ri0 τ) (blankF π) 8 0).1) ++ pageW c p ((riA (ri0 τ) (blankF π) i).2)) H := by rw [← eg8]; exact hP
        have hD : va_D A (textW c t ((riE (ri0 τ) (blankF π) 8 0).1) ++ pageW c p ((riA (ri0 τ) (blankF π) i).2)) := by rw [← eg8]; exact hD
        have eg9 : (riA (ri0 τ) (blankF π) i).2 = (riE (ri0 τ) (blankF π) 8 0).2 := by rw [← he, show 8 - i = (8 - (i + 1)) + 1 by omega, riE, if_neg hne, if_neg hok]; exact hip.symm
        have hP : va_P D vwCl (textW c t ((riE (ri0 τ) (blankF π) 8 0).1) ++ pageW c p ((riE (ri0 τ) (blankF π) 8 0).2)) H := by rw [← eg9]; exact hP
        have hD : va_D A (textW c t ((riE (ri0 τ) (blankF π) 8 0).1) ++ pageW c p ((riE (ri0 τ) (blankF π) 8 0).2)) := by rw [← eg9]; exact hD
        exact ret 103 ls H _ (((-10)) - ((ntF ((riA (ri0 τ) (blankF π) i).1)) 4 0)) (by rw [← hv, show 8 - i = (8 - (i + 1)) + 1 by omega, riV, if_neg hne, if_neg hok, hit]) hP hS dX6_readInto_103
      refine lv_aload_n hx hb dX6_readInto_62 rfl (lv_at hl 0 rfl) ?_
      refine lv_aload_n hx hb dX6_readInto_63 rfl (lv_at hl 1 rfl) ?_
      refine wk_callUV (As := [.ref (p 0)]) (rest := []) ⟨hx, hb, hml, hown, hts⟩ (c_X6_readTerm l D c t (ntF ((riA (ri0 τ) (blankF π) i).1)) p ((riA (ri0 τ) (blankF π) i).2) (ntF_T hTi) (ntF_L hTi hLi)) (cwV 1 hts gX6_readInto_X6_readTerm rfl rfl rfl hd_X6_readTerm ⟨Nat.le_of_ble_eq_true rfl, Nat.le_of_ble_eq_true rfl⟩) hK hP hD hS hA [0, 1, 2, 3, 4, 5, 6, 7, 8, 9, 10, 11] [] 12 rfl rfl [t 0, t 1, p 0, p 2, p 3, p 4, p (5 + 0), p (5 + 1), p (5 + 2), p (5 + 3), p (5 + 4), p (5 + 5)] rfl rfl (ws' := textW c t (rtT (ntF ((riA (ri0 τ) (blankF π) i).1))) ++ pageW c p (rtP ((riA (ri0 τ) (blankF π) i).2) (ntF ((riA (ri0 τ) (blankF π) i).1)))) rfl (wr := []) rfl rfl rfl rfl 0 rfl rfl rfl hl.1 rfl (Nat.le_of_ble_eq_true rfl) dX6_readInto_64 (Nat.zero_le _) (Nat.zero_le _) (fun H locs hP hD hS => ?_)
      refine wk_bz (tgt := 74) hx hb dX6_readInto_67 (by decide) (fun h10 => ?_) (fun h10 => ?_)
      · refine lv_iconst (v := 0) hx hb dX6_readInto_74 (by decide) ?_
        refine lv_istore_n (lv' := [(3, .int 0), (0, .ref (t 0)), (1, .ref (p 0)), (2, .int (nI i))]) hx hb dX6_readInto_75 rfl hl (by decide) rfl (fun ls hl => ?_)
        refine lv_iload_n hx hb dX6_readInto_76 rfl (lv_at hl 0 rfl) ?_
        refine lv_if_eq (tgt := 96) hx hb dX6_readInto_77 (by decide) (fun _ => ?_) (fun q => absurd (by decide) q)
        have hok : ¬ itOK ((riA (ri0 τ) (blankF π) i).1) ((riA (ri0 τ) (blankF π) i).2) := fun q => q.elim (fun q => absurd q.1 h5) (fun q => absurd q.2.1 h10)
        have hit : itT ((riA (ri0 τ) (blankF π) i).1) ((riA (ri0 τ) (blankF π) i).2) = rtT (ntF ((riA (ri0 τ) (blankF π) i).1)) := by rw [itT, if_neg h5, if_pos h6, if_neg h10]
        have hip : itP ((riA (ri0 τ) (blankF π) i).1) ((riA (ri0 τ) (blankF π) i).2) = rtP ((riA (ri0 τ) (blankF π) i).2) (ntF ((riA (ri0 τ) (blankF π) i).1)) := by rw [itP, if_neg h5, if_pos h6]
        refine lv_bipush (v := -10) hx hb dX6_readInto_96 (by decide) ?_
        refine lv_aload_n hx hb dX6_readInto_98 rfl (lv_at hl 1 rfl) ?_
        refine wg_X6_4 hx hb hts iX6 hown hK hP 0 rfl k4 (v := .int ((rtT (ntF ((riA (ri0 τ) (blankF π) i).1))) 4 0)) rfl dX6_readInto_99 ?_
        refine lv_isub hx hb dX6_readInto_102 ?_
        have eg12 : rtT (ntF ((riA (ri0 τ) (blankF π) i).1)) = (riE (ri0 τ) (blankF π) 8 0).1 := by rw [← he, show 8 - i = (8 - (i + 1)) + 1 by omega, riE, if_neg hne, if_neg hok]; exact hit.symm
        have hP : va_P D vwCl (textW c t ((riE (ri0 τ) (blankF π) 8 0).1) ++ pageW c p (rtP ((riA (ri0 τ) (blankF π) i).2) (ntF ((riA (ri0 τ) (blankF π) i).1)))) H := by rw [← eg12]; exact hP
        have hD : va_D A (textW c t ((riE (ri0 τ) (blankF π) 8 0).1) ++ pageW c p (rtP ((riA (ri0 τ) (blankF π) i).2) (ntF ((riA (ri0 τ) (blankF π) i).1)))) := by rw [← eg12]; exact hD
        have eg13 : rtP ((riA (ri0 τ) (blankF π) i).2) (ntF ((riA (ri0 τ) (blankF π) i).1)) = (riE (ri0 τ) (blankF π) 8 0).2 := by rw [← he, show 8 - i = (8 - (i + 1)) + 1 by omega, riE, if_neg hne, if_neg hok]; exact hip.symm
        have hP : va_P D vwCl (textW c t ((riE (ri0 τ) (blankF π) 8 0).1) ++ pageW c p ((riE (ri0 τ) (blankF π) 8 0).2)) H := by rw [← eg13]; exact hP
        have hD : va_D A (textW c t ((riE (ri0 τ) (blankF π) 8 0).1) ++ pageW c p ((riE (ri0 τ) (blankF π) 8 0).2)) := by rw [← eg13]; exact hD
        exact ret 103 ls H _ (((-10)) - ((rtT (ntF ((riA (ri0 τ) (blankF π) i).1))) 4 0)) (by rw [← hv, show 8 - i = (8 - (i + 1)) + 1 by omega, riV, if_neg hne, if_neg hok, hit]) hP hS dX6_readInto_103
      refine lv_iconst (v := 1) hx hb dX6_readInto_70 (by decide) ?_
      refine lv_goto (tgt := 75) hx hb dX6_readInto_71 (by decide) ?_
      refine lv_istore_n (lv' := [(3, .int 1), (0, .ref (t 0)), (1, .ref (p 0)), (2, .int (nI i))]) hx hb dX6_readInto_75 rfl hl (by decide) rfl (fun ls hl => ?_)
      refine lv_iload_n hx hb dX6_readInto_76 rfl (lv_at hl 0 rfl) ?_
      refine lv_if_eq (tgt := 96) hx hb dX6_readInto_77 (by decide) (fun q => absurd q (by decide)) (fun _ => ?_)
      refine lv_aload_n hx hb dX6_readInto_80 rfl (lv_at hl 1 rfl) ?_
      refine wk_callUV (As := []) (rest := []) ⟨hx, hb, hml, hown, hts⟩ (c_X6_readSemicolon l D c t (rtT (ntF ((riA (ri0 τ) (blankF π) i).1))) (rt_T (ntF_T hTi)) (rt_L (ntF_T hTi) (ntF_L hTi hLi))) (cwV 0 hts gX6_readInto_X6_readSemicolon rfl rfl rfl hd_X6_readSemicolon ⟨Nat.le_of_ble_eq_true rfl, Nat.le_of_ble_eq_true rfl⟩) hK hP hD hS hA [0, 1] [2, 3, 4, 5, 6, 7, 8, 9, 10, 11] 12 rfl rfl [t 0, t 1] rfl rfl (ws' := textW c t (ntF (rtT (ntF ((riA (ri0 τ) (blankF π) i).1)))) ++ pageW c p (rtP ((riA (ri0 τ) (blankF π) i).2) (ntF ((riA (ri0 τ) (blankF π) i).1)))) rfl (wr := pageW c p (rtP ((riA (ri0 τ) (blankF π) i).2) (ntF ((riA (ri0 τ) (blankF π) i).1)))) rfl rfl rfl rfl 0 rfl rfl rfl hl.1 rfl (Nat.le_of_ble_eq_true rfl) dX6_readInto_81 (Nat.zero_le _) (Nat.zero_le _) (fun H locs hP hD hS => ?_)
      refine wk_bnz (tgt := 90) hx hb dX6_readInto_84 (by decide) (fun h15 => ?_) (fun h15 => ?_)
      · have h119 : ¬ ntT ((riA (ri0 τ) (blankF π) i).1) = 119 := h5
        have hok : itOK ((riA (ri0 τ) (blankF π) i).1) ((riA (ri0 τ) (blankF π) i).2) := Or.inr ⟨h6, h10, h15⟩
        have hit : itT ((riA (ri0 τ) (blankF π) i).1) ((riA (ri0 τ) (blankF π) i).2) = ntF (rtT (ntF ((riA (ri0 τ) (blankF π) i).1))) := by rw [itT, if_neg h119, if_pos h6, if_pos h10]
        have hip : itP ((riA (ri0 τ) (blankF π) i).1) ((riA (ri0 τ) (blankF π) i).2) = rtP ((riA (ri0 τ) (blankF π) i).2) (ntF ((riA (ri0 τ) (blankF π) i).1)) := by rw [itP, if_neg h119, if_pos h6]
        refine lv_iinc (v := nI (i + 1)) (lv' := [(2, .int (nI (i + 1))), (3, .int 1), (0, .ref (t 0)), (1, .ref (p 0))]) hx hb dX6_readInto_90 hl (k := 3) rfl (nI_inc i 1) (by decide) rfl (fun ls hl => ?_)
        refine lv_goto (tgt := 16) hx hb dX6_readInto_93 (by decide) ?_
        have eg16 : ntF (rtT (ntF ((riA (ri0 τ) (blankF π) i).1))) = (riA (ri0 τ) (blankF π) (i + 1)).1 := by first | rfl | (rw [riA]; exact hit.symm) | (rw [riA]; exact hip.symm)
        have hP : va_P D vwCl (textW c t ((riA (ri0 τ) (blankF π) (i + 1)).1) ++ pageW c p (rtP ((riA (ri0 τ) (blankF π) i).2) (ntF ((riA (ri0 τ) (blankF π) i).1)))) H := by rw [← eg16]; exact hP
        have hD : va_D A (textW c t ((riA (ri0 τ) (blankF π) (i + 1)).1) ++ pageW c p (rtP ((riA (ri0 τ) (blankF π) i).2) (ntF ((riA (ri0 τ) (blankF π) i).1)))) := by rw [← eg16]; exact hD
        have eg17 : rtP ((riA (ri0 τ) (blankF π) i).2) (ntF ((riA (ri0 τ) (blankF π) i).1)) = (riA (ri0 τ) (blankF π) (i + 1)).2 := by first | rfl | (rw [riA]; exact hit.symm) | (rw [riA]; exact hip.symm)
        have hP : va_P D vwCl (textW c t ((riA (ri0 τ) (blankF π) (i + 1)).1) ++ pageW c p ((riA (ri0 τ) (blankF π) (i + 1)).2)) H := by rw [← eg17]; exact hP
        have hD : va_D A (textW c t ((riA (ri0 τ) (blankF π) (i + 1)).1) ++ pageW c p ((riA (ri0 τ) (blankF π) (i + 1)).2)) := by rw [← eg17]; exact hD
        have hl : lv_has ls 4 [(0, .ref (t 0)), (1, .ref (p 0)), (2, .int (nI (i + 1)))] := lv_sub hl [2, 3, 0] rfl
        exact ih16 (i + 1) (by omega) (by rw [← hv, show 8 - i = (8 - (i + 1)) + 1 by omega, riV, if_neg hne, if_pos hok]) (by rw [← he, show 8 - i = (8 - (i + 1)) + 1 by omega, riE, if_neg hne, if_pos hok]) (by omega) H _ hP hD hS ls hl
      refine lv_goto (tgt := 96) hx hb dX6_readInto_87 (by decide) ?_
      have hok : ¬ itOK ((riA (ri0 τ) (blankF π) i).1) ((riA (ri0 τ) (blankF π) i).2) := fun q => q.elim (fun q => absurd q.1 h5) (fun q => absurd q.2.2 h15)
      have hit : itT ((riA (ri0 τ) (blankF π) i).1) ((riA (ri0 τ) (blankF π) i).2) = ntF (rtT (ntF ((riA (ri0 τ) (blankF π) i).1))) := by rw [itT, if_neg h5, if_pos h6, if_pos h10]
      have hip : itP ((riA (ri0 τ) (blankF π) i).1) ((riA (ri0 τ) (blankF π) i).2) = rtP ((riA (ri0 τ) (blankF π) i).2) (ntF ((riA (ri0 τ) (blankF π) i).1)) := by rw [itP, if_neg h5, if_pos h6]
      refine lv_bipush (v := -10) hx hb dX6_readInto_96 (by decide) ?_
      refine lv_aload_n hx hb dX6_readInto_98 rfl (lv_at hl 1 rfl) ?_
      refine wg_X6_4 hx hb hts iX6 hown hK hP 0 rfl k4 (v := .int ((ntF (rtT (ntF ((riA (ri0 τ) (blankF π) i).1)))) 4 0)) rfl dX6_readInto_99 ?_
      refine lv_isub hx hb dX6_readInto_102 ?_
      have eg18 : ntF (rtT (ntF ((riA (ri0 τ) (blankF π) i).1))) = (riE (ri0 τ) (blankF π) 8 0).1 := by rw [← he, show 8 - i = (8 - (i + 1)) + 1 by omega, riE, if_neg hne, if_neg hok]; exact hit.symm
      have hP : va_P D vwCl (textW c t ((riE (ri0 τ) (blankF π) 8 0).1) ++ pageW c p (rtP ((riA (ri0 τ) (blankF π) i).2) (ntF ((riA (ri0 τ) (blankF π) i).1)))) H := by rw [← eg18]; exact hP
      have hD : va_D A (textW c t ((riE (ri0 τ) (blankF π) 8 0).1) ++ pageW c p (rtP ((riA (ri0 τ) (blankF π) i).2) (ntF ((riA (ri0 τ) (blankF π) i).1)))) := by rw [← eg18]; exact hD
      have eg19 : rtP ((riA (ri0 τ) (blankF π) i).2) (ntF ((riA (ri0 τ) (blankF π) i).1)) = (riE (ri0 τ) (blankF π) 8 0).2 := by rw [← he, show 8 - i = (8 - (i + 1)) + 1 by omega, riE, if_neg hne, if_neg hok]; exact hip.symm
      have hP : va_P D vwCl (textW c t ((riE (ri0 τ) (blankF π) 8 0).1) ++ pageW c p ((riE (ri0 τ) (blankF π) 8 0).2)) H := by rw [← eg19]; exact hP
      have hD : va_D A (textW c t ((riE (ri0 τ) (blankF π) 8 0).1) ++ pageW c p ((riE (ri0 τ) (blankF π) 8 0).2)) := by rw [← eg19]; exact hD
      exact ret 103 ls H _ (((-10)) - ((ntF (rtT (ntF ((riA (ri0 τ) (blankF π) i).1)))) 4 0)) (by rw [← hv, show 8 - i = (8 - (i + 1)) + 1 by omega, riV, if_neg hne, if_neg hok, hit]) hP hS dX6_readInto_103
  have eg30 : va_up (va_up τ 2 (fun _ => 0)) 3 (fun _ => 0) = (riA (ri0 τ) (blankF π) 0).1 := by first | rfl | (rw [riA]; exact hit.symm) | (rw [riA]; exact hip.symm)
  have hP : va_P D vwCl (textW c t ((riA (ri0 τ) (blankF π) 0).1) ++ pageW c p (blankF π)) H := by rw [← eg30]; exact hP
  have hD : va_D A (textW c t ((riA (ri0 τ) (blankF π) 0).1) ++ pageW c p (blankF π)) := by rw [← eg30]; exact hD
  have eg31 : blankF π = (riA (ri0 τ) (blankF π) 0).2 := by first | rfl | (rw [riA]; exact hit.symm) | (rw [riA]; exact hip.symm)
  have hP : va_P D vwCl (textW c t ((riA (ri0 τ) (blankF π) 0).1) ++ pageW c p ((riA (ri0 τ) (blankF π) 0).2)) H := by rw [← eg31]; exact hP
  have hD : va_D A (textW c t ((riA (ri0 τ) (blankF π) 0).1) ++ pageW c p ((riA (ri0 τ) (blankF π) 0).2)) := by rw [← eg31]; exact hD
  have hl : lv_has ls 4 [(0, .ref (t 0)), (1, .ref (p 0)), (2, .int 0)] := lv_sub hl [1, 2, 0] rfl
  have hl := wk_lset (y := nI 0) (lv_sub (l' := [(2, .int 0), (0, .ref (t 0)), (1, .ref (p 0))]) hl [2, 0, 1] rfl) (by first | rfl | (rw [riA]; exact hit.symm) | (rw [riA]; exact hip.symm))
  have hl : lv_has ls 4 [(0, .ref (t 0)), (1, .ref (p 0)), (2, .int (nI 0))] := lv_sub hl [1, 2, 0] rfl
  exact lp16 _ 0 (by omega) (rfl) (rfl) (Nat.lt_succ_self _) H locs hP hD hS ls hl

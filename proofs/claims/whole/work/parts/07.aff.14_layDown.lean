abbrev rmX0_layDown : Room := { frames := 2, cells := 0, slots := 0, locals := 50 }
theorem hd_X0_layDown : yX0_layDown.cls = RX0 ∧ yX0_layDown.cls ≠ "java/lang/invoke/MethodHandle" ∧ yX0_layDown.cls ≠ "java/lang/invoke/VarHandle" ∧ (parseMethodDescriptor yX0_layDown.desc).map (fun d => d.parameters.length) = some 2 := by decide +kernel
set_option maxHeartbeats 4000000 in
set_option maxRecDepth 100000 in
theorem c_X0_layDown (l : Launch) (D : va_G) (c : Nat → ClassId) (a : Nat → Nat) (σ : Nat → Nat → Int32) (p : Nat → Nat) (π : Nat → Nat → Int32) (w : Nat) (hp : wfP π) (ha : wfA π σ) : wk_UpI l yX0_layDown wsX0_layDown rmX0_layDown D (tysL c) [.ref (a 0), .ref (p 0), .int (nI w)] (affW c a σ ++ pageW c p π) (affW c a (layF π σ w) ++ pageW c p π) (bcF (layB σ w)) := by
  refine wk_mkU (cc := cX0_layDown) (maxL := 5) (rt := .int) (by decide) rfl (Nat.le_of_ble_eq_true rfl) rfl ?_
  intro A pr ev ss mm args below meth cd ls H H0 Q hst hP hK hD hS hA hl ret
  obtain ⟨hx, hb, hml, hown, hts, -⟩ := hst
  have hown : ss.vm.findClass RX0 = some mm.cls := hown
  have hl : lv_has ls 5 [(0, .ref (a 0)), (1, .ref (p 0)), (2, .int (nI w))] := hl
  have k1 := hts (.fieldLink RX0 43 "LastWord$Affairs" "laid" "I") (List.mem_of_getElem? (i := 1) rfl)
  have k2 := hts (.fieldLink RX0 40 "LastWord$Affairs" "quarrels" "I") (List.mem_of_getElem? (i := 2) rfl)
  have iX0 : ∀ w ∈ u_ws RX0 TX0 11, w ∈ wsX0_layDown := fun _ h => (List.mem_cons_of_mem _ (List.mem_append_left _ (List.mem_append_right _ h)))
  have hq6 := ha.1.2
  refine lv_aload_n hx hb dX0_layDown_0 rfl (lv_at hl 0 rfl) ?_
  refine lv_iload_n hx hb dX0_layDown_1 rfl (lv_at hl 2 rfl) ?_
  refine wk_callRV (As := [.int (nI w)]) (rest := []) ⟨hx, hb, hml, hown, hts⟩ (c_X0_owedBits l D c a σ (nI w) (ha.1)) (cwV 1 hts gX0_layDown_X0_owedBits rfl rfl rfl hd_X0_owedBits ⟨Nat.le_of_ble_eq_true rfl, Nat.le_of_ble_eq_true rfl⟩) hK hP [0, 1, 2, 3, 4, 5, 6, 7] rfl 0 rfl rfl rfl hl.1 rfl (Nat.le_of_ble_eq_true rfl) dX0_layDown_2 (Nat.zero_le _) (Nat.zero_le _) ?_
  refine wk_eqi (y := layB σ w) rfl ?_
  refine lv_istore_n (lv' := [(3, .int (layB σ w)), (0, .ref (a 0)), (1, .ref (p 0)), (2, .int (nI w))]) hx hb dX0_layDown_5 rfl hl (by decide) rfl (fun ls hl => ?_)
  refine lv_aload_n hx hb dX0_layDown_6 rfl (lv_at hl 1 rfl) ?_
  refine lv_dup hx hb dX0_layDown_7 rfl ?_
  refine wg_X0_3 hx hb hts iX0 hown hK hP 0 rfl k1 rfl dX0_layDown_8 ?_
  refine lv_iconst (v := 1) hx hb dX0_layDown_11 (by decide) ?_
  refine lv_iload_n hx hb dX0_layDown_12 rfl (lv_at hl 3 rfl) ?_
  refine lv_ishl hx hb dX0_layDown_13 ?_
  refine lv_ior hx hb dX0_layDown_14 ?_
  refine wp_X0_3 hx hb hts iX0 hown hK hP hD hS 0 rfl k1 (Nat.le_of_ble_eq_true rfl) dX0_layDown_15 (ws' := affW c a (va_up σ 3 (fun _ => (σ 3 0) ||| (1 <<< ((nI w) &&& 31)))) ++ pageW c p π) rfl (fun H locs hP hD hS => ?_)
  refine lv_iconst (v := 0) hx hb dX0_layDown_18 (by decide) ?_
  refine lv_istore (lv' := [(4, .int 0), (3, .int (layB σ w)), (0, .ref (a 0)), (1, .ref (p 0)), (2, .int (nI w))]) hx hb dX0_layDown_19 hl (by decide) rfl (fun ls hl => ?_)
  have lp21 : ∀ (n : Nat) (i : Nat), (i ≤ nQ σ) → nQ σ - i < n → ∀ (H : Heap) (locs : List Loc), va_P D vwCl (affW c a (layL π σ w i) ++ pageW c p π) H → va_D A (affW c a (layL π σ w i) ++ pageW c p π) → va_S A H0 H locs → ∀ ls : Array Slot, lv_has ls 5 [(0, .ref (a 0)), (1, .ref (p 0)), (2, .int (nI w)), (3, .int (layB σ w)), (4, .int (nI i))] → W pr l ev rmX0_layDown ss mm args below meth cd H locs 0 0 Q (F0 mm 21 ls []) := by
    intro n
    induction n with
    | zero => intro i hi hn; exact absurd hn (Nat.not_lt_zero _)
    | succ n ih =>
      intro i hi hn H locs hP hD hS ls hl
      have hwf := layL_wf hp ha w i
      have hqi : layL π σ w i 2 0 = nI (nQ σ) := by rw [layL_2]; exact ha.1.1
      have hni : nQ (layL π σ w i) = nQ σ := nQ_of (layL_2 π σ w i)
      refine lv_iload hx hb dX0_layDown_21 (lv_at hl 4 rfl) ?_
      refine lv_aload_n hx hb dX0_layDown_23 rfl (lv_at hl 0 rfl) ?_
      refine wg_X0_2 hx hb hts iX0 hown hK hP 0 rfl k2 rfl dX0_layDown_24 ?_
      refine wk_eqi (hqi) ?_
      refine wk_ge (tgt := 53) hx hb i (nQ σ) rfl rfl (by omega) (by omega) dX0_layDown_27 (by decide) (fun h1 => ?_) (fun h1 => ?_)
      · refine lv_iload_n hx hb dX0_layDown_53 rfl (lv_at hl 3 rfl) ?_
        refine wk_callRS (As := [.int (layB σ w)]) (rest := []) ⟨hx, hb, hml, hown, hts⟩ (c_J6_bitCount_0f7a4 l D c (layB σ w)) (va_cwS 1 hts gX0_layDown_J6_bitCount_0f7a4 rfl rfl rfl hd_J6_bitCount_0f7a4 ⟨Nat.le_of_ble_eq_true rfl, Nat.le_of_ble_eq_true rfl⟩) hK hP [] rfl rfl hl.1 rfl (Nat.le_of_ble_eq_true rfl) dX0_layDown_54 (Nat.zero_le _) (Nat.zero_le _) ?_
        have eg2 : layL π σ w i = layF π σ w := by rw [layF, show i = nQ σ by omega]
        have hP : va_P D vwCl (affW c a (layF π σ w) ++ pageW c p π) H := by rw [← eg2]; exact hP
        have hD : va_D A (affW c a (layF π σ w) ++ pageW c p π) := by rw [← eg2]; exact hD
        exact ret 57 ls H _ (bcF (layB σ w)) (rfl) hP hS dX0_layDown_57
      refine lv_iload_n hx hb dX0_layDown_30 rfl (lv_at hl 3 rfl) ?_
      refine lv_iload hx hb dX0_layDown_31 (lv_at hl 4 rfl) ?_
      refine lv_ishr hx hb dX0_layDown_33 ?_
      refine lv_iconst (v := 1) hx hb dX0_layDown_34 (by decide) ?_
      refine lv_iand hx hb dX0_layDown_35 ?_
      refine lv_iconst (v := 1) hx hb dX0_layDown_36 (by decide) ?_
      refine lv_icmp_ne (tgt := 47) hx hb dX0_layDown_37 (by decide) (fun h3 => ?_) (fun h3 => ?_)
      · refine lv_iinc (v := nI (i + 1)) (lv' := [(4, .int (nI (i + 1))), (0, .ref (a 0)), (1, .ref (p 0)), (2, .int (nI w)), (3, .int (layB σ w))]) hx hb dX0_layDown_47 hl (k := 4) rfl (nI_inc i 1) (by decide) rfl (fun ls hl => ?_)
        refine lv_goto (tgt := 21) hx hb dX0_layDown_50 (by decide) ?_
        have eg4 : layL π σ w i = layL π σ w (i + 1) := by first | rfl | (simp [layL, h1, h3]; done)
        have hP : va_P D vwCl (affW c a (layL π σ w (i + 1)) ++ pageW c p π) H := by rw [← eg4]; exact hP
        have hD : va_D A (affW c a (layL π σ w (i + 1)) ++ pageW c p π) := by rw [← eg4]; exact hD
        have hl : lv_has ls 5 [(0, .ref (a 0)), (1, .ref (p 0)), (2, .int (nI w)), (3, .int (layB σ w)), (4, .int (nI (i + 1)))] := lv_sub hl [1, 2, 3, 4, 0] rfl
        exact ih (i + 1) (by omega) (by omega) H _ hP hD hS ls hl
      refine lv_aload_n hx hb dX0_layDown_40 rfl (lv_at hl 0 rfl) ?_
      refine lv_aload_n hx hb dX0_layDown_41 rfl (lv_at hl 1 rfl) ?_
      refine lv_iload hx hb dX0_layDown_42 (lv_at hl 4 rfl) ?_
      refine wk_callVV (As := [.ref (p 0), .int (nI i)]) (rest := []) ⟨hx, hb, hml, hown, hts⟩ (c_X0_charge l D c a (layL π σ w i) p π i (hp) (by omega) ((hwf.2 i (by omega)).1)) (cwV 2 hts gX0_layDown_X0_charge rfl rfl rfl hd_X0_charge ⟨Nat.le_of_ble_eq_true rfl, Nat.le_of_ble_eq_true rfl⟩) hK hP hD hS hA [0, 1, 2, 3, 4, 5, 6, 7, 8, 9, 10, 11, 12, 13, 14, 15, 16, 17] [] 18 rfl rfl rfl (ws' := affW c a (chargeF π (layL π σ w i) i) ++ pageW c p π) rfl rfl rfl rfl 0 rfl rfl rfl hl.1 rfl (Nat.le_of_ble_eq_true rfl) dX0_layDown_44 (Nat.zero_le _) (Nat.zero_le _) (fun H locs hP hD hS => ?_)
      refine lv_iinc (v := nI (i + 1)) (lv' := [(4, .int (nI (i + 1))), (0, .ref (a 0)), (1, .ref (p 0)), (2, .int (nI w)), (3, .int (layB σ w))]) hx hb dX0_layDown_47 hl (k := 4) rfl (nI_inc i 1) (by decide) rfl (fun ls hl => ?_)
      refine lv_goto (tgt := 21) hx hb dX0_layDown_50 (by decide) ?_
      have eg5 : chargeF π (layL π σ w i) i = layL π σ w (i + 1) := by first | rfl | (simp [layL, h1, h3]; done)
      have hP : va_P D vwCl (affW c a (layL π σ w (i + 1)) ++ pageW c p π) H := by rw [← eg5]; exact hP
      have hD : va_D A (affW c a (layL π σ w (i + 1)) ++ pageW c p π) := by rw [← eg5]; exact hD
      have hl : lv_has ls 5 [(0, .ref (a 0)), (1, .ref (p 0)), (2, .int (nI w)), (3, .int (layB σ w)), (4, .int (nI (i + 1)))] := lv_sub hl [1, 2, 3, 4, 0] rfl
      exact ih (i + 1) (by omega) (by omega) H _ hP hD hS ls hl
  have eg6 : va_up σ 3 (fun _ => (σ 3 0) ||| (1 <<< ((nI w) &&& 31))) = layL π σ w 0 := by first | rfl | (simp [layL]; done)
  have hP : va_P D vwCl (affW c a (layL π σ w 0) ++ pageW c p π) H := by rw [← eg6]; exact hP
  have hD : va_D A (affW c a (layL π σ w 0) ++ pageW c p π) := by rw [← eg6]; exact hD
  have hl : lv_has ls 5 [(0, .ref (a 0)), (1, .ref (p 0)), (2, .int (nI w)), (3, .int (layB σ w)), (4, .int 0)] := lv_sub hl [2, 3, 4, 1, 0] rfl
  have hl := wk_lset (y := nI 0) (lv_sub (l' := [(4, .int 0), (0, .ref (a 0)), (1, .ref (p 0)), (2, .int (nI w)), (3, .int (layB σ w))]) hl [4, 0, 1, 2, 3] rfl) (by first | rfl | (simp [layL]; done))
  have hl : lv_has ls 5 [(0, .ref (a 0)), (1, .ref (p 0)), (2, .int (nI w)), (3, .int (layB σ w)), (4, .int (nI 0))] := lv_sub hl [1, 2, 3, 4, 0] rfl
  exact lp21 _ 0 (by omega) (Nat.lt_succ_self _) H locs hP hD hS ls hl

/-! ===== LastWordModel, walked: mayBe, peace ===== -/
abbrev rmX8_mayBe : Room := { frames := 2, cells := 0, slots := 0, locals := 48 }
theorem hd_X8_mayBe : yX8_mayBe.cls = RX8 ∧ yX8_mayBe.cls ≠ "java/lang/invoke/MethodHandle" ∧ yX8_mayBe.cls ≠ "java/lang/invoke/VarHandle" ∧ (parseMethodDescriptor yX8_mayBe.desc).map (fun d => d.parameters.length) = some 2 := by decide +kernel
set_option maxHeartbeats 4000000 in
set_option maxRecDepth 100000 in
theorem c_X8_mayBe (l : Launch) (D : va_G) (c : Nat → ClassId) (ad : Nat → Nat) (μ : Nat → Nat → Int32) (r : Int64) (w : Int32) (x2 : Int32) (hW : wfW μ) (hF : wfFM μ) (hFS : wfFS μ) : wk_UpI l yX8_mayBe wsX8_mayBe rmX8_mayBe D (tysL c) [.ref (ad 0), .int w, .int x2] (modelW c ad μ r) (modelW c ad μ r) (mmbV μ w x2) := by
  refine wk_mkU (cc := cX8_mayBe) (maxL := 9) (rt := .int) (by decide) rfl (Nat.le_of_ble_eq_true rfl) rfl ?_
  intro A pr ev ss mm args below meth cd ls H H0 locs Q hst hP hK hD hS hA hl ret
  obtain ⟨hx, hb, hml, hown, hts, -⟩ := hst
  have hown : ss.vm.findClass RX8 = some mm.cls := hown
  have hl : lv_has ls 9 [(0, .ref (ad 0)), (1, .int w), (2, .int x2)] := hl
  have k1 := hts (.fieldLink RX8 16 "LastWordModel" "paper" "[I") (List.mem_of_getElem? (i := 1) rfl)
  have k2 := hts (.fieldLink RX8 84 "LastWordModel" "founds" "I") (List.mem_of_getElem? (i := 2) rfl)
  have k3 := hts (.fieldLink RX8 28 "LastWordModel" "finds" "[I") (List.mem_of_getElem? (i := 3) rfl)
  have iX8 : ∀ w ∈ u_ws RX8 TX8 18, w ∈ wsX8_mayBe := fun _ h => (List.mem_cons_of_mem _ (List.mem_append_right _ h))
  refine lv_aload_n hx hb dX8_mayBe_0 rfl (lv_at hl 0 rfl) ?_
  refine lv_iload_n hx hb dX8_mayBe_1 rfl (lv_at hl 1 rfl) ?_
  refine wk_callRV (As := [.int w]) (rest := []) ⟨hx, hb, hml, hown, hts⟩ (c_X8_isWriter l D c ad μ r w) (cwV 1 hts gX8_mayBe_X8_isWriter rfl rfl rfl hd_X8_isWriter ⟨Nat.le_of_ble_eq_true rfl, Nat.le_of_ble_eq_true rfl⟩) hK hP [0, 1, 2, 3, 4, 5, 6, 7, 8] rfl 0 rfl rfl rfl hl.1 rfl (Nat.le_of_ble_eq_true rfl) dX8_mayBe_2 (Nat.zero_le _) (Nat.zero_le _) ?_
  refine wk_bz (tgt := 15) hx hb dX8_mayBe_5 (by decide) (fun h1 => ?_) (fun h1 => ?_)
  · refine lv_iconst (v := -1) hx hb dX8_mayBe_15 (by decide) ?_
    exact ret 16 ls H _ ((-1)) (by rw [mmbV, if_neg (fun q => h1 q.1)]) hP hS dX8_mayBe_16
  refine lv_iload_n hx hb dX8_mayBe_8 rfl (lv_at hl 2 rfl) ?_
  refine wk_callRS (As := [.int x2]) (rest := []) ⟨hx, hb, hml, hown, hts⟩ (c_X8_isSubject l D c x2) (va_cwS 1 hts gX8_mayBe_X8_isSubject rfl rfl rfl hd_X8_isSubject ⟨Nat.le_of_ble_eq_true rfl, Nat.le_of_ble_eq_true rfl⟩) hK hP [] rfl rfl hl.1 rfl (Nat.le_of_ble_eq_true rfl) dX8_mayBe_9 (Nat.zero_le _) (Nat.zero_le _) ?_
  refine wk_bnz (tgt := 17) hx hb dX8_mayBe_12 (by decide) (fun h2 => ?_) (fun h2 => ?_)
  rotate_left
  · refine lv_iconst (v := -1) hx hb dX8_mayBe_15 (by decide) ?_
    exact ret 16 ls H _ ((-1)) (by rw [mmbV, if_neg (fun q => h2 q.2)]) hP hS dX8_mayBe_16
  have hw := wM_ix hW h1
  have hw2 := hw.2
  have hW6 := hW.2
  have hs := sM_ix h2
  have hs2 := hs.2
  have hF5 := hF.2
  refine lv_iconst (v := 3) hx hb dX8_mayBe_17 (by decide) ?_
  refine lv_bipush (v := 7) hx hb dX8_mayBe_18 (by decide) ?_
  refine lv_iload_n hx hb dX8_mayBe_20 rfl (lv_at hl 1 rfl) ?_
  refine wk_eqi (y := nI w.toNatClampNeg) (hw.1) ?_
  refine lv_imul hx hb dX8_mayBe_21 ?_
  refine wk_eqi (pk_mul 7 w.toNatClampNeg) ?_
  refine lv_iadd hx hb dX8_mayBe_22 ?_
  refine wk_eqi (nI_add 3 (7 * w.toNatClampNeg)) ?_
  refine lv_iconst (v := 2) hx hb dX8_mayBe_23 (by decide) ?_
  refine lv_iadd hx hb dX8_mayBe_24 ?_
  refine wk_eqi (nI_add (3 + (7 * w.toNatClampNeg)) 2) ?_
  refine lv_iload_n hx hb dX8_mayBe_25 rfl (lv_at hl 2 rfl) ?_
  refine wk_eqi (y := nI x2.toNatClampNeg) (hs.1) ?_
  refine lv_iadd hx hb dX8_mayBe_26 ?_
  refine wk_eqi (nI_add ((3 + (7 * w.toNatClampNeg)) + 2) x2.toNatClampNeg) ?_
  refine wk_eqi (y := nI (mmbK w x2)) (rfl) ?_
  refine lv_istore_n (lv' := [(3, .int (nI (mmbK w x2))), (0, .ref (ad 0)), (1, .int w), (2, .int x2)]) hx hb dX8_mayBe_27 rfl hl (by decide) rfl (fun ls hl => ?_)
  refine lv_aload_n hx hb dX8_mayBe_28 rfl (lv_at hl 1 rfl) ?_
  refine wg_X8_7 hx hb hts iX8 hown hK hP 0 rfl k1 (v := .ref (ad 7)) rfl dX8_mayBe_29 ?_
  refine lv_iload_n hx hb dX8_mayBe_32 rfl (lv_at hl 0 rfl) ?_
  refine wk_ald (f := μ 7) hx hb hK hP 3 0 rfl rfl (mmbK w x2) rfl (by unfold mmbK; omega) (by decide) dX8_mayBe_33 ?_
  refine lv_istore (lv' := [(4, .int (μ 7 (mmbK w x2))), (3, .int (nI (mmbK w x2))), (0, .ref (ad 0)), (1, .int w), (2, .int x2)]) hx hb dX8_mayBe_34 hl (by decide) rfl (fun ls hl => ?_)
  refine lv_iconst (v := 0) hx hb dX8_mayBe_36 (by decide) ?_
  refine lv_istore (lv' := [(5, .int 0), (4, .int (μ 7 (mmbK w x2))), (3, .int (nI (mmbK w x2))), (0, .ref (ad 0)), (1, .int w), (2, .int x2)]) hx hb dX8_mayBe_37 hl (by decide) rfl (fun ls hl => ?_)
  refine lv_iconst (v := 0) hx hb dX8_mayBe_39 (by decide) ?_
  refine lv_istore (lv' := [(6, .int 0), (5, .int 0), (4, .int (μ 7 (mmbK w x2))), (3, .int (nI (mmbK w x2))), (0, .ref (ad 0)), (1, .int w), (2, .int x2)]) hx hb dX8_mayBe_40 hl (by decide) rfl (fun ls hl => ?_)
  have lp42 : ∀ (n : Nat) (i : Nat) (ρ : Nat → Int32), (i ≤ 10) → (∀ v, upd ρ (mmbK w x2) v = upd (μ 7) (mmbK w x2) v) → 10 - i < n → ∀ (H : Heap) (locs : List Loc), va_P D vwCl (modelW c ad (va_up μ 7 ρ) r) H → va_D A (modelW c ad (va_up μ 7 ρ) r) → va_S A H0 H locs → ∀ ls : Array Slot, lv_has ls 9 [(0, .ref (ad 0)), (3, .int (nI (mmbK w x2))), (4, .int (μ 7 (mmbK w x2))), (5, .int (mmbL μ (mmbK w x2) i)), (6, .int (nI i))] → W pr l ev rmX8_mayBe ss mm args below meth cd H locs 0 0 Q (F0 mm 42 ls []) := by
    intro n
    induction n with
    | zero => intro i ρ hi hρ hn; exact absurd hn (Nat.not_lt_zero _)
    | succ n ih42 =>
      intro i ρ hi hρ hn H locs hP hD hS ls hl
      refine lv_iload hx hb dX8_mayBe_42 (lv_at hl 4 rfl) ?_
      refine lv_bipush (v := 10) hx hb dX8_mayBe_44 (by decide) ?_
      refine wk_ge (tgt := 153) hx hb i 10 rfl rfl (by omega) (by omega) dX8_mayBe_46 (by decide) (fun h3 => ?_) (fun h3 => ?_)
      · refine lv_aload_n hx hb dX8_mayBe_153 rfl (lv_at hl 0 rfl) ?_
        refine wg_X8_7 hx hb hts iX8 hown hK hP 0 rfl k1 (v := .ref (ad 7)) rfl dX8_mayBe_154 ?_
        refine lv_iload_n hx hb dX8_mayBe_157 rfl (lv_at hl 1 rfl) ?_
        refine lv_iload hx hb dX8_mayBe_158 (lv_at hl 2 rfl) ?_
        refine wk_ast hx hb hK hP hD hS 3 0 rfl rfl (mmbK w x2) rfl (by unfold mmbK; omega) (by decide) dX8_mayBe_160 (ws' := modelW c ad (va_up μ 7 (upd ρ (mmbK w x2) (μ 7 (mmbK w x2)))) r) rfl (fun H locs hP hD hS => ?_)
        have eg4 : va_up μ 7 (upd ρ (mmbK w x2) (μ 7 (mmbK w x2))) = μ := by rw [hρ]; exact mmbN_self μ _
        have hP : va_P D vwCl (modelW c ad μ r) H := by rw [← eg4]; exact hP
        have hD : va_D A (modelW c ad μ r) := by rw [← eg4]; exact hD
        refine lv_iload hx hb dX8_mayBe_161 (lv_at hl 3 rfl) ?_
        exact ret 163 ls H _ (mmbL μ (mmbK w x2) i) (by rw [mmbV, if_pos ⟨h1, h2⟩, show i = 10 by omega]) hP hS dX8_mayBe_163
      refine lv_aload_n hx hb dX8_mayBe_49 rfl (lv_at hl 0 rfl) ?_
      refine wg_X8_7 hx hb hts iX8 hown hK hP 0 rfl k1 (v := .ref (ad 7)) rfl dX8_mayBe_50 ?_
      refine lv_iload_n hx hb dX8_mayBe_53 rfl (lv_at hl 1 rfl) ?_
      refine lv_iload hx hb dX8_mayBe_54 (lv_at hl 4 rfl) ?_
      refine wk_ast hx hb hK hP hD hS 3 0 rfl rfl (mmbK w x2) rfl (by unfold mmbK; omega) (by decide) dX8_mayBe_56 (ws' := modelW c ad (va_up μ 7 (upd ρ (mmbK w x2) (nI i))) r) rfl (fun H locs hP hD hS => ?_)
      have eg5 : va_up μ 7 (upd ρ (mmbK w x2) (nI i)) = mmbN μ (mmbK w x2) (nI i) := by rw [hρ, mmbN]
      have hP : va_P D vwCl (modelW c ad (mmbN μ (mmbK w x2) (nI i)) r) H := by rw [← eg5]; exact hP
      have hD : va_D A (modelW c ad (mmbN μ (mmbK w x2) (nI i)) r) := by rw [← eg5]; exact hD
      refine lv_iconst (v := 1) hx hb dX8_mayBe_57 (by decide) ?_
      refine lv_istore (lv' := [(7, .int 1), (0, .ref (ad 0)), (3, .int (nI (mmbK w x2))), (4, .int (μ 7 (mmbK w x2))), (5, .int (mmbL μ (mmbK w x2) i)), (6, .int (nI i))]) hx hb dX8_mayBe_58 hl (by decide) rfl (fun ls hl => ?_)
      refine lv_iconst (v := 0) hx hb dX8_mayBe_60 (by decide) ?_
      refine lv_istore (lv' := [(8, .int 0), (7, .int 1), (0, .ref (ad 0)), (3, .int (nI (mmbK w x2))), (4, .int (μ 7 (mmbK w x2))), (5, .int (mmbL μ (mmbK w x2) i)), (6, .int (nI i))]) hx hb dX8_mayBe_61 hl (by decide) rfl (fun ls hl => ?_)
      have lp63 : ∀ (n : Nat) (t : Nat), (t ≤ fM μ) → fM μ - t < n → ∀ (H : Heap) (locs : List Loc), va_P D vwCl (modelW c ad (mmbN μ (mmbK w x2) (nI i)) r) H → va_D A (modelW c ad (mmbN μ (mmbK w x2) (nI i)) r) → va_S A H0 H locs → ∀ ls : Array Slot, lv_has ls 9 [(0, .ref (ad 0)), (3, .int (nI (mmbK w x2))), (4, .int (μ 7 (mmbK w x2))), (5, .int (mmbL μ (mmbK w x2) i)), (6, .int (nI i)), (7, .int (msL (mmbN μ (mmbK w x2) (nI i)) t)), (8, .int (nI t))] → W pr l ev rmX8_mayBe ss mm args below meth cd H locs 0 0 Q (F0 mm 63 ls []) := by
        intro n
        induction n with
        | zero => intro t ht hn; exact absurd hn (Nat.not_lt_zero _)
        | succ n ih63 =>
          intro t ht hn H locs hP hD hS ls hl
          refine lv_iload hx hb dX8_mayBe_63 (lv_at hl 6 rfl) ?_
          refine lv_aload_n hx hb dX8_mayBe_65 rfl (lv_at hl 0 rfl) ?_
          refine wg_X8_14 hx hb hts iX8 hown hK hP 0 rfl k2 (v := .int ((mmbN μ (mmbK w x2) (nI i)) 14 0)) rfl dX8_mayBe_66 ?_
          refine wk_eqi ((congrFun (mmbN_of μ (mmbK w x2) (nI i) (k := 14) (by decide)) 0).trans hF.1) ?_
          refine wk_ge (tgt := 129) hx hb t (fM μ) rfl rfl (by omega) (by omega) dX8_mayBe_69 (by decide) (fun h6 => ?_) (fun h6 => ?_)
          · have he : t = fM μ := by omega
            refine lv_iload hx hb dX8_mayBe_129 (lv_at hl 3 rfl) ?_
            refine lv_iload hx hb dX8_mayBe_131 (lv_at hl 5 rfl) ?_
            refine lv_if_eq (tgt := 143) hx hb dX8_mayBe_133 (by decide) (fun h7 => ?_) (fun h7 => ?_)
            · refine lv_iconst (v := 0) hx hb dX8_mayBe_143 (by decide) ?_
              refine lv_ior hx hb dX8_mayBe_144 ?_
              refine lv_istore (lv' := [(5, .int ((mmbL μ (mmbK w x2) i) ||| 0)), (0, .ref (ad 0)), (3, .int (nI (mmbK w x2))), (4, .int (μ 7 (mmbK w x2))), (6, .int (nI i)), (7, .int (msL (mmbN μ (mmbK w x2) (nI i)) t)), (8, .int (nI t))]) hx hb dX8_mayBe_145 hl (by decide) rfl (fun ls hl => ?_)
              have eg8 : mmbN μ (mmbK w x2) (nI i) = va_up μ 7 (upd (μ 7) (mmbK w x2) (nI i)) := by rfl
              have hP : va_P D vwCl (modelW c ad (va_up μ 7 (upd (μ 7) (mmbK w x2) (nI i))) r) H := by rw [← eg8]; exact hP
              have hD : va_D A (modelW c ad (va_up μ 7 (upd (μ 7) (mmbK w x2) (nI i))) r) := by rw [← eg8]; exact hD
              refine lv_iinc (v := nI (i + 1)) (lv' := [(6, .int (nI (i + 1))), (5, .int ((mmbL μ (mmbK w x2) i) ||| 0)), (0, .ref (ad 0)), (3, .int (nI (mmbK w x2))), (4, .int (μ 7 (mmbK w x2))), (7, .int (msL (mmbN μ (mmbK w x2) (nI i)) t)), (8, .int (nI t))]) hx hb dX8_mayBe_147 hl (k := 4) rfl (nI_inc i 1) (by decide) rfl (fun ls hl => ?_)
              refine lv_goto (tgt := 42) hx hb dX8_mayBe_150 (by decide) ?_
              have eg9 : va_up μ 7 (upd (μ 7) (mmbK w x2) (nI i)) = va_up μ 7 ((upd (μ 7) (mmbK w x2) (nI i))) := by first | rfl | (rw [mmbL, ← he, if_pos h7]; done) | (rw [mmbL, ← he, if_neg h7]; done)
              have hP : va_P D vwCl (modelW c ad (va_up μ 7 ((upd (μ 7) (mmbK w x2) (nI i)))) r) H := by rw [← eg9]; exact hP
              have hD : va_D A (modelW c ad (va_up μ 7 ((upd (μ 7) (mmbK w x2) (nI i)))) r) := by rw [← eg9]; exact hD
              have hl : lv_has ls 9 [(0, .ref (ad 0)), (3, .int (nI (mmbK w x2))), (4, .int (μ 7 (mmbK w x2))), (5, .int ((mmbL μ (mmbK w x2) i) ||| 0)), (6, .int (nI (i + 1)))] := lv_sub hl [2, 3, 4, 1, 0] rfl
              have hl := wk_lset (y := mmbL μ (mmbK w x2) (i + 1)) (lv_sub (l' := [(5, .int ((mmbL μ (mmbK w x2) i) ||| 0)), (0, .ref (ad 0)), (3, .int (nI (mmbK w x2))), (4, .int (μ 7 (mmbK w x2))), (6, .int (nI (i + 1)))]) hl [3, 0, 1, 2, 4] rfl) (by first | rfl | (rw [mmbL, ← he, if_pos h7]; done) | (rw [mmbL, ← he, if_neg h7]; done))
              have hl : lv_has ls 9 [(0, .ref (ad 0)), (3, .int (nI (mmbK w x2))), (4, .int (μ 7 (mmbK w x2))), (5, .int (mmbL μ (mmbK w x2) (i + 1))), (6, .int (nI (i + 1)))] := lv_sub hl [1, 2, 3, 0, 4] rfl
              exact ih42 (i + 1) (upd (μ 7) (mmbK w x2) (nI i)) (by omega) (fun v => upd_upd _ _ _ v) (by omega) H _ hP hD hS ls hl
            refine lv_iconst (v := 1) hx hb dX8_mayBe_136 (by decide) ?_
            refine lv_iload hx hb dX8_mayBe_137 (lv_at hl 4 rfl) ?_
            refine lv_ishl hx hb dX8_mayBe_139 ?_
            refine lv_goto (tgt := 144) hx hb dX8_mayBe_140 (by decide) ?_
            refine lv_ior hx hb dX8_mayBe_144 ?_
            refine lv_istore (lv' := [(5, .int ((mmbL μ (mmbK w x2) i) ||| (1 <<< ((nI i) &&& 31)))), (0, .ref (ad 0)), (3, .int (nI (mmbK w x2))), (4, .int (μ 7 (mmbK w x2))), (6, .int (nI i)), (7, .int (msL (mmbN μ (mmbK w x2) (nI i)) t)), (8, .int (nI t))]) hx hb dX8_mayBe_145 hl (by decide) rfl (fun ls hl => ?_)
            have eg10 : mmbN μ (mmbK w x2) (nI i) = va_up μ 7 (upd (μ 7) (mmbK w x2) (nI i)) := by rfl
            have hP : va_P D vwCl (modelW c ad (va_up μ 7 (upd (μ 7) (mmbK w x2) (nI i))) r) H := by rw [← eg10]; exact hP
            have hD : va_D A (modelW c ad (va_up μ 7 (upd (μ 7) (mmbK w x2) (nI i))) r) := by rw [← eg10]; exact hD
            refine lv_iinc (v := nI (i + 1)) (lv' := [(6, .int (nI (i + 1))), (5, .int ((mmbL μ (mmbK w x2) i) ||| (1 <<< ((nI i) &&& 31)))), (0, .ref (ad 0)), (3, .int (nI (mmbK w x2))), (4, .int (μ 7 (mmbK w x2))), (7, .int (msL (mmbN μ (mmbK w x2) (nI i)) t)), (8, .int (nI t))]) hx hb dX8_mayBe_147 hl (k := 4) rfl (nI_inc i 1) (by decide) rfl (fun ls hl => ?_)
            refine lv_goto (tgt := 42) hx hb dX8_mayBe_150 (by decide) ?_
            have eg11 : va_up μ 7 (upd (μ 7) (mmbK w x2) (nI i)) = va_up μ 7 ((upd (μ 7) (mmbK w x2) (nI i))) := by first | rfl | (rw [mmbL, ← he, if_pos h7]; done) | (rw [mmbL, ← he, if_neg h7]; done)
            have hP : va_P D vwCl (modelW c ad (va_up μ 7 ((upd (μ 7) (mmbK w x2) (nI i)))) r) H := by rw [← eg11]; exact hP
            have hD : va_D A (modelW c ad (va_up μ 7 ((upd (μ 7) (mmbK w x2) (nI i)))) r) := by rw [← eg11]; exact hD
            have hl : lv_has ls 9 [(0, .ref (ad 0)), (3, .int (nI (mmbK w x2))), (4, .int (μ 7 (mmbK w x2))), (5, .int ((mmbL μ (mmbK w x2) i) ||| (1 <<< ((nI i) &&& 31)))), (6, .int (nI (i + 1)))] := lv_sub hl [2, 3, 4, 1, 0] rfl
            have hl := wk_lset (y := mmbL μ (mmbK w x2) (i + 1)) (lv_sub (l' := [(5, .int ((mmbL μ (mmbK w x2) i) ||| (1 <<< ((nI i) &&& 31)))), (0, .ref (ad 0)), (3, .int (nI (mmbK w x2))), (4, .int (μ 7 (mmbK w x2))), (6, .int (nI (i + 1)))]) hl [3, 0, 1, 2, 4] rfl) (by first | rfl | (rw [mmbL, ← he, if_pos h7]; done) | (rw [mmbL, ← he, if_neg h7]; done))
            have hl : lv_has ls 9 [(0, .ref (ad 0)), (3, .int (nI (mmbK w x2))), (4, .int (μ 7 (mmbK w x2))), (5, .int (mmbL μ (mmbK w x2) (i + 1))), (6, .int (nI (i + 1)))] := lv_sub hl [1, 2, 3, 0, 4] rfl
            exact ih42 (i + 1) (upd (μ 7) (mmbK w x2) (nI i)) (by omega) (fun v => upd_upd _ _ _ v) (by omega) H _ hP hD hS ls hl
          refine lv_iload hx hb dX8_mayBe_72 (lv_at hl 5 rfl) ?_
          refine lv_if_eq (tgt := 120) hx hb dX8_mayBe_74 (by decide) (fun h12 => ?_) (fun h12 => ?_)
          · refine lv_iconst (v := 0) hx hb dX8_mayBe_120 (by decide) ?_
            refine lv_istore (lv' := [(7, .int 0), (0, .ref (ad 0)), (3, .int (nI (mmbK w x2))), (4, .int (μ 7 (mmbK w x2))), (5, .int (mmbL μ (mmbK w x2) i)), (6, .int (nI i)), (8, .int (nI t))]) hx hb dX8_mayBe_121 hl (by decide) rfl (fun ls hl => ?_)
            refine lv_iinc (v := nI (t + 1)) (lv' := [(8, .int (nI (t + 1))), (7, .int 0), (0, .ref (ad 0)), (3, .int (nI (mmbK w x2))), (4, .int (μ 7 (mmbK w x2))), (5, .int (mmbL μ (mmbK w x2) i)), (6, .int (nI i))]) hx hb dX8_mayBe_123 hl (k := 6) rfl (nI_inc t 1) (by decide) rfl (fun ls hl => ?_)
            refine lv_goto (tgt := 63) hx hb dX8_mayBe_126 (by decide) ?_
            have hl : lv_has ls 9 [(0, .ref (ad 0)), (3, .int (nI (mmbK w x2))), (4, .int (μ 7 (mmbK w x2))), (5, .int (mmbL μ (mmbK w x2) i)), (6, .int (nI i)), (7, .int 0), (8, .int (nI (t + 1)))] := lv_sub hl [2, 3, 4, 5, 6, 1, 0] rfl
            have hl := wk_lset (y := msL (mmbN μ (mmbK w x2) (nI i)) (t + 1)) (lv_sub (l' := [(7, .int 0), (0, .ref (ad 0)), (3, .int (nI (mmbK w x2))), (4, .int (μ 7 (mmbK w x2))), (5, .int (mmbL μ (mmbK w x2) i)), (6, .int (nI i)), (8, .int (nI (t + 1)))]) hl [5, 0, 1, 2, 3, 4, 6] rfl) (by first | rfl | (simp [msL, h1, h2, h3, h6, h12]; done))
            have hl : lv_has ls 9 [(0, .ref (ad 0)), (3, .int (nI (mmbK w x2))), (4, .int (μ 7 (mmbK w x2))), (5, .int (mmbL μ (mmbK w x2) i)), (6, .int (nI i)), (7, .int (msL (mmbN μ (mmbK w x2) (nI i)) (t + 1))), (8, .int (nI (t + 1)))] := lv_sub hl [1, 2, 3, 4, 5, 0, 6] rfl
            exact ih63 (t + 1) (by omega) (by omega) H _ hP hD hS ls hl
          refine lv_aload_n hx hb dX8_mayBe_77 rfl (lv_at hl 0 rfl) ?_
          refine lv_aload_n hx hb dX8_mayBe_78 rfl (lv_at hl 0 rfl) ?_
          refine wg_X8_15 hx hb hts iX8 hown hK hP 0 rfl k3 (v := .ref (ad 15)) rfl dX8_mayBe_79 ?_
          refine lv_iconst (v := 3) hx hb dX8_mayBe_82 (by decide) ?_
          refine lv_iload hx hb dX8_mayBe_83 (lv_at hl 6 rfl) ?_
          refine lv_imul hx hb dX8_mayBe_85 ?_
          refine wk_eqi (pk_mul 3 t) ?_
          refine wk_ald (f := (mmbN μ (mmbK w x2) (nI i)) 15) hx hb hK hP 7 0 rfl rfl (3 * t) rfl (by omega) (by decide) dX8_mayBe_86 ?_
          refine lv_aload_n hx hb dX8_mayBe_87 rfl (lv_at hl 0 rfl) ?_
          refine wg_X8_15 hx hb hts iX8 hown hK hP 0 rfl k3 (v := .ref (ad 15)) rfl dX8_mayBe_88 ?_
          refine lv_iconst (v := 3) hx hb dX8_mayBe_91 (by decide) ?_
          refine lv_iload hx hb dX8_mayBe_92 (lv_at hl 6 rfl) ?_
          refine lv_imul hx hb dX8_mayBe_94 ?_
          refine wk_eqi (pk_mul 3 t) ?_
          refine lv_iconst (v := 1) hx hb dX8_mayBe_95 (by decide) ?_
          refine lv_iadd hx hb dX8_mayBe_96 ?_
          refine wk_eqi (nI_add (3 * t) 1) ?_
          refine wk_ald (f := (mmbN μ (mmbK w x2) (nI i)) 15) hx hb hK hP 7 0 rfl rfl ((3 * t) + 1) rfl (by omega) (by decide) dX8_mayBe_97 ?_
          have hfs : ixOK (mmbN μ (mmbK w x2) (nI i) 15 (3 * t + 1)) 5 := by rw [mmbN_of μ _ _ (by decide)]; exact hFS t (by omega)
          refine wk_eqi (y := nI (((mmbN μ (mmbK w x2) (nI i)) 15 ((3 * t) + 1)).toNatClampNeg)) (hfs.1) ?_
          refine lv_iconst (v := 0) hx hb dX8_mayBe_98 (by decide) ?_
          refine wk_callRV (As := [.int ((mmbN μ (mmbK w x2) (nI i)) 15 (3 * t)), .int (nI (((mmbN μ (mmbK w x2) (nI i)) 15 ((3 * t) + 1)).toNatClampNeg)), .int 0]) (rest := []) ⟨hx, hb, hml, hown, hts⟩ (c_X8_meantOf l D c ad (mmbN μ (mmbK w x2) (nI i)) r ((mmbN μ (mmbK w x2) (nI i)) 15 (3 * t)) (((mmbN μ (mmbK w x2) (nI i)) 15 ((3 * t) + 1)).toNatClampNeg) 0 (mmbN_W hW _ (by unfold mmbK; omega)) (hfs.2)) (cwV 3 hts gX8_mayBe_X8_meantOf rfl rfl rfl hd_X8_meantOf ⟨Nat.le_of_ble_eq_true rfl, Nat.le_of_ble_eq_true rfl⟩) hK hP [0, 1, 2, 3, 4, 5, 6, 7, 8] rfl 0 rfl rfl rfl hl.1 rfl (Nat.le_of_ble_eq_true rfl) dX8_mayBe_99 (Nat.zero_le _) (Nat.zero_le _) ?_
          refine lv_aload_n hx hb dX8_mayBe_102 rfl (lv_at hl 0 rfl) ?_
          refine wg_X8_15 hx hb hts iX8 hown hK hP 0 rfl k3 (v := .ref (ad 15)) rfl dX8_mayBe_103 ?_
          refine lv_iconst (v := 3) hx hb dX8_mayBe_106 (by decide) ?_
          refine lv_iload hx hb dX8_mayBe_107 (lv_at hl 6 rfl) ?_
          refine lv_imul hx hb dX8_mayBe_109 ?_
          refine wk_eqi (pk_mul 3 t) ?_
          refine lv_iconst (v := 2) hx hb dX8_mayBe_110 (by decide) ?_
          refine lv_iadd hx hb dX8_mayBe_111 ?_
          refine wk_eqi (nI_add (3 * t) 2) ?_
          refine wk_ald (f := (mmbN μ (mmbK w x2) (nI i)) 15) hx hb hK hP 7 0 rfl rfl ((3 * t) + 2) rfl (by omega) (by decide) dX8_mayBe_112 ?_
          refine lv_icmp_ne (tgt := 120) hx hb dX8_mayBe_113 (by decide) (fun h13 => ?_) (fun h13 => ?_)
          · refine lv_iconst (v := 0) hx hb dX8_mayBe_120 (by decide) ?_
            refine lv_istore (lv' := [(7, .int 0), (0, .ref (ad 0)), (3, .int (nI (mmbK w x2))), (4, .int (μ 7 (mmbK w x2))), (5, .int (mmbL μ (mmbK w x2) i)), (6, .int (nI i)), (8, .int (nI t))]) hx hb dX8_mayBe_121 hl (by decide) rfl (fun ls hl => ?_)
            refine lv_iinc (v := nI (t + 1)) (lv' := [(8, .int (nI (t + 1))), (7, .int 0), (0, .ref (ad 0)), (3, .int (nI (mmbK w x2))), (4, .int (μ 7 (mmbK w x2))), (5, .int (mmbL μ (mmbK w x2) i)), (6, .int (nI i))]) hx hb dX8_mayBe_123 hl (k := 6) rfl (nI_inc t 1) (by decide) rfl (fun ls hl => ?_)
            refine lv_goto (tgt := 63) hx hb dX8_mayBe_126 (by decide) ?_
            have hl : lv_has ls 9 [(0, .ref (ad 0)), (3, .int (nI (mmbK w x2))), (4, .int (μ 7 (mmbK w x2))), (5, .int (mmbL μ (mmbK w x2) i)), (6, .int (nI i)), (7, .int 0), (8, .int (nI (t + 1)))] := lv_sub hl [2, 3, 4, 5, 6, 1, 0] rfl
            have hl := wk_lset (y := msL (mmbN μ (mmbK w x2) (nI i)) (t + 1)) (lv_sub (l' := [(7, .int 0), (0, .ref (ad 0)), (3, .int (nI (mmbK w x2))), (4, .int (μ 7 (mmbK w x2))), (5, .int (mmbL μ (mmbK w x2) i)), (6, .int (nI i)), (8, .int (nI (t + 1)))]) hl [5, 0, 1, 2, 3, 4, 6] rfl) (by first | rfl | (simp [msL, h1, h2, h3, h6, h12, h13]; done))
            have hl : lv_has ls 9 [(0, .ref (ad 0)), (3, .int (nI (mmbK w x2))), (4, .int (μ 7 (mmbK w x2))), (5, .int (mmbL μ (mmbK w x2) i)), (6, .int (nI i)), (7, .int (msL (mmbN μ (mmbK w x2) (nI i)) (t + 1))), (8, .int (nI (t + 1)))] := lv_sub hl [1, 2, 3, 4, 5, 0, 6] rfl
            exact ih63 (t + 1) (by omega) (by omega) H _ hP hD hS ls hl
          refine lv_iconst (v := 1) hx hb dX8_mayBe_116 (by decide) ?_
          refine lv_goto (tgt := 121) hx hb dX8_mayBe_117 (by decide) ?_
          refine lv_istore (lv' := [(7, .int 1), (0, .ref (ad 0)), (3, .int (nI (mmbK w x2))), (4, .int (μ 7 (mmbK w x2))), (5, .int (mmbL μ (mmbK w x2) i)), (6, .int (nI i)), (8, .int (nI t))]) hx hb dX8_mayBe_121 hl (by decide) rfl (fun ls hl => ?_)
          refine lv_iinc (v := nI (t + 1)) (lv' := [(8, .int (nI (t + 1))), (7, .int 1), (0, .ref (ad 0)), (3, .int (nI (mmbK w x2))), (4, .int (μ 7 (mmbK w x2))), (5, .int (mmbL μ (mmbK w x2) i)), (6, .int (nI i))]) hx hb dX8_mayBe_123 hl (k := 6) rfl (nI_inc t 1) (by decide) rfl (fun ls hl => ?_)
          refine lv_goto (tgt := 63) hx hb dX8_mayBe_126 (by decide) ?_
          have hl : lv_has ls 9 [(0, .ref (ad 0)), (3, .int (nI (mmbK w x2))), (4, .int (μ 7 (mmbK w x2))), (5, .int (mmbL μ (mmbK w x2) i)), (6, .int (nI i)), (7, .int 1), (8, .int (nI (t + 1)))] := lv_sub hl [2, 3, 4, 5, 6, 1, 0] rfl
          have hl := wk_lset (y := msL (mmbN μ (mmbK w x2) (nI i)) (t + 1)) (lv_sub (l' := [(7, .int 1), (0, .ref (ad 0)), (3, .int (nI (mmbK w x2))), (4, .int (μ 7 (mmbK w x2))), (5, .int (mmbL μ (mmbK w x2) i)), (6, .int (nI i)), (8, .int (nI (t + 1)))]) hl [5, 0, 1, 2, 3, 4, 6] rfl) (by first | rfl | (simp [msL, h1, h2, h3, h6, h12, h13]; done))
          have hl : lv_has ls 9 [(0, .ref (ad 0)), (3, .int (nI (mmbK w x2))), (4, .int (μ 7 (mmbK w x2))), (5, .int (mmbL μ (mmbK w x2) i)), (6, .int (nI i)), (7, .int (msL (mmbN μ (mmbK w x2) (nI i)) (t + 1))), (8, .int (nI (t + 1)))] := lv_sub hl [1, 2, 3, 4, 5, 0, 6] rfl
          exact ih63 (t + 1) (by omega) (by omega) H _ hP hD hS ls hl
      have hl : lv_has ls 9 [(0, .ref (ad 0)), (3, .int (nI (mmbK w x2))), (4, .int (μ 7 (mmbK w x2))), (5, .int (mmbL μ (mmbK w x2) i)), (6, .int (nI i)), (7, .int 1), (8, .int 0)] := lv_sub hl [2, 3, 4, 5, 6, 1, 0] rfl
      have hl := wk_lset (y := msL (mmbN μ (mmbK w x2) (nI i)) 0) (lv_sub (l' := [(7, .int 1), (0, .ref (ad 0)), (3, .int (nI (mmbK w x2))), (4, .int (μ 7 (mmbK w x2))), (5, .int (mmbL μ (mmbK w x2) i)), (6, .int (nI i)), (8, .int 0)]) hl [5, 0, 1, 2, 3, 4, 6] rfl) (by first | rfl | (simp [msL, h1, h2, h3]; done))
      have hl : lv_has ls 9 [(0, .ref (ad 0)), (3, .int (nI (mmbK w x2))), (4, .int (μ 7 (mmbK w x2))), (5, .int (mmbL μ (mmbK w x2) i)), (6, .int (nI i)), (7, .int (msL (mmbN μ (mmbK w x2) (nI i)) 0)), (8, .int 0)] := lv_sub hl [1, 2, 3, 4, 5, 0, 6] rfl
      have hl := wk_lset (y := nI 0) (lv_sub (l' := [(8, .int 0), (0, .ref (ad 0)), (3, .int (nI (mmbK w x2))), (4, .int (μ 7 (mmbK w x2))), (5, .int (mmbL μ (mmbK w x2) i)), (6, .int (nI i)), (7, .int (msL (mmbN μ (mmbK w x2) (nI i)) 0))]) hl [6, 0, 1, 2, 3, 4, 5] rfl) (by first | rfl | (simp [msL, h1, h2, h3]; done))
      have hl : lv_has ls 9 [(0, .ref (ad 0)), (3, .int (nI (mmbK w x2))), (4, .int (μ 7 (mmbK w x2))), (5, .int (mmbL μ (mmbK w x2) i)), (6, .int (nI i)), (7, .int (msL (mmbN μ (mmbK w x2) (nI i)) 0)), (8, .int (nI 0))] := lv_sub hl [1, 2, 3, 4, 5, 6, 0] rfl
      exact lp63 _ 0 (by omega) (Nat.lt_succ_self _) H locs hP hD hS ls hl
  have eg14 : μ = va_up μ 7 ((μ 7)) := by exact (up_self rfl).symm
  have hP : va_P D vwCl (modelW c ad (va_up μ 7 ((μ 7))) r) H := by rw [← eg14]; exact hP
  have hD : va_D A (modelW c ad (va_up μ 7 ((μ 7))) r) := by rw [← eg14]; exact hD
  have hl : lv_has ls 9 [(0, .ref (ad 0)), (3, .int (nI (mmbK w x2))), (4, .int (μ 7 (mmbK w x2))), (5, .int 0), (6, .int 0)] := lv_sub hl [4, 3, 2, 1, 0] rfl
  have hl := wk_lset (y := mmbL μ (mmbK w x2) 0) (lv_sub (l' := [(5, .int 0), (0, .ref (ad 0)), (3, .int (nI (mmbK w x2))), (4, .int (μ 7 (mmbK w x2))), (6, .int 0)]) hl [3, 0, 1, 2, 4] rfl) (by first | rfl | (rw [mmbL, ← he, if_pos h2]; done) | (rw [mmbL, ← he, if_neg h2]; done))
  have hl : lv_has ls 9 [(0, .ref (ad 0)), (3, .int (nI (mmbK w x2))), (4, .int (μ 7 (mmbK w x2))), (5, .int (mmbL μ (mmbK w x2) 0)), (6, .int 0)] := lv_sub hl [1, 2, 3, 0, 4] rfl
  have hl := wk_lset (y := nI 0) (lv_sub (l' := [(6, .int 0), (0, .ref (ad 0)), (3, .int (nI (mmbK w x2))), (4, .int (μ 7 (mmbK w x2))), (5, .int (mmbL μ (mmbK w x2) 0))]) hl [4, 0, 1, 2, 3] rfl) (by first | rfl | (rw [mmbL, ← he, if_pos h2]; done) | (rw [mmbL, ← he, if_neg h2]; done))
  have hl : lv_has ls 9 [(0, .ref (ad 0)), (3, .int (nI (mmbK w x2))), (4, .int (μ 7 (mmbK w x2))), (5, .int (mmbL μ (mmbK w x2) 0)), (6, .int (nI 0))] := lv_sub hl [1, 2, 3, 4, 0] rfl
  exact lp42 _ 0 (μ 7) (by omega) (fun _ => rfl) (Nat.lt_succ_self _) H _ hP hD hS ls hl

abbrev rmX8_peace : Room := { frames := 6, cells := 0, slots := 0, locals := 140 }
theorem hd_X8_peace : yX8_peace.cls = RX8 ∧ yX8_peace.cls ≠ "java/lang/invoke/MethodHandle" ∧ yX8_peace.cls ≠ "java/lang/invoke/VarHandle" ∧ (parseMethodDescriptor yX8_peace.desc).map (fun d => d.parameters.length) = some 1 := by decide +kernel
set_option maxHeartbeats 4000000 in
set_option maxRecDepth 100000 in
theorem c_X8_peace (l : Launch) (D : va_G) (c : Nat → ClassId) (ad : Nat → Nat) (μ : Nat → Nat → Int32) (r : Int64) (q : Int32) (hG : wfG μ) : wk_UpI l yX8_peace wsX8_peace rmX8_peace D (tysL c) [.ref (ad 0), .int q] (modelW c ad μ r) (modelW c ad (mpcF μ q) r) (mpcV μ q) := by
  refine wk_mkU (cc := cX8_peace) (maxL := 5) (rt := .int) (by decide) rfl (Nat.le_of_ble_eq_true rfl) rfl ?_
  intro A pr ev ss mm args below meth cd ls H H0 locs Q hst hP hK hD hS hA hl ret
  obtain ⟨hx, hb, hml, hown, hts, -⟩ := hst
  have hown : ss.vm.findClass RX8 = some mm.cls := hown
  have hl : lv_has ls 5 [(0, .ref (ad 0)), (1, .int q)] := hl
  have k1 := hts (.fieldLink RX8 16 "LastWordModel" "paper" "[I") (List.mem_of_getElem? (i := 1) rfl)
  have k2 := hts (.fieldLink RX8 25 "LastWordModel" "aside" "[I") (List.mem_of_getElem? (i := 2) rfl)
  have iX8 : ∀ w ∈ u_ws RX8 TX8 18, w ∈ wsX8_peace := fun _ h => (List.mem_cons_of_mem _ (List.mem_append_right _ h))
  refine lv_aload_n hx hb dX8_peace_0 rfl (lv_at hl 0 rfl) ?_
  refine lv_iload_n hx hb dX8_peace_1 rfl (lv_at hl 1 rfl) ?_
  refine wk_callRV (As := [.int q]) (rest := []) ⟨hx, hb, hml, hown, hts⟩ (c_X8_isQuarrel l D c ad μ r q) (cwV 1 hts gX8_peace_X8_isQuarrel rfl rfl rfl hd_X8_isQuarrel ⟨Nat.le_of_ble_eq_true rfl, Nat.le_of_ble_eq_true rfl⟩) hK hP [0, 1, 2, 3, 4, 5, 6, 7, 8] rfl 0 rfl rfl rfl hl.1 rfl (Nat.le_of_ble_eq_true rfl) dX8_peace_2 (Nat.zero_le _) (Nat.zero_le _) ?_
  refine wk_bnz (tgt := 10) hx hb dX8_peace_5 (by decide) (fun h1 => ?_) (fun h1 => ?_)
  rotate_left
  · refine lv_iconst (v := -1) hx hb dX8_peace_8 (by decide) ?_
    have eg28 : μ = mpcF μ q := by rw [mpcF, if_neg h1]
    have hP : va_P D vwCl (modelW c ad (mpcF μ q) r) H := by rw [← eg28]; exact hP
    have hD : va_D A (modelW c ad (mpcF μ q) r) := by rw [← eg28]; exact hD
    exact ret 9 ls H _ ((-1)) (by rw [mpcV, if_neg h1]) hP hS dX8_peace_9
  have hq0 := qM_ix hG.2.1 h1
  have hq1 := hq0.2
  have hq6 := hG.2.1.2
  have hW6 := hG.1.1.2
  have h64 : 2 ^ nM μ ≤ 64 := Nat.pow_le_pow_right (by omega) hW6
  have hw0 : asF μ 7 0 = nI (nM μ) := by rw [asF, va_up_ne _ _ (by decide)]; exact hG.1.1.1
  refine lv_aload_n hx hb dX8_peace_10 rfl (lv_at hl 0 rfl) ?_
  refine wk_callVV (As := []) (rest := []) ⟨hx, hb, hml, hown, hts⟩ (c_X8_asides l D c ad μ r) (cwV 0 hts gX8_peace_X8_asides rfl rfl rfl hd_X8_asides ⟨Nat.le_of_ble_eq_true rfl, Nat.le_of_ble_eq_true rfl⟩) hK hP hD hS hA [0, 1, 2, 3, 4, 5, 6, 7, 8] [] 9 rfl rfl [ad 0, ad 100, ad 6, ad 7, ad 8, ad 9, ad 12, ad 15, ad 17] rfl rfl (ws' := modelW c ad (asF μ) r) rfl (wr := []) rfl rfl rfl rfl 0 rfl rfl rfl hl.1 rfl (Nat.le_of_ble_eq_true rfl) dX8_peace_11 (Nat.zero_le _) (Nat.zero_le _) (fun H locs hP hD hS => ?_)
  refine lv_bipush (v := -9) hx hb dX8_peace_14 (by decide) ?_
  refine lv_istore_n (lv' := [(2, .int ((-9))), (0, .ref (ad 0)), (1, .int q)]) hx hb dX8_peace_16 rfl hl (by decide) rfl (fun ls hl => ?_)
  refine lv_iconst (v := 0) hx hb dX8_peace_17 (by decide) ?_
  refine lv_istore_n (lv' := [(3, .int 0), (2, .int ((-9))), (0, .ref (ad 0)), (1, .int q)]) hx hb dX8_peace_18 rfl hl (by decide) rfl (fun ls hl => ?_)
  have lp19 : ∀ (n : Nat) (s : Nat), (s ≤ 2 ^ nM μ) → 2 ^ nM μ - s < n → ∀ (H : Heap) (locs : List Loc), va_P D vwCl (modelW c ad ((pcM (asF μ) (q.toNatClampNeg) s).1) r) H → va_D A (modelW c ad ((pcM (asF μ) (q.toNatClampNeg) s).1) r) → va_S A H0 H locs → ∀ ls : Array Slot, lv_has ls 5 [(0, .ref (ad 0)), (1, .int (nI q.toNatClampNeg)), (2, .int ((pcM (asF μ) (q.toNatClampNeg) s).2)), (3, .int (nI s))] → W pr l ev rmX8_peace ss mm args below meth cd H locs 0 0 Q (F0 mm 19 ls []) := by
    intro n
    induction n with
    | zero => intro s hs hn; exact absurd hn (Nat.not_lt_zero _)
    | succ n ih19 =>
      intro s hs hn H locs hP hD hS ls hl
      refine lv_iload_n hx hb dX8_peace_19 rfl (lv_at hl 3 rfl) ?_
      refine lv_iconst (v := 1) hx hb dX8_peace_20 (by decide) ?_
      refine lv_aload_n hx hb dX8_peace_21 rfl (lv_at hl 0 rfl) ?_
      refine wg_X8_7 hx hb hts iX8 hown hK hP 0 rfl k1 (v := .ref (ad 7)) rfl dX8_peace_22 ?_
      refine lv_iconst (v := 0) hx hb dX8_peace_25 (by decide) ?_
      refine wk_ald (f := ((pcM (asF μ) (q.toNatClampNeg) s).1) 7) hx hb hK hP 3 0 rfl rfl 0 rfl (by omega) (by decide) dX8_peace_26 ?_
      refine wk_eqi (y := nI (nM μ)) (by rw [pcM_of (asF μ) _ (by decide) (by decide)]; exact hw0) ?_
      refine lv_ishl hx hb dX8_peace_27 ?_
      refine wk_eqi (y := nI (2 ^ nM μ)) (shl_1 (nM μ) (by omega)) ?_
      refine wk_ge (tgt := 122) hx hb s (2 ^ nM μ) rfl rfl (by omega) (by omega) dX8_peace_28 (by decide) (fun h2 => ?_) (fun h2 => ?_)
      · refine lv_iload_n hx hb dX8_peace_122 rfl (lv_at hl 2 rfl) ?_
        have eg3 : (pcM (asF μ) (q.toNatClampNeg) s).1 = mpcF μ q := by rw [mpcF, if_pos h1, mpcE, show s = 2 ^ nM μ by omega]
        have hP : va_P D vwCl (modelW c ad (mpcF μ q) r) H := by rw [← eg3]; exact hP
        have hD : va_D A (modelW c ad (mpcF μ q) r) := by rw [← eg3]; exact hD
        exact ret 123 ls H _ ((pcM (asF μ) (q.toNatClampNeg) s).2) (by rw [mpcV, if_pos h1, mpcE, show s = 2 ^ nM μ by omega]) hP hS dX8_peace_123
      refine lv_iload_n hx hb dX8_peace_31 rfl (lv_at hl 3 rfl) ?_
      refine lv_aload_n hx hb dX8_peace_32 rfl (lv_at hl 0 rfl) ?_
      refine wg_X8_12 hx hb hts iX8 hown hK hP 0 rfl k2 (v := .ref (ad 12)) rfl dX8_peace_33 ?_
      refine lv_iconst (v := 2) hx hb dX8_peace_36 (by decide) ?_
      refine wk_ald (f := ((pcM (asF μ) (q.toNatClampNeg) s).1) 12) hx hb hK hP 6 0 rfl rfl 2 rfl (by omega) (by decide) dX8_peace_37 ?_
      refine lv_iand hx hb dX8_peace_38 ?_
      refine lv_if_ne (tgt := 116) hx hb dX8_peace_39 (by decide) (fun h4 => ?_) (fun h4 => ?_)
      · refine lv_iinc (v := nI (s + 1)) (lv' := [(3, .int (nI (s + 1))), (0, .ref (ad 0)), (1, .int (nI q.toNatClampNeg)), (2, .int ((pcM (asF μ) (q.toNatClampNeg) s).2))]) hx hb dX8_peace_116 hl (k := 3) rfl (nI_inc s 1) (by decide) rfl (fun ls hl => ?_)
        refine lv_goto (tgt := 19) hx hb dX8_peace_119 (by decide) ?_
        have eg5 : (pcM (asF μ) (q.toNatClampNeg) s).1 = (pcM (asF μ) (q.toNatClampNeg) (s + 1)).1 := by first | exact hq0.1 | rfl | (rw [pcM, if_pos ⟨hAa, hB⟩, if_pos h4]; done) | (rw [pcM, if_pos ⟨hAa, hB⟩, if_neg h4]; done) | (rw [pcM, if_neg (fun z => h4 z.1)]; done) | (rw [pcM, if_neg (fun z => z.2.elim hnb (fun y => by omega))]; done)
        have hP : va_P D vwCl (modelW c ad ((pcM (asF μ) (q.toNatClampNeg) (s + 1)).1) r) H := by rw [← eg5]; exact hP
        have hD : va_D A (modelW c ad ((pcM (asF μ) (q.toNatClampNeg) (s + 1)).1) r) := by rw [← eg5]; exact hD
        have hl : lv_has ls 5 [(0, .ref (ad 0)), (1, .int (nI q.toNatClampNeg)), (2, .int ((pcM (asF μ) (q.toNatClampNeg) s).2)), (3, .int (nI (s + 1)))] := lv_sub hl [1, 2, 3, 0] rfl
        have hl := wk_lset (y := (pcM (asF μ) (q.toNatClampNeg) (s + 1)).2) (lv_sub (l' := [(2, .int ((pcM (asF μ) (q.toNatClampNeg) s).2)), (0, .ref (ad 0)), (1, .int (nI q.toNatClampNeg)), (3, .int (nI (s + 1)))]) hl [2, 0, 1, 3] rfl) (by first | exact hq0.1 | rfl | (rw [pcM, if_pos ⟨hAa, hB⟩, if_pos h4]; done) | (rw [pcM, if_pos ⟨hAa, hB⟩, if_neg h4]; done) | (rw [pcM, if_neg (fun z => h4 z.1)]; done) | (rw [pcM, if_neg (fun z => z.2.elim hnb (fun y => by omega))]; done))
        have hl : lv_has ls 5 [(0, .ref (ad 0)), (1, .int (nI q.toNatClampNeg)), (2, .int ((pcM (asF μ) (q.toNatClampNeg) (s + 1)).2)), (3, .int (nI (s + 1)))] := lv_sub hl [1, 2, 0, 3] rfl
        exact ih19 (s + 1) (by omega) (by omega) H _ hP hD hS ls hl
      have hAa := h4
      refine lv_iload_n hx hb dX8_peace_42 rfl (lv_at hl 2 rfl) ?_
      refine lv_bipush (v := -9) hx hb dX8_peace_43 (by decide) ?_
      refine lv_icmp_eq (tgt := 59) hx hb dX8_peace_45 (by decide) (fun h6 => ?_) (fun h6 => ?_)
      · have hB : (pcM (asF μ) (q.toNatClampNeg) s).2 = -9 ∨ pcT s < pcT (pcM (asF μ) (q.toNatClampNeg) s).2.toNatClampNeg := Or.inl h6
        refine lv_iconst (v := 0) hx hb dX8_peace_59 (by decide) ?_
        refine lv_istore (lv' := [(4, .int 0), (0, .ref (ad 0)), (1, .int (nI q.toNatClampNeg)), (2, .int ((pcM (asF μ) (q.toNatClampNeg) s).2)), (3, .int (nI s))]) hx hb dX8_peace_60 hl (by decide) rfl (fun ls hl => ?_)
        have lp62 : ∀ (n : Nat) (i : Nat), (i ≤ nM μ) → nM μ - i < n → ∀ (H : Heap) (locs : List Loc), va_P D vwCl (modelW c ad (ldI (pcM (asF μ) (q.toNatClampNeg) s).1 (nI s) i) r) H → va_D A (modelW c ad (ldI (pcM (asF μ) (q.toNatClampNeg) s).1 (nI s) i) r) → va_S A H0 H locs → ∀ ls : Array Slot, lv_has ls 5 [(0, .ref (ad 0)), (1, .int (nI q.toNatClampNeg)), (2, .int ((pcM (asF μ) (q.toNatClampNeg) s).2)), (3, .int (nI s)), (4, .int (nI i))] → W pr l ev rmX8_peace ss mm args below meth cd H locs 0 0 Q (F0 mm 62 ls []) := by
          intro n
          induction n with
          | zero => intro i hi hn; exact absurd hn (Nat.not_lt_zero _)
          | succ n ih62 =>
            intro i hi hn H locs hP hD hS ls hl
            refine lv_iload hx hb dX8_peace_62 (lv_at hl 4 rfl) ?_
            refine lv_aload_n hx hb dX8_peace_64 rfl (lv_at hl 0 rfl) ?_
            refine wg_X8_7 hx hb hts iX8 hown hK hP 0 rfl k1 (v := .ref (ad 7)) rfl dX8_peace_65 ?_
            refine lv_iconst (v := 0) hx hb dX8_peace_68 (by decide) ?_
            refine wk_ald (f := (ldI (pcM (asF μ) (q.toNatClampNeg) s).1 (nI s) i) 7) hx hb hK hP 3 0 rfl rfl 0 rfl (by omega) (by decide) dX8_peace_69 ?_
            refine wk_eqi (y := nI (nM μ)) (by rw [ldI_of _ _ (by decide), pcM_of (asF μ) _ (by decide) (by decide)]; exact hw0) ?_
            refine wk_ge (tgt := 96) hx hb i (nM μ) rfl rfl (by omega) (by omega) dX8_peace_70 (by decide) (fun h7 => ?_) (fun h7 => ?_)
            rotate_left
            · refine lv_iload_n hx hb dX8_peace_73 rfl (lv_at hl 3 rfl) ?_
              refine lv_iload hx hb dX8_peace_74 (lv_at hl 4 rfl) ?_
              refine lv_ishr hx hb dX8_peace_76 ?_
              refine lv_iconst (v := 1) hx hb dX8_peace_77 (by decide) ?_
              refine lv_iand hx hb dX8_peace_78 ?_
              refine lv_iconst (v := 1) hx hb dX8_peace_79 (by decide) ?_
              refine lv_icmp_ne (tgt := 90) hx hb dX8_peace_80 (by decide) (fun h12 => ?_) (fun h12 => ?_)
              · refine lv_iinc (v := nI (i + 1)) (lv' := [(4, .int (nI (i + 1))), (0, .ref (ad 0)), (1, .int (nI q.toNatClampNeg)), (2, .int ((pcM (asF μ) (q.toNatClampNeg) s).2)), (3, .int (nI s))]) hx hb dX8_peace_90 hl (k := 4) rfl (nI_inc i 1) (by decide) rfl (fun ls hl => ?_)
                refine lv_goto (tgt := 62) hx hb dX8_peace_93 (by decide) ?_
                have eg13 : ldI (pcM (asF μ) (q.toNatClampNeg) s).1 (nI s) i = ldI (pcM (asF μ) (q.toNatClampNeg) s).1 (nI s) (i + 1) := by first | rfl | (rw [ldI, if_pos h12]; done) | (rw [ldI, if_neg h12]; done)
                have hP : va_P D vwCl (modelW c ad (ldI (pcM (asF μ) (q.toNatClampNeg) s).1 (nI s) (i + 1)) r) H := by rw [← eg13]; exact hP
                have hD : va_D A (modelW c ad (ldI (pcM (asF μ) (q.toNatClampNeg) s).1 (nI s) (i + 1)) r) := by rw [← eg13]; exact hD
                have hl : lv_has ls 5 [(0, .ref (ad 0)), (1, .int (nI q.toNatClampNeg)), (2, .int ((pcM (asF μ) (q.toNatClampNeg) s).2)), (3, .int (nI s)), (4, .int (nI (i + 1)))] := lv_sub hl [1, 2, 3, 4, 0] rfl
                exact ih62 (i + 1) (by omega) (by omega) H _ hP hD hS ls hl
              refine lv_aload_n hx hb dX8_peace_83 rfl (lv_at hl 0 rfl) ?_
              refine lv_iload hx hb dX8_peace_84 (lv_at hl 4 rfl) ?_
              refine wk_callUV (As := [.int (nI i)]) (rest := []) ⟨hx, hb, hml, hown, hts⟩ (c_X8_laysDown l D c ad (ldI (pcM (asF μ) (q.toNatClampNeg) s).1 (nI s) i) r (nI i) ((ldI_G (pcM_G hG _ s) _ i).1.1) ((ldI_G (pcM_G hG _ s) _ i).2.1) ((ldI_G (pcM_G hG _ s) _ i).2.2.1)) (cwV 1 hts gX8_peace_X8_laysDown rfl rfl rfl hd_X8_laysDown ⟨Nat.le_of_ble_eq_true rfl, Nat.le_of_ble_eq_true rfl⟩) hK hP hD hS hA [0, 1, 2, 3, 4, 5, 6, 7, 8] [] 9 rfl rfl [ad 0, ad 100, ad 6, ad 7, ad 8, ad 9, ad 12, ad 15, ad 17] rfl rfl (ws' := modelW c ad (ldS (ldI (pcM (asF μ) (q.toNatClampNeg) s).1 (nI s) i) (nI i) (qM (ldI (pcM (asF μ) (q.toNatClampNeg) s).1 (nI s) i))) r) rfl (wr := []) rfl rfl rfl rfl 0 rfl rfl rfl hl.1 rfl (Nat.le_of_ble_eq_true rfl) dX8_peace_86 (Nat.zero_le _) (Nat.zero_le _) (fun H locs hP hD hS => ?_)
              refine lv_pop hx hb dX8_peace_89 rfl ?_
              refine lv_iinc (v := nI (i + 1)) (lv' := [(4, .int (nI (i + 1))), (0, .ref (ad 0)), (1, .int (nI q.toNatClampNeg)), (2, .int ((pcM (asF μ) (q.toNatClampNeg) s).2)), (3, .int (nI s))]) hx hb dX8_peace_90 hl (k := 4) rfl (nI_inc i 1) (by decide) rfl (fun ls hl => ?_)
              refine lv_goto (tgt := 62) hx hb dX8_peace_93 (by decide) ?_
              have eg14 : ldS (ldI (pcM (asF μ) (q.toNatClampNeg) s).1 (nI s) i) (nI i) (qM (ldI (pcM (asF μ) (q.toNatClampNeg) s).1 (nI s) i)) = ldI (pcM (asF μ) (q.toNatClampNeg) s).1 (nI s) (i + 1) := by first | rfl | (rw [ldI, if_pos h12]; done) | (rw [ldI, if_neg h12]; done)
              have hP : va_P D vwCl (modelW c ad (ldI (pcM (asF μ) (q.toNatClampNeg) s).1 (nI s) (i + 1)) r) H := by rw [← eg14]; exact hP
              have hD : va_D A (modelW c ad (ldI (pcM (asF μ) (q.toNatClampNeg) s).1 (nI s) (i + 1)) r) := by rw [← eg14]; exact hD
              have hl : lv_has ls 5 [(0, .ref (ad 0)), (1, .int (nI q.toNatClampNeg)), (2, .int ((pcM (asF μ) (q.toNatClampNeg) s).2)), (3, .int (nI s)), (4, .int (nI (i + 1)))] := lv_sub hl [1, 2, 3, 4, 0] rfl
              exact ih62 (i + 1) (by omega) (by omega) H _ hP hD hS ls hl
            have hiq : i = nM (pcM (asF μ) (q.toNatClampNeg) s).1 := by have : nM (pcM (asF μ) (q.toNatClampNeg) s).1 = nM μ := by { unfold nM; rw [pcM_of (asF μ) _ (by decide) (by decide), asF, va_up_ne _ _ (by decide)] }; omega
            have eg8 : ldI (pcM (asF μ) (q.toNatClampNeg) s).1 (nI s) i = pcD (pcM (asF μ) (q.toNatClampNeg) s).1 (q.toNatClampNeg) s := by rw [hiq]
            have hP : va_P D vwCl (modelW c ad (pcD (pcM (asF μ) (q.toNatClampNeg) s).1 (q.toNatClampNeg) s) r) H := by rw [← eg8]; exact hP
            have hD : va_D A (modelW c ad (pcD (pcM (asF μ) (q.toNatClampNeg) s).1 (q.toNatClampNeg) s) r) := by rw [← eg8]; exact hD
            refine lv_aload_n hx hb dX8_peace_96 rfl (lv_at hl 0 rfl) ?_
            refine lv_iload_n hx hb dX8_peace_97 rfl (lv_at hl 1 rfl) ?_
            refine wk_callUV (As := [.int (nI q.toNatClampNeg)]) (rest := []) ⟨hx, hb, hml, hown, hts⟩ (c_X8_closes l D c ad (pcD (pcM (asF μ) (q.toNatClampNeg) s).1 (q.toNatClampNeg) s) r q.toNatClampNeg (ldI_G (pcM_G hG _ s) _ _) (by omega)) (cwV 1 hts gX8_peace_X8_closes rfl rfl rfl hd_X8_closes ⟨Nat.le_of_ble_eq_true rfl, Nat.le_of_ble_eq_true rfl⟩) hK hP hD hS hA [0, 1, 2, 3, 4, 5, 6, 7, 8] [] 9 rfl rfl [ad 0, ad 100, ad 6, ad 7, ad 8, ad 9, ad 12, ad 15, ad 17] rfl rfl (ws' := modelW c ad (clF (pcD (pcM (asF μ) (q.toNatClampNeg) s).1 (q.toNatClampNeg) s) q.toNatClampNeg) r) rfl (wr := []) rfl rfl rfl rfl 0 rfl rfl rfl hl.1 rfl (Nat.le_of_ble_eq_true rfl) dX8_peace_98 (Nat.zero_le _) (Nat.zero_le _) (fun H locs hP hD hS => ?_)
            refine lv_bipush (v := -9) hx hb dX8_peace_101 (by decide) ?_
            refine lv_icmp_ne (tgt := 110) hx hb dX8_peace_103 (by decide) (fun h9 => ?_) (fun h9 => ?_)
            · refine lv_iload_n hx hb dX8_peace_110 rfl (lv_at hl 3 rfl) ?_
              refine lv_istore_n (lv' := [(2, .int (nI s)), (0, .ref (ad 0)), (1, .int (nI q.toNatClampNeg)), (3, .int (nI s)), (4, .int (nI i))]) hx hb dX8_peace_111 rfl hl (by decide) rfl (fun ls hl => ?_)
              refine lv_aload_n hx hb dX8_peace_112 rfl (lv_at hl 1 rfl) ?_
              refine wk_callVV (As := []) (rest := []) ⟨hx, hb, hml, hown, hts⟩ (c_X8_backs l D c ad (clF (pcD (pcM (asF μ) (q.toNatClampNeg) s).1 (q.toNatClampNeg) s) q.toNatClampNeg) r) (cwV 0 hts gX8_peace_X8_backs rfl rfl rfl hd_X8_backs ⟨Nat.le_of_ble_eq_true rfl, Nat.le_of_ble_eq_true rfl⟩) hK hP hD hS hA [0, 1, 2, 3, 4, 5, 6, 7, 8] [] 9 rfl rfl [ad 0, ad 100, ad 6, ad 7, ad 8, ad 9, ad 12, ad 15, ad 17] rfl rfl (ws' := modelW c ad (bkF (clF (pcD (pcM (asF μ) (q.toNatClampNeg) s).1 (q.toNatClampNeg) s) q.toNatClampNeg)) r) rfl (wr := []) rfl rfl rfl rfl 0 rfl rfl rfl hl.1 rfl (Nat.le_of_ble_eq_true rfl) dX8_peace_113 (Nat.zero_le _) (Nat.zero_le _) (fun H locs hP hD hS => ?_)
              refine lv_iinc (v := nI (s + 1)) (lv' := [(3, .int (nI (s + 1))), (2, .int (nI s)), (0, .ref (ad 0)), (1, .int (nI q.toNatClampNeg)), (4, .int (nI i))]) hx hb dX8_peace_116 hl (k := 3) rfl (nI_inc s 1) (by decide) rfl (fun ls hl => ?_)
              refine lv_goto (tgt := 19) hx hb dX8_peace_119 (by decide) ?_
              have eg10 : bkF (clF (pcD (pcM (asF μ) (q.toNatClampNeg) s).1 (q.toNatClampNeg) s) q.toNatClampNeg) = (pcM (asF μ) (q.toNatClampNeg) (s + 1)).1 := by first | exact hq0.1 | rfl | (rw [pcM, if_pos ⟨hAa, hB⟩, if_pos h9]; done) | (rw [pcM, if_pos ⟨hAa, hB⟩, if_neg h9]; done) | (rw [pcM, if_neg (fun z => h9 z.1)]; done) | (rw [pcM, if_neg (fun z => z.2.elim hnb (fun y => by omega))]; done)
              have hP : va_P D vwCl (modelW c ad ((pcM (asF μ) (q.toNatClampNeg) (s + 1)).1) r) H := by rw [← eg10]; exact hP
              have hD : va_D A (modelW c ad ((pcM (asF μ) (q.toNatClampNeg) (s + 1)).1) r) := by rw [← eg10]; exact hD
              have hl : lv_has ls 5 [(0, .ref (ad 0)), (1, .int (nI q.toNatClampNeg)), (2, .int (nI s)), (3, .int (nI (s + 1)))] := lv_sub hl [2, 3, 1, 0] rfl
              have hl := wk_lset (y := (pcM (asF μ) (q.toNatClampNeg) (s + 1)).2) (lv_sub (l' := [(2, .int (nI s)), (0, .ref (ad 0)), (1, .int (nI q.toNatClampNeg)), (3, .int (nI (s + 1)))]) hl [2, 0, 1, 3] rfl) (by first | exact hq0.1 | rfl | (rw [pcM, if_pos ⟨hAa, hB⟩, if_pos h9]; done) | (rw [pcM, if_pos ⟨hAa, hB⟩, if_neg h9]; done) | (rw [pcM, if_neg (fun z => h9 z.1)]; done) | (rw [pcM, if_neg (fun z => z.2.elim hnb (fun y => by omega))]; done))
              have hl : lv_has ls 5 [(0, .ref (ad 0)), (1, .int (nI q.toNatClampNeg)), (2, .int ((pcM (asF μ) (q.toNatClampNeg) (s + 1)).2)), (3, .int (nI (s + 1)))] := lv_sub hl [1, 2, 0, 3] rfl
              exact ih19 (s + 1) (by omega) (by omega) H _ hP hD hS ls hl
            refine lv_iload_n hx hb dX8_peace_106 rfl (lv_at hl 2 rfl) ?_
            refine lv_goto (tgt := 111) hx hb dX8_peace_107 (by decide) ?_
            refine lv_istore_n (lv' := [(2, .int ((pcM (asF μ) (q.toNatClampNeg) s).2)), (0, .ref (ad 0)), (1, .int (nI q.toNatClampNeg)), (3, .int (nI s)), (4, .int (nI i))]) hx hb dX8_peace_111 rfl hl (by decide) rfl (fun ls hl => ?_)
            refine lv_aload_n hx hb dX8_peace_112 rfl (lv_at hl 1 rfl) ?_
            refine wk_callVV (As := []) (rest := []) ⟨hx, hb, hml, hown, hts⟩ (c_X8_backs l D c ad (clF (pcD (pcM (asF μ) (q.toNatClampNeg) s).1 (q.toNatClampNeg) s) q.toNatClampNeg) r) (cwV 0 hts gX8_peace_X8_backs rfl rfl rfl hd_X8_backs ⟨Nat.le_of_ble_eq_true rfl, Nat.le_of_ble_eq_true rfl⟩) hK hP hD hS hA [0, 1, 2, 3, 4, 5, 6, 7, 8] [] 9 rfl rfl [ad 0, ad 100, ad 6, ad 7, ad 8, ad 9, ad 12, ad 15, ad 17] rfl rfl (ws' := modelW c ad (bkF (clF (pcD (pcM (asF μ) (q.toNatClampNeg) s).1 (q.toNatClampNeg) s) q.toNatClampNeg)) r) rfl (wr := []) rfl rfl rfl rfl 0 rfl rfl rfl hl.1 rfl (Nat.le_of_ble_eq_true rfl) dX8_peace_113 (Nat.zero_le _) (Nat.zero_le _) (fun H locs hP hD hS => ?_)
            refine lv_iinc (v := nI (s + 1)) (lv' := [(3, .int (nI (s + 1))), (2, .int ((pcM (asF μ) (q.toNatClampNeg) s).2)), (0, .ref (ad 0)), (1, .int (nI q.toNatClampNeg)), (4, .int (nI i))]) hx hb dX8_peace_116 hl (k := 3) rfl (nI_inc s 1) (by decide) rfl (fun ls hl => ?_)
            refine lv_goto (tgt := 19) hx hb dX8_peace_119 (by decide) ?_
            have eg11 : bkF (clF (pcD (pcM (asF μ) (q.toNatClampNeg) s).1 (q.toNatClampNeg) s) q.toNatClampNeg) = (pcM (asF μ) (q.toNatClampNeg) (s + 1)).1 := by first | exact hq0.1 | rfl | (rw [pcM, if_pos ⟨hAa, hB⟩, if_pos h9]; done) | (rw [pcM, if_pos ⟨hAa, hB⟩, if_neg h9]; done) | (rw [pcM, if_neg (fun z => h9 z.1)]; done) | (rw [pcM, if_neg (fun z => z.2.elim hnb (fun y => by omega))]; done)
            have hP : va_P D vwCl (modelW c ad ((pcM (asF μ) (q.toNatClampNeg) (s + 1)).1) r) H := by rw [← eg11]; exact hP
            have hD : va_D A (modelW c ad ((pcM (asF μ) (q.toNatClampNeg) (s + 1)).1) r) := by rw [← eg11]; exact hD
            have hl : lv_has ls 5 [(0, .ref (ad 0)), (1, .int (nI q.toNatClampNeg)), (2, .int ((pcM (asF μ) (q.toNatClampNeg) s).2)), (3, .int (nI (s + 1)))] := lv_sub hl [2, 3, 1, 0] rfl
            have hl := wk_lset (y := (pcM (asF μ) (q.toNatClampNeg) (s + 1)).2) (lv_sub (l' := [(2, .int ((pcM (asF μ) (q.toNatClampNeg) s).2)), (0, .ref (ad 0)), (1, .int (nI q.toNatClampNeg)), (3, .int (nI (s + 1)))]) hl [2, 0, 1, 3] rfl) (by first | exact hq0.1 | rfl | (rw [pcM, if_pos ⟨hAa, hB⟩, if_pos h9]; done) | (rw [pcM, if_pos ⟨hAa, hB⟩, if_neg h9]; done) | (rw [pcM, if_neg (fun z => h9 z.1)]; done) | (rw [pcM, if_neg (fun z => z.2.elim hnb (fun y => by omega))]; done))
            have hl : lv_has ls 5 [(0, .ref (ad 0)), (1, .int (nI q.toNatClampNeg)), (2, .int ((pcM (asF μ) (q.toNatClampNeg) (s + 1)).2)), (3, .int (nI (s + 1)))] := lv_sub hl [1, 2, 0, 3] rfl
            exact ih19 (s + 1) (by omega) (by omega) H _ hP hD hS ls hl
        have eg15 : (pcM (asF μ) (q.toNatClampNeg) s).1 = ldI (pcM (asF μ) (q.toNatClampNeg) s).1 (nI s) 0 := by first | rfl | (rw [ldI, if_pos h6]; done) | (rw [ldI, if_neg h6]; done)
        have hP : va_P D vwCl (modelW c ad (ldI (pcM (asF μ) (q.toNatClampNeg) s).1 (nI s) 0) r) H := by rw [← eg15]; exact hP
        have hD : va_D A (modelW c ad (ldI (pcM (asF μ) (q.toNatClampNeg) s).1 (nI s) 0) r) := by rw [← eg15]; exact hD
        have hl : lv_has ls 5 [(0, .ref (ad 0)), (1, .int (nI q.toNatClampNeg)), (2, .int ((pcM (asF μ) (q.toNatClampNeg) s).2)), (3, .int (nI s)), (4, .int 0)] := lv_sub hl [1, 2, 3, 4, 0] rfl
        have hl := wk_lset (y := nI 0) (lv_sub (l' := [(4, .int 0), (0, .ref (ad 0)), (1, .int (nI q.toNatClampNeg)), (2, .int ((pcM (asF μ) (q.toNatClampNeg) s).2)), (3, .int (nI s))]) hl [4, 0, 1, 2, 3] rfl) (by first | rfl | (rw [ldI, if_pos h6]; done) | (rw [ldI, if_neg h6]; done))
        have hl : lv_has ls 5 [(0, .ref (ad 0)), (1, .int (nI q.toNatClampNeg)), (2, .int ((pcM (asF μ) (q.toNatClampNeg) s).2)), (3, .int (nI s)), (4, .int (nI 0))] := lv_sub hl [1, 2, 3, 4, 0] rfl
        exact lp62 _ 0 (by omega) (Nat.lt_succ_self _) H locs hP hD hS ls hl
      have hnb := h6
      have hbx := (pcM_b (asF μ) (q.toNatClampNeg) s (by omega)).resolve_left hnb
      have hb2 := hbx.2
      refine lv_iload_n hx hb dX8_peace_48 rfl (lv_at hl 3 rfl) ?_
      refine wk_callRS (As := [.int (nI s)]) (rest := []) ⟨hx, hb, hml, hown, hts⟩ (c_X8_many l D c s (by omega)) (va_cwS 1 hts gX8_peace_X8_many rfl rfl rfl hd_X8_many ⟨Nat.le_of_ble_eq_true rfl, Nat.le_of_ble_eq_true rfl⟩) hK hP [] rfl rfl hl.1 rfl (Nat.le_of_ble_eq_true rfl) dX8_peace_49 (Nat.zero_le _) (Nat.zero_le _) ?_
      refine lv_iload_n hx hb dX8_peace_52 rfl (lv_at hl 2 rfl) ?_
      refine wk_eqi (y := nI ((pcM (asF μ) (q.toNatClampNeg) s).2.toNatClampNeg)) (hbx.1) ?_
      refine wk_callRS (As := [.int (nI ((pcM (asF μ) (q.toNatClampNeg) s).2.toNatClampNeg))]) (rest := [.int (nI (pcT s))]) ⟨hx, hb, hml, hown, hts⟩ (c_X8_many l D c ((pcM (asF μ) (q.toNatClampNeg) s).2.toNatClampNeg) (hbx.2)) (va_cwS 1 hts gX8_peace_X8_many rfl rfl rfl hd_X8_many ⟨Nat.le_of_ble_eq_true rfl, Nat.le_of_ble_eq_true rfl⟩) hK hP [] rfl rfl hl.1 rfl (Nat.le_of_ble_eq_true rfl) dX8_peace_53 (Nat.zero_le _) (Nat.zero_le _) ?_
      have hp1 := pcT_le s (by omega)
      have hp2 := pcT_le _ hbx.2
      refine wk_ge (tgt := 116) hx hb (pcT s) (pcT (pcM (asF μ) (q.toNatClampNeg) s).2.toNatClampNeg) rfl rfl (by omega) (by omega) dX8_peace_56 (by decide) (fun h16 => ?_) (fun h16 => ?_)
      · refine lv_iinc (v := nI (s + 1)) (lv' := [(3, .int (nI (s + 1))), (0, .ref (ad 0)), (1, .int (nI q.toNatClampNeg)), (2, .int ((pcM (asF μ) (q.toNatClampNeg) s).2))]) hx hb dX8_peace_116 hl (k := 3) rfl (nI_inc s 1) (by decide) rfl (fun ls hl => ?_)
        refine lv_goto (tgt := 19) hx hb dX8_peace_119 (by decide) ?_
        have eg17 : (pcM (asF μ) (q.toNatClampNeg) s).1 = (pcM (asF μ) (q.toNatClampNeg) (s + 1)).1 := by first | exact hq0.1 | rfl | (rw [pcM, if_pos ⟨hAa, hB⟩, if_pos h16]; done) | (rw [pcM, if_pos ⟨hAa, hB⟩, if_neg h16]; done) | (rw [pcM, if_neg (fun z => h16 z.1)]; done) | (rw [pcM, if_neg (fun z => z.2.elim hnb (fun y => by omega))]; done)
        have hP : va_P D vwCl (modelW c ad ((pcM (asF μ) (q.toNatClampNeg) (s + 1)).1) r) H := by rw [← eg17]; exact hP
        have hD : va_D A (modelW c ad ((pcM (asF μ) (q.toNatClampNeg) (s + 1)).1) r) := by rw [← eg17]; exact hD
        have hl : lv_has ls 5 [(0, .ref (ad 0)), (1, .int (nI q.toNatClampNeg)), (2, .int ((pcM (asF μ) (q.toNatClampNeg) s).2)), (3, .int (nI (s + 1)))] := lv_sub hl [1, 2, 3, 0] rfl
        have hl := wk_lset (y := (pcM (asF μ) (q.toNatClampNeg) (s + 1)).2) (lv_sub (l' := [(2, .int ((pcM (asF μ) (q.toNatClampNeg) s).2)), (0, .ref (ad 0)), (1, .int (nI q.toNatClampNeg)), (3, .int (nI (s + 1)))]) hl [2, 0, 1, 3] rfl) (by first | exact hq0.1 | rfl | (rw [pcM, if_pos ⟨hAa, hB⟩, if_pos h16]; done) | (rw [pcM, if_pos ⟨hAa, hB⟩, if_neg h16]; done) | (rw [pcM, if_neg (fun z => h16 z.1)]; done) | (rw [pcM, if_neg (fun z => z.2.elim hnb (fun y => by omega))]; done))
        have hl : lv_has ls 5 [(0, .ref (ad 0)), (1, .int (nI q.toNatClampNeg)), (2, .int ((pcM (asF μ) (q.toNatClampNeg) (s + 1)).2)), (3, .int (nI (s + 1)))] := lv_sub hl [1, 2, 0, 3] rfl
        exact ih19 (s + 1) (by omega) (by omega) H _ hP hD hS ls hl
      have hB : (pcM (asF μ) (q.toNatClampNeg) s).2 = -9 ∨ pcT s < pcT (pcM (asF μ) (q.toNatClampNeg) s).2.toNatClampNeg := Or.inr (by omega)
      refine lv_iconst (v := 0) hx hb dX8_peace_59 (by decide) ?_
      refine lv_istore (lv' := [(4, .int 0), (0, .ref (ad 0)), (1, .int (nI q.toNatClampNeg)), (2, .int ((pcM (asF μ) (q.toNatClampNeg) s).2)), (3, .int (nI s))]) hx hb dX8_peace_60 hl (by decide) rfl (fun ls hl => ?_)
      have lp62 : ∀ (n : Nat) (i : Nat), (i ≤ nM μ) → nM μ - i < n → ∀ (H : Heap) (locs : List Loc), va_P D vwCl (modelW c ad (ldI (pcM (asF μ) (q.toNatClampNeg) s).1 (nI s) i) r) H → va_D A (modelW c ad (ldI (pcM (asF μ) (q.toNatClampNeg) s).1 (nI s) i) r) → va_S A H0 H locs → ∀ ls : Array Slot, lv_has ls 5 [(0, .ref (ad 0)), (1, .int (nI q.toNatClampNeg)), (2, .int ((pcM (asF μ) (q.toNatClampNeg) s).2)), (3, .int (nI s)), (4, .int (nI i))] → W pr l ev rmX8_peace ss mm args below meth cd H locs 0 0 Q (F0 mm 62 ls []) := by
        intro n
        induction n with
        | zero => intro i hi hn; exact absurd hn (Nat.not_lt_zero _)
        | succ n ih62 =>
          intro i hi hn H locs hP hD hS ls hl
          refine lv_iload hx hb dX8_peace_62 (lv_at hl 4 rfl) ?_
          refine lv_aload_n hx hb dX8_peace_64 rfl (lv_at hl 0 rfl) ?_
          refine wg_X8_7 hx hb hts iX8 hown hK hP 0 rfl k1 (v := .ref (ad 7)) rfl dX8_peace_65 ?_
          refine lv_iconst (v := 0) hx hb dX8_peace_68 (by decide) ?_
          refine wk_ald (f := (ldI (pcM (asF μ) (q.toNatClampNeg) s).1 (nI s) i) 7) hx hb hK hP 3 0 rfl rfl 0 rfl (by omega) (by decide) dX8_peace_69 ?_
          refine wk_eqi (y := nI (nM μ)) (by rw [ldI_of _ _ (by decide), pcM_of (asF μ) _ (by decide) (by decide)]; exact hw0) ?_
          refine wk_ge (tgt := 96) hx hb i (nM μ) rfl rfl (by omega) (by omega) dX8_peace_70 (by decide) (fun h18 => ?_) (fun h18 => ?_)
          rotate_left
          · refine lv_iload_n hx hb dX8_peace_73 rfl (lv_at hl 3 rfl) ?_
            refine lv_iload hx hb dX8_peace_74 (lv_at hl 4 rfl) ?_
            refine lv_ishr hx hb dX8_peace_76 ?_
            refine lv_iconst (v := 1) hx hb dX8_peace_77 (by decide) ?_
            refine lv_iand hx hb dX8_peace_78 ?_
            refine lv_iconst (v := 1) hx hb dX8_peace_79 (by decide) ?_
            refine lv_icmp_ne (tgt := 90) hx hb dX8_peace_80 (by decide) (fun h23 => ?_) (fun h23 => ?_)
            · refine lv_iinc (v := nI (i + 1)) (lv' := [(4, .int (nI (i + 1))), (0, .ref (ad 0)), (1, .int (nI q.toNatClampNeg)), (2, .int ((pcM (asF μ) (q.toNatClampNeg) s).2)), (3, .int (nI s))]) hx hb dX8_peace_90 hl (k := 4) rfl (nI_inc i 1) (by decide) rfl (fun ls hl => ?_)
              refine lv_goto (tgt := 62) hx hb dX8_peace_93 (by decide) ?_
              have eg24 : ldI (pcM (asF μ) (q.toNatClampNeg) s).1 (nI s) i = ldI (pcM (asF μ) (q.toNatClampNeg) s).1 (nI s) (i + 1) := by first | rfl | (rw [ldI, if_pos h23]; done) | (rw [ldI, if_neg h23]; done)
              have hP : va_P D vwCl (modelW c ad (ldI (pcM (asF μ) (q.toNatClampNeg) s).1 (nI s) (i + 1)) r) H := by rw [← eg24]; exact hP
              have hD : va_D A (modelW c ad (ldI (pcM (asF μ) (q.toNatClampNeg) s).1 (nI s) (i + 1)) r) := by rw [← eg24]; exact hD
              have hl : lv_has ls 5 [(0, .ref (ad 0)), (1, .int (nI q.toNatClampNeg)), (2, .int ((pcM (asF μ) (q.toNatClampNeg) s).2)), (3, .int (nI s)), (4, .int (nI (i + 1)))] := lv_sub hl [1, 2, 3, 4, 0] rfl
              exact ih62 (i + 1) (by omega) (by omega) H _ hP hD hS ls hl
            refine lv_aload_n hx hb dX8_peace_83 rfl (lv_at hl 0 rfl) ?_
            refine lv_iload hx hb dX8_peace_84 (lv_at hl 4 rfl) ?_
            refine wk_callUV (As := [.int (nI i)]) (rest := []) ⟨hx, hb, hml, hown, hts⟩ (c_X8_laysDown l D c ad (ldI (pcM (asF μ) (q.toNatClampNeg) s).1 (nI s) i) r (nI i) ((ldI_G (pcM_G hG _ s) _ i).1.1) ((ldI_G (pcM_G hG _ s) _ i).2.1) ((ldI_G (pcM_G hG _ s) _ i).2.2.1)) (cwV 1 hts gX8_peace_X8_laysDown rfl rfl rfl hd_X8_laysDown ⟨Nat.le_of_ble_eq_true rfl, Nat.le_of_ble_eq_true rfl⟩) hK hP hD hS hA [0, 1, 2, 3, 4, 5, 6, 7, 8] [] 9 rfl rfl [ad 0, ad 100, ad 6, ad 7, ad 8, ad 9, ad 12, ad 15, ad 17] rfl rfl (ws' := modelW c ad (ldS (ldI (pcM (asF μ) (q.toNatClampNeg) s).1 (nI s) i) (nI i) (qM (ldI (pcM (asF μ) (q.toNatClampNeg) s).1 (nI s) i))) r) rfl (wr := []) rfl rfl rfl rfl 0 rfl rfl rfl hl.1 rfl (Nat.le_of_ble_eq_true rfl) dX8_peace_86 (Nat.zero_le _) (Nat.zero_le _) (fun H locs hP hD hS => ?_)
            refine lv_pop hx hb dX8_peace_89 rfl ?_
            refine lv_iinc (v := nI (i + 1)) (lv' := [(4, .int (nI (i + 1))), (0, .ref (ad 0)), (1, .int (nI q.toNatClampNeg)), (2, .int ((pcM (asF μ) (q.toNatClampNeg) s).2)), (3, .int (nI s))]) hx hb dX8_peace_90 hl (k := 4) rfl (nI_inc i 1) (by decide) rfl (fun ls hl => ?_)
            refine lv_goto (tgt := 62) hx hb dX8_peace_93 (by decide) ?_
            have eg25 : ldS (ldI (pcM (asF μ) (q.toNatClampNeg) s).1 (nI s) i) (nI i) (qM (ldI (pcM (asF μ) (q.toNatClampNeg) s).1 (nI s) i)) = ldI (pcM (asF μ) (q.toNatClampNeg) s).1 (nI s) (i + 1) := by first | rfl | (rw [ldI, if_pos h23]; done) | (rw [ldI, if_neg h23]; done)
            have hP : va_P D vwCl (modelW c ad (ldI (pcM (asF μ) (q.toNatClampNeg) s).1 (nI s) (i + 1)) r) H := by rw [← eg25]; exact hP
            have hD : va_D A (modelW c ad (ldI (pcM (asF μ) (q.toNatClampNeg) s).1 (nI s) (i + 1)) r) := by rw [← eg25]; exact hD
            have hl : lv_has ls 5 [(0, .ref (ad 0)), (1, .int (nI q.toNatClampNeg)), (2, .int ((pcM (asF μ) (q.toNatClampNeg) s).2)), (3, .int (nI s)), (4, .int (nI (i + 1)))] := lv_sub hl [1, 2, 3, 4, 0] rfl
            exact ih62 (i + 1) (by omega) (by omega) H _ hP hD hS ls hl
          have hiq : i = nM (pcM (asF μ) (q.toNatClampNeg) s).1 := by have : nM (pcM (asF μ) (q.toNatClampNeg) s).1 = nM μ := by { unfold nM; rw [pcM_of (asF μ) _ (by decide) (by decide), asF, va_up_ne _ _ (by decide)] }; omega
          have eg19 : ldI (pcM (asF μ) (q.toNatClampNeg) s).1 (nI s) i = pcD (pcM (asF μ) (q.toNatClampNeg) s).1 (q.toNatClampNeg) s := by rw [hiq]
          have hP : va_P D vwCl (modelW c ad (pcD (pcM (asF μ) (q.toNatClampNeg) s).1 (q.toNatClampNeg) s) r) H := by rw [← eg19]; exact hP
          have hD : va_D A (modelW c ad (pcD (pcM (asF μ) (q.toNatClampNeg) s).1 (q.toNatClampNeg) s) r) := by rw [← eg19]; exact hD
          refine lv_aload_n hx hb dX8_peace_96 rfl (lv_at hl 0 rfl) ?_
          refine lv_iload_n hx hb dX8_peace_97 rfl (lv_at hl 1 rfl) ?_
          refine wk_callUV (As := [.int (nI q.toNatClampNeg)]) (rest := []) ⟨hx, hb, hml, hown, hts⟩ (c_X8_closes l D c ad (pcD (pcM (asF μ) (q.toNatClampNeg) s).1 (q.toNatClampNeg) s) r q.toNatClampNeg (ldI_G (pcM_G hG _ s) _ _) (by omega)) (cwV 1 hts gX8_peace_X8_closes rfl rfl rfl hd_X8_closes ⟨Nat.le_of_ble_eq_true rfl, Nat.le_of_ble_eq_true rfl⟩) hK hP hD hS hA [0, 1, 2, 3, 4, 5, 6, 7, 8] [] 9 rfl rfl [ad 0, ad 100, ad 6, ad 7, ad 8, ad 9, ad 12, ad 15, ad 17] rfl rfl (ws' := modelW c ad (clF (pcD (pcM (asF μ) (q.toNatClampNeg) s).1 (q.toNatClampNeg) s) q.toNatClampNeg) r) rfl (wr := []) rfl rfl rfl rfl 0 rfl rfl rfl hl.1 rfl (Nat.le_of_ble_eq_true rfl) dX8_peace_98 (Nat.zero_le _) (Nat.zero_le _) (fun H locs hP hD hS => ?_)
          refine lv_bipush (v := -9) hx hb dX8_peace_101 (by decide) ?_
          refine lv_icmp_ne (tgt := 110) hx hb dX8_peace_103 (by decide) (fun h20 => ?_) (fun h20 => ?_)
          · refine lv_iload_n hx hb dX8_peace_110 rfl (lv_at hl 3 rfl) ?_
            refine lv_istore_n (lv' := [(2, .int (nI s)), (0, .ref (ad 0)), (1, .int (nI q.toNatClampNeg)), (3, .int (nI s)), (4, .int (nI i))]) hx hb dX8_peace_111 rfl hl (by decide) rfl (fun ls hl => ?_)
            refine lv_aload_n hx hb dX8_peace_112 rfl (lv_at hl 1 rfl) ?_
            refine wk_callVV (As := []) (rest := []) ⟨hx, hb, hml, hown, hts⟩ (c_X8_backs l D c ad (clF (pcD (pcM (asF μ) (q.toNatClampNeg) s).1 (q.toNatClampNeg) s) q.toNatClampNeg) r) (cwV 0 hts gX8_peace_X8_backs rfl rfl rfl hd_X8_backs ⟨Nat.le_of_ble_eq_true rfl, Nat.le_of_ble_eq_true rfl⟩) hK hP hD hS hA [0, 1, 2, 3, 4, 5, 6, 7, 8] [] 9 rfl rfl [ad 0, ad 100, ad 6, ad 7, ad 8, ad 9, ad 12, ad 15, ad 17] rfl rfl (ws' := modelW c ad (bkF (clF (pcD (pcM (asF μ) (q.toNatClampNeg) s).1 (q.toNatClampNeg) s) q.toNatClampNeg)) r) rfl (wr := []) rfl rfl rfl rfl 0 rfl rfl rfl hl.1 rfl (Nat.le_of_ble_eq_true rfl) dX8_peace_113 (Nat.zero_le _) (Nat.zero_le _) (fun H locs hP hD hS => ?_)
            refine lv_iinc (v := nI (s + 1)) (lv' := [(3, .int (nI (s + 1))), (2, .int (nI s)), (0, .ref (ad 0)), (1, .int (nI q.toNatClampNeg)), (4, .int (nI i))]) hx hb dX8_peace_116 hl (k := 3) rfl (nI_inc s 1) (by decide) rfl (fun ls hl => ?_)
            refine lv_goto (tgt := 19) hx hb dX8_peace_119 (by decide) ?_
            have eg21 : bkF (clF (pcD (pcM (asF μ) (q.toNatClampNeg) s).1 (q.toNatClampNeg) s) q.toNatClampNeg) = (pcM (asF μ) (q.toNatClampNeg) (s + 1)).1 := by first | exact hq0.1 | rfl | (rw [pcM, if_pos ⟨hAa, hB⟩, if_pos h20]; done) | (rw [pcM, if_pos ⟨hAa, hB⟩, if_neg h20]; done) | (rw [pcM, if_neg (fun z => h20 z.1)]; done) | (rw [pcM, if_neg (fun z => z.2.elim hnb (fun y => by omega))]; done)
            have hP : va_P D vwCl (modelW c ad ((pcM (asF μ) (q.toNatClampNeg) (s + 1)).1) r) H := by rw [← eg21]; exact hP
            have hD : va_D A (modelW c ad ((pcM (asF μ) (q.toNatClampNeg) (s + 1)).1) r) := by rw [← eg21]; exact hD
            have hl : lv_has ls 5 [(0, .ref (ad 0)), (1, .int (nI q.toNatClampNeg)), (2, .int (nI s)), (3, .int (nI (s + 1)))] := lv_sub hl [2, 3, 1, 0] rfl
            have hl := wk_lset (y := (pcM (asF μ) (q.toNatClampNeg) (s + 1)).2) (lv_sub (l' := [(2, .int (nI s)), (0, .ref (ad 0)), (1, .int (nI q.toNatClampNeg)), (3, .int (nI (s + 1)))]) hl [2, 0, 1, 3] rfl) (by first | exact hq0.1 | rfl | (rw [pcM, if_pos ⟨hAa, hB⟩, if_pos h20]; done) | (rw [pcM, if_pos ⟨hAa, hB⟩, if_neg h20]; done) | (rw [pcM, if_neg (fun z => h20 z.1)]; done) | (rw [pcM, if_neg (fun z => z.2.elim hnb (fun y => by omega))]; done))
            have hl : lv_has ls 5 [(0, .ref (ad 0)), (1, .int (nI q.toNatClampNeg)), (2, .int ((pcM (asF μ) (q.toNatClampNeg) (s + 1)).2)), (3, .int (nI (s + 1)))] := lv_sub hl [1, 2, 0, 3] rfl
            exact ih19 (s + 1) (by omega) (by omega) H _ hP hD hS ls hl
          refine lv_iload_n hx hb dX8_peace_106 rfl (lv_at hl 2 rfl) ?_
          refine lv_goto (tgt := 111) hx hb dX8_peace_107 (by decide) ?_
          refine lv_istore_n (lv' := [(2, .int ((pcM (asF μ) (q.toNatClampNeg) s).2)), (0, .ref (ad 0)), (1, .int (nI q.toNatClampNeg)), (3, .int (nI s)), (4, .int (nI i))]) hx hb dX8_peace_111 rfl hl (by decide) rfl (fun ls hl => ?_)
          refine lv_aload_n hx hb dX8_peace_112 rfl (lv_at hl 1 rfl) ?_
          refine wk_callVV (As := []) (rest := []) ⟨hx, hb, hml, hown, hts⟩ (c_X8_backs l D c ad (clF (pcD (pcM (asF μ) (q.toNatClampNeg) s).1 (q.toNatClampNeg) s) q.toNatClampNeg) r) (cwV 0 hts gX8_peace_X8_backs rfl rfl rfl hd_X8_backs ⟨Nat.le_of_ble_eq_true rfl, Nat.le_of_ble_eq_true rfl⟩) hK hP hD hS hA [0, 1, 2, 3, 4, 5, 6, 7, 8] [] 9 rfl rfl [ad 0, ad 100, ad 6, ad 7, ad 8, ad 9, ad 12, ad 15, ad 17] rfl rfl (ws' := modelW c ad (bkF (clF (pcD (pcM (asF μ) (q.toNatClampNeg) s).1 (q.toNatClampNeg) s) q.toNatClampNeg)) r) rfl (wr := []) rfl rfl rfl rfl 0 rfl rfl rfl hl.1 rfl (Nat.le_of_ble_eq_true rfl) dX8_peace_113 (Nat.zero_le _) (Nat.zero_le _) (fun H locs hP hD hS => ?_)
          refine lv_iinc (v := nI (s + 1)) (lv' := [(3, .int (nI (s + 1))), (2, .int ((pcM (asF μ) (q.toNatClampNeg) s).2)), (0, .ref (ad 0)), (1, .int (nI q.toNatClampNeg)), (4, .int (nI i))]) hx hb dX8_peace_116 hl (k := 3) rfl (nI_inc s 1) (by decide) rfl (fun ls hl => ?_)
          refine lv_goto (tgt := 19) hx hb dX8_peace_119 (by decide) ?_
          have eg22 : bkF (clF (pcD (pcM (asF μ) (q.toNatClampNeg) s).1 (q.toNatClampNeg) s) q.toNatClampNeg) = (pcM (asF μ) (q.toNatClampNeg) (s + 1)).1 := by first | exact hq0.1 | rfl | (rw [pcM, if_pos ⟨hAa, hB⟩, if_pos h20]; done) | (rw [pcM, if_pos ⟨hAa, hB⟩, if_neg h20]; done) | (rw [pcM, if_neg (fun z => h20 z.1)]; done) | (rw [pcM, if_neg (fun z => z.2.elim hnb (fun y => by omega))]; done)
          have hP : va_P D vwCl (modelW c ad ((pcM (asF μ) (q.toNatClampNeg) (s + 1)).1) r) H := by rw [← eg22]; exact hP
          have hD : va_D A (modelW c ad ((pcM (asF μ) (q.toNatClampNeg) (s + 1)).1) r) := by rw [← eg22]; exact hD
          have hl : lv_has ls 5 [(0, .ref (ad 0)), (1, .int (nI q.toNatClampNeg)), (2, .int ((pcM (asF μ) (q.toNatClampNeg) s).2)), (3, .int (nI (s + 1)))] := lv_sub hl [2, 3, 1, 0] rfl
          have hl := wk_lset (y := (pcM (asF μ) (q.toNatClampNeg) (s + 1)).2) (lv_sub (l' := [(2, .int ((pcM (asF μ) (q.toNatClampNeg) s).2)), (0, .ref (ad 0)), (1, .int (nI q.toNatClampNeg)), (3, .int (nI (s + 1)))]) hl [2, 0, 1, 3] rfl) (by first | exact hq0.1 | rfl | (rw [pcM, if_pos ⟨hAa, hB⟩, if_pos h20]; done) | (rw [pcM, if_pos ⟨hAa, hB⟩, if_neg h20]; done) | (rw [pcM, if_neg (fun z => h20 z.1)]; done) | (rw [pcM, if_neg (fun z => z.2.elim hnb (fun y => by omega))]; done))
          have hl : lv_has ls 5 [(0, .ref (ad 0)), (1, .int (nI q.toNatClampNeg)), (2, .int ((pcM (asF μ) (q.toNatClampNeg) (s + 1)).2)), (3, .int (nI (s + 1)))] := lv_sub hl [1, 2, 0, 3] rfl
          exact ih19 (s + 1) (by omega) (by omega) H _ hP hD hS ls hl
      have eg26 : (pcM (asF μ) (q.toNatClampNeg) s).1 = ldI (pcM (asF μ) (q.toNatClampNeg) s).1 (nI s) 0 := by first | rfl | (rw [ldI, if_pos h16]; done) | (rw [ldI, if_neg h16]; done)
      have hP : va_P D vwCl (modelW c ad (ldI (pcM (asF μ) (q.toNatClampNeg) s).1 (nI s) 0) r) H := by rw [← eg26]; exact hP
      have hD : va_D A (modelW c ad (ldI (pcM (asF μ) (q.toNatClampNeg) s).1 (nI s) 0) r) := by rw [← eg26]; exact hD
      have hl : lv_has ls 5 [(0, .ref (ad 0)), (1, .int (nI q.toNatClampNeg)), (2, .int ((pcM (asF μ) (q.toNatClampNeg) s).2)), (3, .int (nI s)), (4, .int 0)] := lv_sub hl [1, 2, 3, 4, 0] rfl
      have hl := wk_lset (y := nI 0) (lv_sub (l' := [(4, .int 0), (0, .ref (ad 0)), (1, .int (nI q.toNatClampNeg)), (2, .int ((pcM (asF μ) (q.toNatClampNeg) s).2)), (3, .int (nI s))]) hl [4, 0, 1, 2, 3] rfl) (by first | rfl | (rw [ldI, if_pos h16]; done) | (rw [ldI, if_neg h16]; done))
      have hl : lv_has ls 5 [(0, .ref (ad 0)), (1, .int (nI q.toNatClampNeg)), (2, .int ((pcM (asF μ) (q.toNatClampNeg) s).2)), (3, .int (nI s)), (4, .int (nI 0))] := lv_sub hl [1, 2, 3, 4, 0] rfl
      exact lp62 _ 0 (by omega) (Nat.lt_succ_self _) H locs hP hD hS ls hl
  have eg27 : asF μ = (pcM (asF μ) (q.toNatClampNeg) 0).1 := by first | exact hq0.1 | rfl | (rw [pcM, if_pos ⟨hAa, hB⟩, if_pos h1]; done) | (rw [pcM, if_pos ⟨hAa, hB⟩, if_neg h1]; done) | (rw [pcM, if_neg (fun z => h1 z.1)]; done) | (rw [pcM, if_neg (fun z => z.2.elim hnb (fun y => by omega))]; done)
  have hP : va_P D vwCl (modelW c ad ((pcM (asF μ) (q.toNatClampNeg) 0).1) r) H := by rw [← eg27]; exact hP
  have hD : va_D A (modelW c ad ((pcM (asF μ) (q.toNatClampNeg) 0).1) r) := by rw [← eg27]; exact hD
  have hl : lv_has ls 5 [(0, .ref (ad 0)), (1, .int q), (2, .int ((-9))), (3, .int 0)] := lv_sub hl [2, 3, 1, 0] rfl
  have hl := wk_lset (y := nI q.toNatClampNeg) (lv_sub (l' := [(1, .int q), (0, .ref (ad 0)), (2, .int ((-9))), (3, .int 0)]) hl [1, 0, 2, 3] rfl) (by first | exact hq0.1 | rfl | (rw [pcM, if_pos ⟨hAa, hB⟩, if_pos h1]; done) | (rw [pcM, if_pos ⟨hAa, hB⟩, if_neg h1]; done) | (rw [pcM, if_neg (fun z => h1 z.1)]; done) | (rw [pcM, if_neg (fun z => z.2.elim hnb (fun y => by omega))]; done))
  have hl : lv_has ls 5 [(0, .ref (ad 0)), (1, .int (nI q.toNatClampNeg)), (2, .int ((-9))), (3, .int 0)] := lv_sub hl [1, 0, 2, 3] rfl
  have hl := wk_lset (y := (pcM (asF μ) (q.toNatClampNeg) 0).2) (lv_sub (l' := [(2, .int ((-9))), (0, .ref (ad 0)), (1, .int (nI q.toNatClampNeg)), (3, .int 0)]) hl [2, 0, 1, 3] rfl) (by first | exact hq0.1 | rfl | (rw [pcM, if_pos ⟨hAa, hB⟩, if_pos h1]; done) | (rw [pcM, if_pos ⟨hAa, hB⟩, if_neg h1]; done) | (rw [pcM, if_neg (fun z => h1 z.1)]; done) | (rw [pcM, if_neg (fun z => z.2.elim hnb (fun y => by omega))]; done))
  have hl : lv_has ls 5 [(0, .ref (ad 0)), (1, .int (nI q.toNatClampNeg)), (2, .int ((pcM (asF μ) (q.toNatClampNeg) 0).2)), (3, .int 0)] := lv_sub hl [1, 2, 0, 3] rfl
  have hl := wk_lset (y := nI 0) (lv_sub (l' := [(3, .int 0), (0, .ref (ad 0)), (1, .int (nI q.toNatClampNeg)), (2, .int ((pcM (asF μ) (q.toNatClampNeg) 0).2))]) hl [3, 0, 1, 2] rfl) (by first | exact hq0.1 | rfl | (rw [pcM, if_pos ⟨hAa, hB⟩, if_pos h1]; done) | (rw [pcM, if_pos ⟨hAa, hB⟩, if_neg h1]; done) | (rw [pcM, if_neg (fun z => h1 z.1)]; done) | (rw [pcM, if_neg (fun z => z.2.elim hnb (fun y => by omega))]; done))
  have hl : lv_has ls 5 [(0, .ref (ad 0)), (1, .int (nI q.toNatClampNeg)), (2, .int ((pcM (asF μ) (q.toNatClampNeg) 0).2)), (3, .int (nI 0))] := lv_sub hl [1, 2, 3, 0] rfl
  exact lp19 _ 0 (Nat.zero_le _) (Nat.lt_succ_self _) H locs hP hD hS ls hl

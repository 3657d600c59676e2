/-! ===== LastWordModel, walked: odds ===== -/
theorem gcd_step (u v : Nat) : Nat.gcd v (u % v) = Nat.gcd u v := by
  rw [Nat.gcd_comm v (u % v), ← Nat.gcd_rec, Nat.gcd_comm]

abbrev rmX8_odds : Room := { frames := 3, cells := 0, slots := 0, locals := 75 }
theorem hd_X8_odds : yX8_odds.cls = RX8 ∧ yX8_odds.cls ≠ "java/lang/invoke/MethodHandle" ∧ yX8_odds.cls ≠ "java/lang/invoke/VarHandle" ∧ (parseMethodDescriptor yX8_odds.desc).map (fun d => d.parameters.length) = some 4 := by decide +kernel
set_option maxHeartbeats 4000000 in
set_option maxRecDepth 100000 in
theorem c_X8_odds (l : Launch) (D : va_G) (c : Nat → ClassId) (ad : Nat → Nat) (μ : Nat → Nat → Int32) (r : Int64) (w : Int32) (x2 : Int32) (p2 : Int32) (x3 : Int32) (hG : wfG μ) (hB : mooOK μ w x2 p2 x3 → ¬ laidM μ w → mooH μ w x2 p2) : wk_UpI l yX8_odds wsX8_odds rmX8_odds D (tysL c) [.ref (ad 0), .int w, .int x2, .int p2, .int x3] (modelW c ad μ r) (modelW c ad (mooF μ w x2 p2 x3) r) (mooV μ w x2 p2 x3) := by
  refine wk_mkU (cc := cX8_odds) (maxL := 11) (rt := .int) (by decide) rfl (Nat.le_of_ble_eq_true rfl) rfl ?_
  intro A pr ev ss mm args below meth cd ls H H0 locs Q hst hP hK hD hS hA hl ret
  obtain ⟨hx, hb, hml, hown, hts, -⟩ := hst
  have hown : ss.vm.findClass RX8 = some mm.cls := hown
  have hl : lv_has ls 11 [(0, .ref (ad 0)), (1, .int w), (2, .int x2), (3, .int p2), (4, .int x3)] := hl
  have k1 := hts (.constantLong RX8 177 (10)) (List.mem_of_getElem? (i := 1) rfl)
  have k2 := hts (.fieldLink RX8 16 "LastWordModel" "paper" "[I") (List.mem_of_getElem? (i := 2) rfl)
  have k3 := hts (.fieldLink RX8 19 "LastWordModel" "now" "[I") (List.mem_of_getElem? (i := 3) rfl)
  have k4 := hts (.fieldLink RX8 165 "LastWordModel" "lastWriter" "I") (List.mem_of_getElem? (i := 4) rfl)
  have iX8 : ∀ w ∈ u_ws RX8 TX8 18, w ∈ wsX8_odds := fun _ h => (List.mem_cons_of_mem _ (List.mem_append_right _ h))
  refine lv_aload_n hx hb dX8_odds_0 rfl (lv_at hl 0 rfl) ?_
  refine lv_iload_n hx hb dX8_odds_1 rfl (lv_at hl 1 rfl) ?_
  refine wk_callRV (As := [.int w]) (rest := []) ⟨hx, hb, hml, hown, hts⟩ (c_X8_isWriter l D c ad μ r w) (cwV 1 hts gX8_odds_X8_isWriter rfl rfl rfl hd_X8_isWriter ⟨Nat.le_of_ble_eq_true rfl, Nat.le_of_ble_eq_true rfl⟩) hK hP [0, 1, 2, 3, 4, 5, 6, 7, 8] rfl 0 rfl rfl rfl hl.1 rfl (Nat.le_of_ble_eq_true rfl) dX8_odds_2 (Nat.zero_le _) (Nat.zero_le _) ?_
  refine wk_bz (tgt := 38) hx hb dX8_odds_5 (by decide) (fun h1 => ?_) (fun h1 => ?_)
  · refine lv_iconst (v := -1) hx hb dX8_odds_38 (by decide) ?_
    have eg2 : μ = mooF μ w x2 p2 x3 := by rw [mooF, if_neg (fun q => h1 q.1.1)]
    have hP : va_P D vwCl (modelW c ad (mooF μ w x2 p2 x3) r) H := by rw [← eg2]; exact hP
    have hD : va_D A (modelW c ad (mooF μ w x2 p2 x3) r) := by rw [← eg2]; exact hD
    exact ret 39 ls H _ ((-1)) (by rw [mooV, if_neg (fun q => h1 q.1)]) hP hS dX8_odds_39
  refine lv_iload_n hx hb dX8_odds_8 rfl (lv_at hl 2 rfl) ?_
  refine wk_callRS (As := [.int x2]) (rest := []) ⟨hx, hb, hml, hown, hts⟩ (c_X8_isSubject l D c x2) (va_cwS 1 hts gX8_odds_X8_isSubject rfl rfl rfl hd_X8_isSubject ⟨Nat.le_of_ble_eq_true rfl, Nat.le_of_ble_eq_true rfl⟩) hK hP [] rfl rfl hl.1 rfl (Nat.le_of_ble_eq_true rfl) dX8_odds_9 (Nat.zero_le _) (Nat.zero_le _) ?_
  refine wk_bz (tgt := 38) hx hb dX8_odds_12 (by decide) (fun h2 => ?_) (fun h2 => ?_)
  · refine lv_iconst (v := -1) hx hb dX8_odds_38 (by decide) ?_
    have eg4 : μ = mooF μ w x2 p2 x3 := by rw [mooF, if_neg (fun q => h2 q.1.2.1)]
    have hP : va_P D vwCl (modelW c ad (mooF μ w x2 p2 x3) r) H := by rw [← eg4]; exact hP
    have hD : va_D A (modelW c ad (mooF μ w x2 p2 x3) r) := by rw [← eg4]; exact hD
    exact ret 39 ls H _ ((-1)) (by rw [mooV, if_neg (fun q => h2 q.2.1)]) hP hS dX8_odds_39
  refine lv_iload_n hx hb dX8_odds_15 rfl (lv_at hl 3 rfl) ?_
  refine lv_i2l (v := Int32.toInt64 p2) hx hb dX8_odds_16 rfl ?_
  refine lv_lconst (v := 0) hx hb dX8_odds_17 (by decide) ?_
  refine lv_ldc2 hx hb hown k1 dX8_odds_18 ?_
  refine wk_callRS (As := [.long (Int32.toInt64 p2), .long (Int32.toInt64 0), .long (Int32.toInt64 10)]) (rest := []) ⟨hx, hb, hml, hown, hts⟩ (c_X8_in l D c p2 0 10) (va_cwS 3 hts gX8_odds_X8_in rfl rfl rfl hd_X8_in ⟨Nat.le_of_ble_eq_true rfl, Nat.le_of_ble_eq_true rfl⟩) hK hP [] rfl rfl hl.1 rfl (Nat.le_of_ble_eq_true rfl) dX8_odds_21 (Nat.zero_le _) (Nat.zero_le _) ?_
  refine wk_bz (tgt := 38) hx hb dX8_odds_24 (by decide) (fun h3 => ?_) (fun h3 => ?_)
  · refine lv_iconst (v := -1) hx hb dX8_odds_38 (by decide) ?_
    have eg6 : μ = mooF μ w x2 p2 x3 := by rw [mooF, if_neg (fun q => h3 q.1.2.2.1)]
    have hP : va_P D vwCl (modelW c ad (mooF μ w x2 p2 x3) r) H := by rw [← eg6]; exact hP
    have hD : va_D A (modelW c ad (mooF μ w x2 p2 x3) r) := by rw [← eg6]; exact hD
    exact ret 39 ls H _ ((-1)) (by rw [mooV, if_neg (fun q => h3 q.2.2.1)]) hP hS dX8_odds_39
  refine lv_iload hx hb dX8_odds_27 (lv_at hl 4 rfl) ?_
  refine lv_i2l (v := Int32.toInt64 x3) hx hb dX8_odds_29 rfl ?_
  refine lv_lconst (v := 0) hx hb dX8_odds_30 (by decide) ?_
  refine lv_lconst (v := 1) hx hb dX8_odds_31 (by decide) ?_
  refine wk_callRS (As := [.long (Int32.toInt64 x3), .long (Int32.toInt64 0), .long (Int32.toInt64 1)]) (rest := []) ⟨hx, hb, hml, hown, hts⟩ (c_X8_in l D c x3 0 1) (va_cwS 3 hts gX8_odds_X8_in rfl rfl rfl hd_X8_in ⟨Nat.le_of_ble_eq_true rfl, Nat.le_of_ble_eq_true rfl⟩) hK hP [] rfl rfl hl.1 rfl (Nat.le_of_ble_eq_true rfl) dX8_odds_32 (Nat.zero_le _) (Nat.zero_le _) ?_
  refine wk_bnz (tgt := 40) hx hb dX8_odds_35 (by decide) (fun h4 => ?_) (fun h4 => ?_)
  rotate_left
  · refine lv_iconst (v := -1) hx hb dX8_odds_38 (by decide) ?_
    have eg28 : μ = mooF μ w x2 p2 x3 := by rw [mooF, if_neg (fun q => h4 q.1.2.2.2)]
    have hP : va_P D vwCl (modelW c ad (mooF μ w x2 p2 x3) r) H := by rw [← eg28]; exact hP
    have hD : va_D A (modelW c ad (mooF μ w x2 p2 x3) r) := by rw [← eg28]; exact hD
    exact ret 39 ls H _ ((-1)) (by rw [mooV, if_neg (fun q => h4 q.2.2.2)]) hP hS dX8_odds_39
  refine lv_aload_n hx hb dX8_odds_40 rfl (lv_at hl 0 rfl) ?_
  refine lv_iload_n hx hb dX8_odds_41 rfl (lv_at hl 1 rfl) ?_
  refine wk_callRV (As := [.int w]) (rest := []) ⟨hx, hb, hml, hown, hts⟩ (c_X8_hasLaid l D c ad μ r w) (cwV 1 hts gX8_odds_X8_hasLaid rfl rfl rfl hd_X8_hasLaid ⟨Nat.le_of_ble_eq_true rfl, Nat.le_of_ble_eq_true rfl⟩) hK hP [0, 1, 2, 3, 4, 5, 6, 7, 8] rfl 0 rfl rfl rfl hl.1 rfl (Nat.le_of_ble_eq_true rfl) dX8_odds_42 (Nat.zero_le _) (Nat.zero_le _) ?_
  refine wk_bz (tgt := 51) hx hb dX8_odds_45 (by decide) (fun h5 => ?_) (fun h5 => ?_)
  rotate_left
  · refine lv_bipush (v := -2) hx hb dX8_odds_48 (by decide) ?_
    have eg27 : μ = mooF μ w x2 p2 x3 := by rw [mooF, if_neg (fun q => q.2 h5)]
    have hP : va_P D vwCl (modelW c ad (mooF μ w x2 p2 x3) r) H := by rw [← eg27]; exact hP
    have hD : va_D A (modelW c ad (mooF μ w x2 p2 x3) r) := by rw [← eg27]; exact hD
    exact ret 50 ls H _ ((-2)) (by rw [mooV, if_pos ⟨h1, h2, h3, h4⟩, if_pos h5]) hP hS dX8_odds_50
  have hok : mooOK μ w x2 p2 x3 := ⟨h1, h2, h3, h4⟩
  have hBB := hB hok h5
  have hBp := hBB.1
  have hW6 := hG.1.1.2
  have h64 : 2 ^ nM μ ≤ 64 := Nat.pow_le_pow_right (by omega) hW6
  have hp0 := ix_of (y := 11) (n := 11) rfl (by omega) ⟨h3.1, Int32.lt_of_le_of_lt h3.2 (by decide)⟩
  have hp2 := hp0.2
  refine lv_iconst (v := 0) hx hb dX8_odds_51 (by decide) ?_
  refine lv_istore (lv' := [(5, .int 0), (0, .ref (ad 0)), (1, .int w), (2, .int x2), (3, .int p2), (4, .int x3)]) hx hb dX8_odds_52 hl (by decide) rfl (fun ls hl => ?_)
  refine lv_iconst (v := 0) hx hb dX8_odds_54 (by decide) ?_
  refine lv_istore (lv' := [(6, .int 0), (5, .int 0), (0, .ref (ad 0)), (1, .int w), (2, .int x2), (3, .int p2), (4, .int x3)]) hx hb dX8_odds_55 hl (by decide) rfl (fun ls hl => ?_)
  refine lv_iconst (v := 0) hx hb dX8_odds_57 (by decide) ?_
  refine lv_istore (lv' := [(7, .int 0), (6, .int 0), (5, .int 0), (0, .ref (ad 0)), (1, .int w), (2, .int x2), (3, .int p2), (4, .int x3)]) hx hb dX8_odds_58 hl (by decide) rfl (fun ls hl => ?_)
  have lp60 : ∀ (n : Nat) (s : Nat), (s ≤ 2 ^ nM μ) → 2 ^ nM μ - s < n → ∀ (H : Heap) (locs : List Loc), va_P D vwCl (modelW c ad (moS μ w x2 s) r) H → va_D A (modelW c ad (moS μ w x2 s) r) → va_S A H0 H locs → ∀ ls : Array Slot, lv_has ls 11 [(0, .ref (ad 0)), (1, .int w), (2, .int x2), (3, .int (nI p2.toNatClampNeg)), (4, .int x3), (5, .int (nI (maN μ w x2 (p2.toNatClampNeg) s))), (6, .int (nI (mbN μ w (p2.toNatClampNeg) s))), (7, .int (nI s))] → W pr l ev rmX8_odds ss mm args below meth cd H locs 0 0 Q (F0 mm 60 ls []) := by
    intro n
    induction n with
    | zero => intro s hs hn; exact absurd hn (Nat.not_lt_zero _)
    | succ n ih60 =>
      intro s hs hn H locs hP hD hS ls hl
      refine lv_iload hx hb dX8_odds_60 (lv_at hl 7 rfl) ?_
      refine lv_iconst (v := 1) hx hb dX8_odds_62 (by decide) ?_
      refine lv_aload_n hx hb dX8_odds_63 rfl (lv_at hl 0 rfl) ?_
      refine wg_X8_7 hx hb hts iX8 hown hK hP 0 rfl k2 (v := .ref (ad 7)) rfl dX8_odds_64 ?_
      refine lv_iconst (v := 0) hx hb dX8_odds_67 (by decide) ?_
      refine wk_ald (f := (moS μ w x2 s) 7) hx hb hK hP 3 0 rfl rfl 0 rfl (by omega) (by decide) dX8_odds_68 ?_
      refine wk_eqi (y := nI (nM μ)) (by rw [moS_of μ w x2 (by decide)]; exact hG.1.1.1) ?_
      refine lv_ishl hx hb dX8_odds_69 ?_
      refine wk_eqi (y := nI (2 ^ nM μ)) (shl_1 (nM μ) (by omega)) ?_
      refine wk_ge (tgt := 219) hx hb s (2 ^ nM μ) rfl rfl (by omega) (by omega) dX8_odds_70 (by decide) (fun h9 => ?_) (fun h9 => ?_)
      · have hsq : s = 2 ^ nM μ := by omega
        subst hsq
        have hl : lv_has ls 11 [(0, .ref (ad 0)), (1, .int w), (2, .int x2), (3, .int (nI p2.toNatClampNeg)), (4, .int x3), (5, .int (nI (moA μ w x2 p2))), (6, .int (nI (moB μ w p2))), (7, .int (nI (2 ^ nM μ)))] := hl
        refine lv_iload hx hb dX8_odds_219 (lv_at hl 5 rfl) ?_
        refine lv_istore (lv' := [(7, .int (nI (moA μ w x2 p2))), (0, .ref (ad 0)), (1, .int w), (2, .int x2), (3, .int (nI p2.toNatClampNeg)), (4, .int x3), (5, .int (nI (moA μ w x2 p2))), (6, .int (nI (moB μ w p2)))]) hx hb dX8_odds_221 hl (by decide) rfl (fun ls hl => ?_)
        refine lv_iload hx hb dX8_odds_223 (lv_at hl 7 rfl) ?_
        refine lv_istore (lv' := [(8, .int (nI (moB μ w p2))), (7, .int (nI (moA μ w x2 p2))), (0, .ref (ad 0)), (1, .int w), (2, .int x2), (3, .int (nI p2.toNatClampNeg)), (4, .int x3), (5, .int (nI (moA μ w x2 p2))), (6, .int (nI (moB μ w p2)))]) hx hb dX8_odds_225 hl (by decide) rfl (fun ls hl => ?_)
        have lp227 : ∀ (n : Nat) (u : Nat) (v : Nat), (u < 2147483648) → (v < 2147483648) → (Nat.gcd u v = Nat.gcd (moA μ w x2 p2) (moB μ w p2)) → v < n → ∀ ls : Array Slot, lv_has ls 11 [(0, .ref (ad 0)), (4, .int x3), (5, .int (nI (moA μ w x2 p2))), (6, .int (nI (moB μ w p2))), (7, .int (nI u)), (8, .int (nI v))] → W pr l ev rmX8_odds ss mm args below meth cd H locs 0 0 Q (F0 mm 227 ls []) := by
          intro n
          induction n with
          | zero => intro u v hu hv hg hn; exact absurd hn (Nat.not_lt_zero _)
          | succ n ih227 =>
            intro u v hu hv hg hn ls hl
            refine lv_iload hx hb dX8_odds_227 (lv_at hl 5 rfl) ?_
            refine lv_if_eq (tgt := 250) hx hb dX8_odds_229 (by decide) (fun h10 => ?_) (fun h10 => ?_)
            · have hv0 : v = 0 := (nI_eq (a := v) (b := 0) (by omega) (by omega)).mp h10
              have hgu : u = Nat.gcd (moA μ w x2 p2) (moB μ w p2) := by rw [← hg, hv0, Nat.gcd_zero_right]
              have hup : 0 < u := by rw [hgu]; exact Nat.gcd_pos_of_pos_right _ hBp
              refine lv_iload hx hb dX8_odds_250 (lv_at hl 1 rfl) ?_
              refine lv_if_ne (tgt := 263) hx hb dX8_odds_252 (by decide) (fun h11 => ?_) (fun h11 => ?_)
              · refine lv_iload hx hb dX8_odds_263 (lv_at hl 3 rfl) ?_
                refine lv_iload hx hb dX8_odds_265 (lv_at hl 4 rfl) ?_
                refine lv_idiv hx hb dX8_odds_267 (nI_ne0 hup hu) ?_
                have eg12 : moS μ w x2 (2 ^ nM μ) = mooF μ w x2 p2 x3 := by rw [mooF, if_pos ⟨hok, h5⟩]
                have hP : va_P D vwCl (modelW c ad (mooF μ w x2 p2 x3) r) H := by rw [← eg12]; exact hP
                have hD : va_D A (modelW c ad (mooF μ w x2 p2 x3) r) := by rw [← eg12]; exact hD
                exact ret 268 ls H _ ((nI (moB μ w p2)) / (nI u)) (by rw [mooV, if_pos hok, if_neg h5, if_neg h11, ← hgu]; exact pk_div (hBB.2.1) hup hu) hP hS dX8_odds_268
              refine lv_iload hx hb dX8_odds_255 (lv_at hl 2 rfl) ?_
              refine lv_iload hx hb dX8_odds_257 (lv_at hl 4 rfl) ?_
              refine lv_idiv hx hb dX8_odds_259 (nI_ne0 hup hu) ?_
              refine lv_goto (tgt := 268) hx hb dX8_odds_260 (by decide) ?_
              have eg13 : moS μ w x2 (2 ^ nM μ) = mooF μ w x2 p2 x3 := by rw [mooF, if_pos ⟨hok, h5⟩]
              have hP : va_P D vwCl (modelW c ad (mooF μ w x2 p2 x3) r) H := by rw [← eg13]; exact hP
              have hD : va_D A (modelW c ad (mooF μ w x2 p2 x3) r) := by rw [← eg13]; exact hD
              exact ret 268 ls H _ ((nI (moA μ w x2 p2)) / (nI u)) (by rw [mooV, if_pos hok, if_neg h5, if_pos h11, ← hgu]; exact pk_div (hBB.2.2) hup hu) hP hS dX8_odds_268
            have hvn : v ≠ 0 := fun e => h10 (by rw [e]; rfl)
            have hvp : 0 < v := by omega
            refine lv_iload hx hb dX8_odds_232 (lv_at hl 4 rfl) ?_
            refine lv_iload hx hb dX8_odds_234 (lv_at hl 5 rfl) ?_
            refine lv_irem hx hb dX8_odds_236 (nI_ne0 hvp hv) ?_
            refine wk_eqi (y := nI (u % v)) (pk_rem hu hvp hv) ?_
            refine lv_istore (lv' := [(9, .int (nI (u % v))), (0, .ref (ad 0)), (4, .int x3), (5, .int (nI (moA μ w x2 p2))), (6, .int (nI (moB μ w p2))), (7, .int (nI u)), (8, .int (nI v))]) hx hb dX8_odds_237 hl (by decide) rfl (fun ls hl => ?_)
            refine lv_iload hx hb dX8_odds_239 (lv_at hl 6 rfl) ?_
            refine lv_istore (lv' := [(7, .int (nI v)), (9, .int (nI (u % v))), (0, .ref (ad 0)), (4, .int x3), (5, .int (nI (moA μ w x2 p2))), (6, .int (nI (moB μ w p2))), (8, .int (nI v))]) hx hb dX8_odds_241 hl (by decide) rfl (fun ls hl => ?_)
            refine lv_iload hx hb dX8_odds_243 (lv_at hl 1 rfl) ?_
            refine lv_istore (lv' := [(8, .int (nI (u % v))), (7, .int (nI v)), (9, .int (nI (u % v))), (0, .ref (ad 0)), (4, .int x3), (5, .int (nI (moA μ w x2 p2))), (6, .int (nI (moB μ w p2)))]) hx hb dX8_odds_245 hl (by decide) rfl (fun ls hl => ?_)
            refine lv_goto (tgt := 227) hx hb dX8_odds_247 (by decide) ?_
            have hl : lv_has ls 11 [(0, .ref (ad 0)), (4, .int x3), (5, .int (nI (moA μ w x2 p2))), (6, .int (nI (moB μ w p2))), (7, .int (nI v)), (8, .int (nI (u % v)))] := lv_sub hl [3, 4, 5, 6, 1, 0] rfl
            exact ih227 v (u % v) (hv) (Nat.lt_trans (Nat.mod_lt u hvp) hv) (by rw [← hg]; exact gcd_step u v) (Nat.lt_of_lt_of_le (Nat.mod_lt u hvp) (by omega)) ls hl
        have hl : lv_has ls 11 [(0, .ref (ad 0)), (4, .int x3), (5, .int (nI (moA μ w x2 p2))), (6, .int (nI (moB μ w p2))), (7, .int (nI (moA μ w x2 p2))), (8, .int (nI (moB μ w p2)))] := lv_sub hl [2, 6, 7, 8, 1, 0] rfl
        exact lp227 _ (moA μ w x2 p2) (moB μ w p2) (hBB.2.2) (hBB.2.1) (rfl) (Nat.lt_succ_self _) ls hl
      refine lv_iload hx hb dX8_odds_73 (lv_at hl 7 rfl) ?_
      refine lv_aload_n hx hb dX8_odds_75 rfl (lv_at hl 0 rfl) ?_
      refine wg_X8_8 hx hb hts iX8 hown hK hP 0 rfl k3 (v := .ref (ad 8)) rfl dX8_odds_76 ?_
      refine lv_iconst (v := 2) hx hb dX8_odds_79 (by decide) ?_
      refine wk_ald (f := (moS μ w x2 s) 8) hx hb hK hP 4 0 rfl rfl 2 rfl (by omega) (by decide) dX8_odds_80 ?_
      refine wk_eqi (y := μ 8 2) (by rw [moS_of μ w x2 (by decide)]) ?_
      refine lv_iconst (v := 1) hx hb dX8_odds_81 (by decide) ?_
      refine lv_iload_n hx hb dX8_odds_82 rfl (lv_at hl 1 rfl) ?_
      refine lv_ishl hx hb dX8_odds_83 ?_
      refine lv_ior hx hb dX8_odds_84 ?_
      refine lv_iand hx hb dX8_odds_85 ?_
      refine lv_if_ne (tgt := 213) hx hb dX8_odds_86 (by decide) (fun h14 => ?_) (fun h14 => ?_)
      · refine lv_iinc (v := nI (s + 1)) (lv' := [(7, .int (nI (s + 1))), (0, .ref (ad 0)), (1, .int w), (2, .int x2), (3, .int (nI p2.toNatClampNeg)), (4, .int x3), (5, .int (nI (maN μ w x2 (p2.toNatClampNeg) s))), (6, .int (nI (mbN μ w (p2.toNatClampNeg) s)))]) hx hb dX8_odds_213 hl (k := 7) rfl (nI_inc s 1) (by decide) rfl (fun ls hl => ?_)
        refine lv_goto (tgt := 60) hx hb dX8_odds_216 (by decide) ?_
        have eg15 : moS μ w x2 s = moS μ w x2 (s + 1) := by first | rfl | (rw [moS, if_neg h14]; done)
        have hP : va_P D vwCl (modelW c ad (moS μ w x2 (s + 1)) r) H := by rw [← eg15]; exact hP
        have hD : va_D A (modelW c ad (moS μ w x2 (s + 1)) r) := by rw [← eg15]; exact hD
        have hl : lv_has ls 11 [(0, .ref (ad 0)), (1, .int w), (2, .int x2), (3, .int (nI p2.toNatClampNeg)), (4, .int x3), (5, .int (nI (maN μ w x2 (p2.toNatClampNeg) s))), (6, .int (nI (mbN μ w (p2.toNatClampNeg) s))), (7, .int (nI (s + 1)))] := lv_sub hl [1, 2, 3, 4, 5, 6, 7, 0] rfl
        have hl := wk_lset (y := nI (maN μ w x2 (p2.toNatClampNeg) (s + 1))) (lv_sub (l' := [(5, .int (nI (maN μ w x2 (p2.toNatClampNeg) s))), (0, .ref (ad 0)), (1, .int w), (2, .int x2), (3, .int (nI p2.toNatClampNeg)), (4, .int x3), (6, .int (nI (mbN μ w (p2.toNatClampNeg) s))), (7, .int (nI (s + 1)))]) hl [5, 0, 1, 2, 3, 4, 6, 7] rfl) (by first | rfl | exact hp0.1 | (rw [mbN, if_pos hAa]; done) | (rw [maN, if_pos hAa, if_pos ⟨hv9, h14⟩]; done) | (rw [maN, if_pos hAa, if_neg (fun z => h14 z.2), Nat.add_zero]; done) | (rw [maN, if_pos hAa, if_neg (fun z => z.1 (ev.symm.trans h14)), Nat.add_zero]; done) | (rw [maN, if_neg h14]; done) | (rw [mbN, if_neg h14]; done))
        have hl : lv_has ls 11 [(0, .ref (ad 0)), (1, .int w), (2, .int x2), (3, .int (nI p2.toNatClampNeg)), (4, .int x3), (5, .int (nI (maN μ w x2 (p2.toNatClampNeg) (s + 1)))), (6, .int (nI (mbN μ w (p2.toNatClampNeg) s))), (7, .int (nI (s + 1)))] := lv_sub hl [1, 2, 3, 4, 5, 0, 6, 7] rfl
        have hl := wk_lset (y := nI (mbN μ w (p2.toNatClampNeg) (s + 1))) (lv_sub (l' := [(6, .int (nI (mbN μ w (p2.toNatClampNeg) s))), (0, .ref (ad 0)), (1, .int w), (2, .int x2), (3, .int (nI p2.toNatClampNeg)), (4, .int x3), (5, .int (nI (maN μ w x2 (p2.toNatClampNeg) (s + 1)))), (7, .int (nI (s + 1)))]) hl [6, 0, 1, 2, 3, 4, 5, 7] rfl) (by first | rfl | exact hp0.1 | (rw [mbN, if_pos hAa]; done) | (rw [maN, if_pos hAa, if_pos ⟨hv9, h14⟩]; done) | (rw [maN, if_pos hAa, if_neg (fun z => h14 z.2), Nat.add_zero]; done) | (rw [maN, if_pos hAa, if_neg (fun z => z.1 (ev.symm.trans h14)), Nat.add_zero]; done) | (rw [maN, if_neg h14]; done) | (rw [mbN, if_neg h14]; done))
        have hl : lv_has ls 11 [(0, .ref (ad 0)), (1, .int w), (2, .int x2), (3, .int (nI p2.toNatClampNeg)), (4, .int x3), (5, .int (nI (maN μ w x2 (p2.toNatClampNeg) (s + 1)))), (6, .int (nI (mbN μ w (p2.toNatClampNeg) (s + 1)))), (7, .int (nI (s + 1)))] := lv_sub hl [1, 2, 3, 4, 5, 6, 0, 7] rfl
        exact ih60 (s + 1) (by omega) (by omega) H _ hP hD hS ls hl
      have hAa := h14
      refine lv_iconst (v := 1) hx hb dX8_odds_89 (by decide) ?_
      refine lv_istore (lv' := [(8, .int 1), (0, .ref (ad 0)), (1, .int w), (2, .int x2), (3, .int (nI p2.toNatClampNeg)), (4, .int x3), (5, .int (nI (maN μ w x2 (p2.toNatClampNeg) s))), (6, .int (nI (mbN μ w (p2.toNatClampNeg) s))), (7, .int (nI s))]) hx hb dX8_odds_90 hl (by decide) rfl (fun ls hl => ?_)
      refine lv_iconst (v := 0) hx hb dX8_odds_92 (by decide) ?_
      refine lv_istore (lv' := [(9, .int 0), (8, .int 1), (0, .ref (ad 0)), (1, .int w), (2, .int x2), (3, .int (nI p2.toNatClampNeg)), (4, .int x3), (5, .int (nI (maN μ w x2 (p2.toNatClampNeg) s))), (6, .int (nI (mbN μ w (p2.toNatClampNeg) s))), (7, .int (nI s))]) hx hb dX8_odds_93 hl (by decide) rfl (fun ls hl => ?_)
      have lp95 : ∀ (n : Nat) (y : Nat), (y ≤ nM μ) → nM μ - y < n → ∀ (H : Heap) (locs : List Loc), va_P D vwCl (modelW c ad (moS μ w x2 s) r) H → va_D A (modelW c ad (moS μ w x2 s) r) → va_S A H0 H locs → ∀ ls : Array Slot, lv_has ls 11 [(0, .ref (ad 0)), (1, .int w), (2, .int x2), (3, .int (nI p2.toNatClampNeg)), (4, .int x3), (5, .int (nI (maN μ w x2 (p2.toNatClampNeg) s))), (6, .int (nI (mbN μ w (p2.toNatClampNeg) s))), (7, .int (nI s)), (8, .int (nI (mpN μ w (p2.toNatClampNeg) s y))), (9, .int (nI y))] → W pr l ev rmX8_odds ss mm args below meth cd H locs 0 0 Q (F0 mm 95 ls []) := by
        intro n
        induction n with
        | zero => intro y hy hn; exact absurd hn (Nat.not_lt_zero _)
        | succ n ih95 =>
          intro y hy hn H locs hP hD hS ls hl
          refine lv_iload hx hb dX8_odds_95 (lv_at hl 9 rfl) ?_
          refine lv_aload_n hx hb dX8_odds_97 rfl (lv_at hl 0 rfl) ?_
          refine wg_X8_7 hx hb hts iX8 hown hK hP 0 rfl k2 (v := .ref (ad 7)) rfl dX8_odds_98 ?_
          refine lv_iconst (v := 0) hx hb dX8_odds_101 (by decide) ?_
          refine wk_ald (f := (moS μ w x2 s) 7) hx hb hK hP 3 0 rfl rfl 0 rfl (by omega) (by decide) dX8_odds_102 ?_
          refine wk_eqi (y := nI (nM μ)) (by rw [moS_of μ w x2 (by decide)]; exact hG.1.1.1) ?_
          refine wk_ge (tgt := 167) hx hb y (nM μ) rfl rfl (by omega) (by omega) dX8_odds_103 (by decide) (fun h16 => ?_) (fun h16 => ?_)
          rotate_left
          · refine lv_iload hx hb dX8_odds_106 (lv_at hl 9 rfl) ?_
            refine lv_iload_n hx hb dX8_odds_108 rfl (lv_at hl 1 rfl) ?_
            refine lv_icmp_eq (tgt := 125) hx hb dX8_odds_109 (by decide) (fun h20 => ?_) (fun h20 => ?_)
            · refine lv_iconst (v := 0) hx hb dX8_odds_125 (by decide) ?_
              refine lv_istore (lv' := [(10, .int 0), (0, .ref (ad 0)), (1, .int w), (2, .int x2), (3, .int (nI p2.toNatClampNeg)), (4, .int x3), (5, .int (nI (maN μ w x2 (p2.toNatClampNeg) s))), (6, .int (nI (mbN μ w (p2.toNatClampNeg) s))), (7, .int (nI s)), (8, .int (nI (mpN μ w (p2.toNatClampNeg) s y))), (9, .int (nI y))]) hx hb dX8_odds_126 hl (by decide) rfl (fun ls hl => ?_)
              refine lv_iload hx hb dX8_odds_128 (lv_at hl 9 rfl) ?_
              refine lv_iload hx hb dX8_odds_130 (lv_at hl 0 rfl) ?_
              refine lv_if_ne (tgt := 139) hx hb dX8_odds_132 (by decide) (fun q => absurd (by decide) q) (fun _ => ?_)
              refine lv_iconst (v := 1) hx hb dX8_odds_135 (by decide) ?_
              refine lv_goto (tgt := 158) hx hb dX8_odds_136 (by decide) ?_
              refine lv_imul hx hb dX8_odds_158 ?_
              refine wk_eqi (pk_mul (mpN μ w (p2.toNatClampNeg) s y) 1) ?_
              refine lv_istore (lv' := [(8, .int (nI ((mpN μ w (p2.toNatClampNeg) s y) * 1))), (10, .int 0), (0, .ref (ad 0)), (1, .int w), (2, .int x2), (3, .int (nI p2.toNatClampNeg)), (4, .int x3), (5, .int (nI (maN μ w x2 (p2.toNatClampNeg) s))), (6, .int (nI (mbN μ w (p2.toNatClampNeg) s))), (7, .int (nI s)), (9, .int (nI y))]) hx hb dX8_odds_159 hl (by decide) rfl (fun ls hl => ?_)
              refine lv_iinc (v := nI (y + 1)) (lv' := [(9, .int (nI (y + 1))), (8, .int (nI ((mpN μ w (p2.toNatClampNeg) s y) * 1))), (10, .int 0), (0, .ref (ad 0)), (1, .int w), (2, .int x2), (3, .int (nI p2.toNatClampNeg)), (4, .int x3), (5, .int (nI (maN μ w x2 (p2.toNatClampNeg) s))), (6, .int (nI (mbN μ w (p2.toNatClampNeg) s))), (7, .int (nI s))]) hx hb dX8_odds_161 hl (k := 10) rfl (nI_inc y 1) (by decide) rfl (fun ls hl => ?_)
              refine lv_goto (tgt := 95) hx hb dX8_odds_164 (by decide) ?_
              have hl : lv_has ls 11 [(0, .ref (ad 0)), (1, .int w), (2, .int x2), (3, .int (nI p2.toNatClampNeg)), (4, .int x3), (5, .int (nI (maN μ w x2 (p2.toNatClampNeg) s))), (6, .int (nI (mbN μ w (p2.toNatClampNeg) s))), (7, .int (nI s)), (8, .int (nI ((mpN μ w (p2.toNatClampNeg) s y) * 1))), (9, .int (nI (y + 1)))] := lv_sub hl [3, 4, 5, 6, 7, 8, 9, 10, 1, 0] rfl
              have hl := wk_lset (y := nI (mpN μ w (p2.toNatClampNeg) s (y + 1))) (lv_sub (l' := [(8, .int (nI ((mpN μ w (p2.toNatClampNeg) s y) * 1))), (0, .ref (ad 0)), (1, .int w), (2, .int x2), (3, .int (nI p2.toNatClampNeg)), (4, .int x3), (5, .int (nI (maN μ w x2 (p2.toNatClampNeg) s))), (6, .int (nI (mbN μ w (p2.toNatClampNeg) s))), (7, .int (nI s)), (9, .int (nI (y + 1)))]) hl [8, 0, 1, 2, 3, 4, 5, 6, 7, 9] rfl) (by first | rfl | (rw [mpN, if_neg (fun z => z.1 h20)]; done) | (rw [mpN, if_neg (fun z => z.2 h20)]; done) | (rw [mpN, if_pos ⟨hNe, hNl⟩, if_pos h20]; done) | (rw [mpN, if_pos ⟨hNe, hNl⟩, if_neg h20]; done))
              have hl : lv_has ls 11 [(0, .ref (ad 0)), (1, .int w), (2, .int x2), (3, .int (nI p2.toNatClampNeg)), (4, .int x3), (5, .int (nI (maN μ w x2 (p2.toNatClampNeg) s))), (6, .int (nI (mbN μ w (p2.toNatClampNeg) s))), (7, .int (nI s)), (8, .int (nI (mpN μ w (p2.toNatClampNeg) s (y + 1)))), (9, .int (nI (y + 1)))] := lv_sub hl [1, 2, 3, 4, 5, 6, 7, 8, 0, 9] rfl
              exact ih95 (y + 1) (by omega) (by omega) H _ hP hD hS ls hl
            have hNe := h20
            refine lv_aload_n hx hb dX8_odds_112 rfl (lv_at hl 0 rfl) ?_
            refine lv_iload hx hb dX8_odds_113 (lv_at hl 9 rfl) ?_
            refine wk_callRV (As := [.int (nI y)]) (rest := []) ⟨hx, hb, hml, hown, hts⟩ (c_X8_hasLaid l D c ad (moS μ w x2 s) r (nI y)) (cwV 1 hts gX8_odds_X8_hasLaid rfl rfl rfl hd_X8_hasLaid ⟨Nat.le_of_ble_eq_true rfl, Nat.le_of_ble_eq_true rfl⟩) hK hP [0, 1, 2, 3, 4, 5, 6, 7, 8] rfl 0 rfl rfl rfl hl.1 rfl (Nat.le_of_ble_eq_true rfl) dX8_odds_115 (Nat.zero_le _) (Nat.zero_le _) ?_
            refine wk_eqi (y := if laidM μ (nI y) then 1 else 0) (by simp only [laidM, moS_of μ w x2 (show (8 : Nat) ≠ 13 by decide)]) ?_
            refine wk_bnz (tgt := 125) hx hb dX8_odds_118 (by decide) (fun hLd => ?_) (fun hLd => ?_)
            · refine lv_iconst (v := 0) hx hb dX8_odds_125 (by decide) ?_
              refine lv_istore (lv' := [(10, .int 0), (0, .ref (ad 0)), (1, .int w), (2, .int x2), (3, .int (nI p2.toNatClampNeg)), (4, .int x3), (5, .int (nI (maN μ w x2 (p2.toNatClampNeg) s))), (6, .int (nI (mbN μ w (p2.toNatClampNeg) s))), (7, .int (nI s)), (8, .int (nI (mpN μ w (p2.toNatClampNeg) s y))), (9, .int (nI y))]) hx hb dX8_odds_126 hl (by decide) rfl (fun ls hl => ?_)
              refine lv_iload hx hb dX8_odds_128 (lv_at hl 9 rfl) ?_
              refine lv_iload hx hb dX8_odds_130 (lv_at hl 0 rfl) ?_
              refine lv_if_ne (tgt := 139) hx hb dX8_odds_132 (by decide) (fun q => absurd (by decide) q) (fun _ => ?_)
              refine lv_iconst (v := 1) hx hb dX8_odds_135 (by decide) ?_
              refine lv_goto (tgt := 158) hx hb dX8_odds_136 (by decide) ?_
              refine lv_imul hx hb dX8_odds_158 ?_
              refine wk_eqi (pk_mul (mpN μ w (p2.toNatClampNeg) s y) 1) ?_
              refine lv_istore (lv' := [(8, .int (nI ((mpN μ w (p2.toNatClampNeg) s y) * 1))), (10, .int 0), (0, .ref (ad 0)), (1, .int w), (2, .int x2), (3, .int (nI p2.toNatClampNeg)), (4, .int x3), (5, .int (nI (maN μ w x2 (p2.toNatClampNeg) s))), (6, .int (nI (mbN μ w (p2.toNatClampNeg) s))), (7, .int (nI s)), (9, .int (nI y))]) hx hb dX8_odds_159 hl (by decide) rfl (fun ls hl => ?_)
              refine lv_iinc (v := nI (y + 1)) (lv' := [(9, .int (nI (y + 1))), (8, .int (nI ((mpN μ w (p2.toNatClampNeg) s y) * 1))), (10, .int 0), (0, .ref (ad 0)), (1, .int w), (2, .int x2), (3, .int (nI p2.toNatClampNeg)), (4, .int x3), (5, .int (nI (maN μ w x2 (p2.toNatClampNeg) s))), (6, .int (nI (mbN μ w (p2.toNatClampNeg) s))), (7, .int (nI s))]) hx hb dX8_odds_161 hl (k := 10) rfl (nI_inc y 1) (by decide) rfl (fun ls hl => ?_)
              refine lv_goto (tgt := 95) hx hb dX8_odds_164 (by decide) ?_
              have hl : lv_has ls 11 [(0, .ref (ad 0)), (1, .int w), (2, .int x2), (3, .int (nI p2.toNatClampNeg)), (4, .int x3), (5, .int (nI (maN μ w x2 (p2.toNatClampNeg) s))), (6, .int (nI (mbN μ w (p2.toNatClampNeg) s))), (7, .int (nI s)), (8, .int (nI ((mpN μ w (p2.toNatClampNeg) s y) * 1))), (9, .int (nI (y + 1)))] := lv_sub hl [3, 4, 5, 6, 7, 8, 9, 10, 1, 0] rfl
              have hl := wk_lset (y := nI (mpN μ w (p2.toNatClampNeg) s (y + 1))) (lv_sub (l' := [(8, .int (nI ((mpN μ w (p2.toNatClampNeg) s y) * 1))), (0, .ref (ad 0)), (1, .int w), (2, .int x2), (3, .int (nI p2.toNatClampNeg)), (4, .int x3), (5, .int (nI (maN μ w x2 (p2.toNatClampNeg) s))), (6, .int (nI (mbN μ w (p2.toNatClampNeg) s))), (7, .int (nI s)), (9, .int (nI (y + 1)))]) hl [8, 0, 1, 2, 3, 4, 5, 6, 7, 9] rfl) (by first | rfl | (rw [mpN, if_neg (fun z => z.1 hLd)]; done) | (rw [mpN, if_neg (fun z => z.2 hLd)]; done) | (rw [mpN, if_pos ⟨hNe, hNl⟩, if_pos hLd]; done) | (rw [mpN, if_pos ⟨hNe, hNl⟩, if_neg hLd]; done))
              have hl : lv_has ls 11 [(0, .ref (ad 0)), (1, .int w), (2, .int x2), (3, .int (nI p2.toNatClampNeg)), (4, .int x3), (5, .int (nI (maN μ w x2 (p2.toNatClampNeg) s))), (6, .int (nI (mbN μ w (p2.toNatClampNeg) s))), (7, .int (nI s)), (8, .int (nI (mpN μ w (p2.toNatClampNeg) s (y + 1)))), (9, .int (nI (y + 1)))] := lv_sub hl [1, 2, 3, 4, 5, 6, 7, 8, 0, 9] rfl
              exact ih95 (y + 1) (by omega) (by omega) H _ hP hD hS ls hl
            have hNl := hLd
            refine lv_iconst (v := 1) hx hb dX8_odds_121 (by decide) ?_
            refine lv_goto (tgt := 126) hx hb dX8_odds_122 (by decide) ?_
            refine lv_istore (lv' := [(10, .int 1), (0, .ref (ad 0)), (1, .int w), (2, .int x2), (3, .int (nI p2.toNatClampNeg)), (4, .int x3), (5, .int (nI (maN μ w x2 (p2.toNatClampNeg) s))), (6, .int (nI (mbN μ w (p2.toNatClampNeg) s))), (7, .int (nI s)), (8, .int (nI (mpN μ w (p2.toNatClampNeg) s y))), (9, .int (nI y))]) hx hb dX8_odds_126 hl (by decide) rfl (fun ls hl => ?_)
            refine lv_iload hx hb dX8_odds_128 (lv_at hl 9 rfl) ?_
            refine lv_iload hx hb dX8_odds_130 (lv_at hl 0 rfl) ?_
            refine lv_if_ne (tgt := 139) hx hb dX8_odds_132 (by decide) (fun _ => ?_) (fun q => absurd q (by decide))
            refine lv_iload hx hb dX8_odds_139 (lv_at hl 8 rfl) ?_
            refine lv_iload hx hb dX8_odds_141 (lv_at hl 10 rfl) ?_
            refine lv_ishr hx hb dX8_odds_143 ?_
            refine lv_iconst (v := 1) hx hb dX8_odds_144 (by decide) ?_
            refine lv_iand hx hb dX8_odds_145 ?_
            refine lv_iconst (v := 1) hx hb dX8_odds_146 (by decide) ?_
            refine lv_icmp_ne (tgt := 154) hx hb dX8_odds_147 (by decide) (fun h25 => ?_) (fun h25 => ?_)
            rotate_left
            · refine lv_iload_n hx hb dX8_odds_150 rfl (lv_at hl 4 rfl) ?_
              refine lv_goto (tgt := 158) hx hb dX8_odds_151 (by decide) ?_
              refine lv_imul hx hb dX8_odds_158 ?_
              refine wk_eqi (pk_mul (mpN μ w (p2.toNatClampNeg) s y) p2.toNatClampNeg) ?_
              refine lv_istore (lv' := [(8, .int (nI ((mpN μ w (p2.toNatClampNeg) s y) * p2.toNatClampNeg))), (10, .int 1), (0, .ref (ad 0)), (1, .int w), (2, .int x2), (3, .int (nI p2.toNatClampNeg)), (4, .int x3), (5, .int (nI (maN μ w x2 (p2.toNatClampNeg) s))), (6, .int (nI (mbN μ w (p2.toNatClampNeg) s))), (7, .int (nI s)), (9, .int (nI y))]) hx hb dX8_odds_159 hl (by decide) rfl (fun ls hl => ?_)
              refine lv_iinc (v := nI (y + 1)) (lv' := [(9, .int (nI (y + 1))), (8, .int (nI ((mpN μ w (p2.toNatClampNeg) s y) * p2.toNatClampNeg))), (10, .int 1), (0, .ref (ad 0)), (1, .int w), (2, .int x2), (3, .int (nI p2.toNatClampNeg)), (4, .int x3), (5, .int (nI (maN μ w x2 (p2.toNatClampNeg) s))), (6, .int (nI (mbN μ w (p2.toNatClampNeg) s))), (7, .int (nI s))]) hx hb dX8_odds_161 hl (k := 10) rfl (nI_inc y 1) (by decide) rfl (fun ls hl => ?_)
              refine lv_goto (tgt := 95) hx hb dX8_odds_164 (by decide) ?_
              have hl : lv_has ls 11 [(0, .ref (ad 0)), (1, .int w), (2, .int x2), (3, .int (nI p2.toNatClampNeg)), (4, .int x3), (5, .int (nI (maN μ w x2 (p2.toNatClampNeg) s))), (6, .int (nI (mbN μ w (p2.toNatClampNeg) s))), (7, .int (nI s)), (8, .int (nI ((mpN μ w (p2.toNatClampNeg) s y) * p2.toNatClampNeg))), (9, .int (nI (y + 1)))] := lv_sub hl [3, 4, 5, 6, 7, 8, 9, 10, 1, 0] rfl
              have hl := wk_lset (y := nI (mpN μ w (p2.toNatClampNeg) s (y + 1))) (lv_sub (l' := [(8, .int (nI ((mpN μ w (p2.toNatClampNeg) s y) * p2.toNatClampNeg))), (0, .ref (ad 0)), (1, .int w), (2, .int x2), (3, .int (nI p2.toNatClampNeg)), (4, .int x3), (5, .int (nI (maN μ w x2 (p2.toNatClampNeg) s))), (6, .int (nI (mbN μ w (p2.toNatClampNeg) s))), (7, .int (nI s)), (9, .int (nI (y + 1)))]) hl [8, 0, 1, 2, 3, 4, 5, 6, 7, 9] rfl) (by first | rfl | (rw [mpN, if_neg (fun z => z.1 h25)]; done) | (rw [mpN, if_neg (fun z => z.2 h25)]; done) | (rw [mpN, if_pos ⟨hNe, hNl⟩, if_pos h25]; done) | (rw [mpN, if_pos ⟨hNe, hNl⟩, if_neg h25]; done))
              have hl : lv_has ls 11 [(0, .ref (ad 0)), (1, .int w), (2, .int x2), (3, .int (nI p2.toNatClampNeg)), (4, .int x3), (5, .int (nI (maN μ w x2 (p2.toNatClampNeg) s))), (6, .int (nI (mbN μ w (p2.toNatClampNeg) s))), (7, .int (nI s)), (8, .int (nI (mpN μ w (p2.toNatClampNeg) s (y + 1)))), (9, .int (nI (y + 1)))] := lv_sub hl [1, 2, 3, 4, 5, 6, 7, 8, 0, 9] rfl
              exact ih95 (y + 1) (by omega) (by omega) H _ hP hD hS ls hl
            refine lv_bipush (v := 10) hx hb dX8_odds_154 (by decide) ?_
            refine lv_iload_n hx hb dX8_odds_156 rfl (lv_at hl 4 rfl) ?_
            refine lv_isub hx hb dX8_odds_157 ?_
            refine wk_eqi (pk_sub (a := 10) (b := p2.toNatClampNeg) (by omega)) ?_
            refine lv_imul hx hb dX8_odds_158 ?_
            refine wk_eqi (pk_mul (mpN μ w (p2.toNatClampNeg) s y) (10 - p2.toNatClampNeg)) ?_
            refine lv_istore (lv' := [(8, .int (nI ((mpN μ w (p2.toNatClampNeg) s y) * (10 - p2.toNatClampNeg)))), (10, .int 1), (0, .ref (ad 0)), (1, .int w), (2, .int x2), (3, .int (nI p2.toNatClampNeg)), (4, .int x3), (5, .int (nI (maN μ w x2 (p2.toNatClampNeg) s))), (6, .int (nI (mbN μ w (p2.toNatClampNeg) s))), (7, .int (nI s)), (9, .int (nI y))]) hx hb dX8_odds_159 hl (by decide) rfl (fun ls hl => ?_)
            refine lv_iinc (v := nI (y + 1)) (lv' := [(9, .int (nI (y + 1))), (8, .int (nI ((mpN μ w (p2.toNatClampNeg) s y) * (10 - p2.toNatClampNeg)))), (10, .int 1), (0, .ref (ad 0)), (1, .int w), (2, .int x2), (3, .int (nI p2.toNatClampNeg)), (4, .int x3), (5, .int (nI (maN μ w x2 (p2.toNatClampNeg) s))), (6, .int (nI (mbN μ w (p2.toNatClampNeg) s))), (7, .int (nI s))]) hx hb dX8_odds_161 hl (k := 10) rfl (nI_inc y 1) (by decide) rfl (fun ls hl => ?_)
            refine lv_goto (tgt := 95) hx hb dX8_odds_164 (by decide) ?_
            have hl : lv_has ls 11 [(0, .ref (ad 0)), (1, .int w), (2, .int x2), (3, .int (nI p2.toNatClampNeg)), (4, .int x3), (5, .int (nI (maN μ w x2 (p2.toNatClampNeg) s))), (6, .int (nI (mbN μ w (p2.toNatClampNeg) s))), (7, .int (nI s)), (8, .int (nI ((mpN μ w (p2.toNatClampNeg) s y) * (10 - p2.toNatClampNeg)))), (9, .int (nI (y + 1)))] := lv_sub hl [3, 4, 5, 6, 7, 8, 9, 10, 1, 0] rfl
            have hl := wk_lset (y := nI (mpN μ w (p2.toNatClampNeg) s (y + 1))) (lv_sub (l' := [(8, .int (nI ((mpN μ w (p2.toNatClampNeg) s y) * (10 - p2.toNatClampNeg)))), (0, .ref (ad 0)), (1, .int w), (2, .int x2), (3, .int (nI p2.toNatClampNeg)), (4, .int x3), (5, .int (nI (maN μ w x2 (p2.toNatClampNeg) s))), (6, .int (nI (mbN μ w (p2.toNatClampNeg) s))), (7, .int (nI s)), (9, .int (nI (y + 1)))]) hl [8, 0, 1, 2, 3, 4, 5, 6, 7, 9] rfl) (by first | rfl | (rw [mpN, if_neg (fun z => z.1 h25)]; done) | (rw [mpN, if_neg (fun z => z.2 h25)]; done) | (rw [mpN, if_pos ⟨hNe, hNl⟩, if_pos h25]; done) | (rw [mpN, if_pos ⟨hNe, hNl⟩, if_neg h25]; done))
            have hl : lv_has ls 11 [(0, .ref (ad 0)), (1, .int w), (2, .int x2), (3, .int (nI p2.toNatClampNeg)), (4, .int x3), (5, .int (nI (maN μ w x2 (p2.toNatClampNeg) s))), (6, .int (nI (mbN μ w (p2.toNatClampNeg) s))), (7, .int (nI s)), (8, .int (nI (mpN μ w (p2.toNatClampNeg) s (y + 1)))), (9, .int (nI (y + 1)))] := lv_sub hl [1, 2, 3, 4, 5, 6, 7, 8, 0, 9] rfl
            exact ih95 (y + 1) (by omega) (by omega) H _ hP hD hS ls hl
          have hyq : y = nM μ := by omega
          subst hyq
          refine lv_iload hx hb dX8_odds_167 (lv_at hl 6 rfl) ?_
          refine lv_iload hx hb dX8_odds_169 (lv_at hl 8 rfl) ?_
          refine lv_iadd hx hb dX8_odds_171 ?_
          refine wk_eqi (nI_add (mbN μ w (p2.toNatClampNeg) s) (mpN μ w (p2.toNatClampNeg) s (nM μ))) ?_
          refine lv_istore (lv' := [(6, .int (nI ((mbN μ w (p2.toNatClampNeg) s) + (mpN μ w (p2.toNatClampNeg) s (nM μ))))), (0, .ref (ad 0)), (1, .int w), (2, .int x2), (3, .int (nI p2.toNatClampNeg)), (4, .int x3), (5, .int (nI (maN μ w x2 (p2.toNatClampNeg) s))), (7, .int (nI s)), (8, .int (nI (mpN μ w (p2.toNatClampNeg) s (nM μ)))), (9, .int (nI (nM μ)))]) hx hb dX8_odds_172 hl (by decide) rfl (fun ls hl => ?_)
          refine lv_iload hx hb dX8_odds_174 (lv_at hl 6 rfl) ?_
          refine lv_aload_n hx hb dX8_odds_176 rfl (lv_at hl 1 rfl) ?_
          refine lv_iload_n hx hb dX8_odds_177 rfl (lv_at hl 2 rfl) ?_
          refine lv_iload_n hx hb dX8_odds_178 rfl (lv_at hl 3 rfl) ?_
          refine lv_aload_n hx hb dX8_odds_179 rfl (lv_at hl 1 rfl) ?_
          refine wg_X8_8 hx hb hts iX8 hown hK hP 0 rfl k3 (v := .ref (ad 8)) rfl dX8_odds_180 ?_
          refine lv_iconst (v := 2) hx hb dX8_odds_183 (by decide) ?_
          refine wk_ald (f := (moS μ w x2 s) 8) hx hb hK hP 4 0 rfl rfl 2 rfl (by omega) (by decide) dX8_odds_184 ?_
          refine wk_eqi (y := μ 8 2) (by rw [moS_of μ w x2 (by decide)]) ?_
          refine lv_iload hx hb dX8_odds_185 (lv_at hl 7 rfl) ?_
          refine lv_ior hx hb dX8_odds_187 ?_
          refine wk_callUV (As := [.int w, .int x2, .int ((μ 8 2) ||| (nI s))]) (rest := [.int (nI (maN μ w x2 (p2.toNatClampNeg) s))]) ⟨hx, hb, hml, hown, hts⟩ (c_X8_letters l D c ad (moS μ w x2 s) r w x2 ((μ 8 2) ||| (nI s)) (moS_G hG w x2 s) (sM_ix h2)) (cwV 3 hts gX8_odds_X8_letters rfl rfl rfl hd_X8_letters ⟨Nat.le_of_ble_eq_true rfl, Nat.le_of_ble_eq_true rfl⟩) hK hP hD hS hA [0, 1, 2, 3, 4, 5, 6, 7, 8] [] 9 rfl rfl [ad 0, ad 100, ad 6, ad 7, ad 8, ad 9, ad 12, ad 15, ad 17] rfl rfl (ws' := modelW c ad (mlF (moS μ w x2 s) w x2 ((μ 8 2) ||| (nI s))) r) rfl (wr := []) rfl rfl rfl rfl 0 rfl rfl rfl hl.1 rfl (Nat.le_of_ble_eq_true rfl) dX8_odds_188 (Nat.zero_le _) (Nat.zero_le _) (fun H locs hP hD hS => ?_)
          refine lv_topi (fun v ev => ?_)
          have eg17 : mlF (moS μ w x2 s) w x2 ((μ 8 2) ||| (nI s)) = moS μ w x2 (s + 1) := by rw [moS, if_pos hAa]
          have hP : va_P D vwCl (modelW c ad (moS μ w x2 (s + 1)) r) H := by rw [← eg17]; exact hP
          have hD : va_D A (modelW c ad (moS μ w x2 (s + 1)) r) := by rw [← eg17]; exact hD
          refine lv_bipush (v := -9) hx hb dX8_odds_191 (by decide) ?_
          refine lv_icmp_eq (tgt := 209) hx hb dX8_odds_193 (by decide) (fun h18 => ?_) (fun h18 => ?_)
          · refine lv_iconst (v := 0) hx hb dX8_odds_209 (by decide) ?_
            refine lv_iadd hx hb dX8_odds_210 ?_
            refine wk_eqi (nI_add (maN μ w x2 (p2.toNatClampNeg) s) 0) ?_
            refine lv_istore (lv' := [(5, .int (nI ((maN μ w x2 (p2.toNatClampNeg) s) + 0))), (6, .int (nI ((mbN μ w (p2.toNatClampNeg) s) + (mpN μ w (p2.toNatClampNeg) s (nM μ))))), (0, .ref (ad 0)), (1, .int w), (2, .int x2), (3, .int (nI p2.toNatClampNeg)), (4, .int x3), (7, .int (nI s)), (8, .int (nI (mpN μ w (p2.toNatClampNeg) s (nM μ)))), (9, .int (nI (nM μ)))]) hx hb dX8_odds_211 hl (by decide) rfl (fun ls hl => ?_)
            refine lv_iinc (v := nI (s + 1)) (lv' := [(7, .int (nI (s + 1))), (5, .int (nI ((maN μ w x2 (p2.toNatClampNeg) s) + 0))), (6, .int (nI ((mbN μ w (p2.toNatClampNeg) s) + (mpN μ w (p2.toNatClampNeg) s (nM μ))))), (0, .ref (ad 0)), (1, .int w), (2, .int x2), (3, .int (nI p2.toNatClampNeg)), (4, .int x3), (8, .int (nI (mpN μ w (p2.toNatClampNeg) s (nM μ)))), (9, .int (nI (nM μ)))]) hx hb dX8_odds_213 hl (k := 7) rfl (nI_inc s 1) (by decide) rfl (fun ls hl => ?_)
            refine lv_goto (tgt := 60) hx hb dX8_odds_216 (by decide) ?_
            have hl : lv_has ls 11 [(0, .ref (ad 0)), (1, .int w), (2, .int x2), (3, .int (nI p2.toNatClampNeg)), (4, .int x3), (5, .int (nI ((maN μ w x2 (p2.toNatClampNeg) s) + 0))), (6, .int (nI ((mbN μ w (p2.toNatClampNeg) s) + (mpN μ w (p2.toNatClampNeg) s (nM μ))))), (7, .int (nI (s + 1)))] := lv_sub hl [3, 4, 5, 6, 7, 1, 2, 0] rfl
            have hl := wk_lset (y := nI (maN μ w x2 (p2.toNatClampNeg) (s + 1))) (lv_sub (l' := [(5, .int (nI ((maN μ w x2 (p2.toNatClampNeg) s) + 0))), (0, .ref (ad 0)), (1, .int w), (2, .int x2), (3, .int (nI p2.toNatClampNeg)), (4, .int x3), (6, .int (nI ((mbN μ w (p2.toNatClampNeg) s) + (mpN μ w (p2.toNatClampNeg) s (nM μ))))), (7, .int (nI (s + 1)))]) hl [5, 0, 1, 2, 3, 4, 6, 7] rfl) (by first | rfl | exact hp0.1 | (rw [mbN, if_pos hAa]; done) | (rw [maN, if_pos hAa, if_pos ⟨hv9, h18⟩]; done) | (rw [maN, if_pos hAa, if_neg (fun z => h18 z.2), Nat.add_zero]; done) | (rw [maN, if_pos hAa, if_neg (fun z => z.1 (ev.symm.trans h18)), Nat.add_zero]; done) | (rw [maN, if_neg h18]; done) | (rw [mbN, if_neg h18]; done))
            have hl : lv_has ls 11 [(0, .ref (ad 0)), (1, .int w), (2, .int x2), (3, .int (nI p2.toNatClampNeg)), (4, .int x3), (5, .int (nI (maN μ w x2 (p2.toNatClampNeg) (s + 1)))), (6, .int (nI ((mbN μ w (p2.toNatClampNeg) s) + (mpN μ w (p2.toNatClampNeg) s (nM μ))))), (7, .int (nI (s + 1)))] := lv_sub hl [1, 2, 3, 4, 5, 0, 6, 7] rfl
            have hl := wk_lset (y := nI (mbN μ w (p2.toNatClampNeg) (s + 1))) (lv_sub (l' := [(6, .int (nI ((mbN μ w (p2.toNatClampNeg) s) + (mpN μ w (p2.toNatClampNeg) s (nM μ))))), (0, .ref (ad 0)), (1, .int w), (2, .int x2), (3, .int (nI p2.toNatClampNeg)), (4, .int x3), (5, .int (nI (maN μ w x2 (p2.toNatClampNeg) (s + 1)))), (7, .int (nI (s + 1)))]) hl [6, 0, 1, 2, 3, 4, 5, 7] rfl) (by first | rfl | exact hp0.1 | (rw [mbN, if_pos hAa]; done) | (rw [maN, if_pos hAa, if_pos ⟨hv9, h18⟩]; done) | (rw [maN, if_pos hAa, if_neg (fun z => h18 z.2), Nat.add_zero]; done) | (rw [maN, if_pos hAa, if_neg (fun z => z.1 (ev.symm.trans h18)), Nat.add_zero]; done) | (rw [maN, if_neg h18]; done) | (rw [mbN, if_neg h18]; done))
            have hl : lv_has ls 11 [(0, .ref (ad 0)), (1, .int w), (2, .int x2), (3, .int (nI p2.toNatClampNeg)), (4, .int x3), (5, .int (nI (maN μ w x2 (p2.toNatClampNeg) (s + 1)))), (6, .int (nI (mbN μ w (p2.toNatClampNeg) (s + 1)))), (7, .int (nI (s + 1)))] := lv_sub hl [1, 2, 3, 4, 5, 6, 0, 7] rfl
            exact ih60 (s + 1) (by omega) (by omega) H _ hP hD hS ls hl
          have hv9 : ¬ mlV (moS μ w x2 s) w x2 (μ 8 2 ||| nI s) = -9 := fun e => h18 (ev.trans e)
          refine lv_aload_n hx hb dX8_odds_196 rfl (lv_at hl 1 rfl) ?_
          refine wg_X8_13 hx hb hts iX8 hown hK hP 0 rfl k4 (v := .int ((moS μ w x2 (s + 1)) 13 0)) rfl dX8_odds_197 ?_
          refine lv_iload_n hx hb dX8_odds_200 rfl (lv_at hl 2 rfl) ?_
          refine lv_icmp_ne (tgt := 209) hx hb dX8_odds_201 (by decide) (fun h19 => ?_) (fun h19 => ?_)
          · refine lv_iconst (v := 0) hx hb dX8_odds_209 (by decide) ?_
            refine lv_iadd hx hb dX8_odds_210 ?_
            refine wk_eqi (nI_add (maN μ w x2 (p2.toNatClampNeg) s) 0) ?_
            refine lv_istore (lv' := [(5, .int (nI ((maN μ w x2 (p2.toNatClampNeg) s) + 0))), (6, .int (nI ((mbN μ w (p2.toNatClampNeg) s) + (mpN μ w (p2.toNatClampNeg) s (nM μ))))), (0, .ref (ad 0)), (1, .int w), (2, .int x2), (3, .int (nI p2.toNatClampNeg)), (4, .int x3), (7, .int (nI s)), (8, .int (nI (mpN μ w (p2.toNatClampNeg) s (nM μ)))), (9, .int (nI (nM μ)))]) hx hb dX8_odds_211 hl (by decide) rfl (fun ls hl => ?_)
            refine lv_iinc (v := nI (s + 1)) (lv' := [(7, .int (nI (s + 1))), (5, .int (nI ((maN μ w x2 (p2.toNatClampNeg) s) + 0))), (6, .int (nI ((mbN μ w (p2.toNatClampNeg) s) + (mpN μ w (p2.toNatClampNeg) s (nM μ))))), (0, .ref (ad 0)), (1, .int w), (2, .int x2), (3, .int (nI p2.toNatClampNeg)), (4, .int x3), (8, .int (nI (mpN μ w (p2.toNatClampNeg) s (nM μ)))), (9, .int (nI (nM μ)))]) hx hb dX8_odds_213 hl (k := 7) rfl (nI_inc s 1) (by decide) rfl (fun ls hl => ?_)
            refine lv_goto (tgt := 60) hx hb dX8_odds_216 (by decide) ?_
            have hl : lv_has ls 11 [(0, .ref (ad 0)), (1, .int w), (2, .int x2), (3, .int (nI p2.toNatClampNeg)), (4, .int x3), (5, .int (nI ((maN μ w x2 (p2.toNatClampNeg) s) + 0))), (6, .int (nI ((mbN μ w (p2.toNatClampNeg) s) + (mpN μ w (p2.toNatClampNeg) s (nM μ))))), (7, .int (nI (s + 1)))] := lv_sub hl [3, 4, 5, 6, 7, 1, 2, 0] rfl
            have hl := wk_lset (y := nI (maN μ w x2 (p2.toNatClampNeg) (s + 1))) (lv_sub (l' := [(5, .int (nI ((maN μ w x2 (p2.toNatClampNeg) s) + 0))), (0, .ref (ad 0)), (1, .int w), (2, .int x2), (3, .int (nI p2.toNatClampNeg)), (4, .int x3), (6, .int (nI ((mbN μ w (p2.toNatClampNeg) s) + (mpN μ w (p2.toNatClampNeg) s (nM μ))))), (7, .int (nI (s + 1)))]) hl [5, 0, 1, 2, 3, 4, 6, 7] rfl) (by first | rfl | exact hp0.1 | (rw [mbN, if_pos hAa]; done) | (rw [maN, if_pos hAa, if_pos ⟨hv9, h19⟩]; done) | (rw [maN, if_pos hAa, if_neg (fun z => h19 z.2), Nat.add_zero]; done) | (rw [maN, if_pos hAa, if_neg (fun z => z.1 (ev.symm.trans h19)), Nat.add_zero]; done) | (rw [maN, if_neg h19]; done) | (rw [mbN, if_neg h19]; done))
            have hl : lv_has ls 11 [(0, .ref (ad 0)), (1, .int w), (2, .int x2), (3, .int (nI p2.toNatClampNeg)), (4, .int x3), (5, .int (nI (maN μ w x2 (p2.toNatClampNeg) (s + 1)))), (6, .int (nI ((mbN μ w (p2.toNatClampNeg) s) + (mpN μ w (p2.toNatClampNeg) s (nM μ))))), (7, .int (nI (s + 1)))] := lv_sub hl [1, 2, 3, 4, 5, 0, 6, 7] rfl
            have hl := wk_lset (y := nI (mbN μ w (p2.toNatClampNeg) (s + 1))) (lv_sub (l' := [(6, .int (nI ((mbN μ w (p2.toNatClampNeg) s) + (mpN μ w (p2.toNatClampNeg) s (nM μ))))), (0, .ref (ad 0)), (1, .int w), (2, .int x2), (3, .int (nI p2.toNatClampNeg)), (4, .int x3), (5, .int (nI (maN μ w x2 (p2.toNatClampNeg) (s + 1)))), (7, .int (nI (s + 1)))]) hl [6, 0, 1, 2, 3, 4, 5, 7] rfl) (by first | rfl | exact hp0.1 | (rw [mbN, if_pos hAa]; done) | (rw [maN, if_pos hAa, if_pos ⟨hv9, h19⟩]; done) | (rw [maN, if_pos hAa, if_neg (fun z => h19 z.2), Nat.add_zero]; done) | (rw [maN, if_pos hAa, if_neg (fun z => z.1 (ev.symm.trans h19)), Nat.add_zero]; done) | (rw [maN, if_neg h19]; done) | (rw [mbN, if_neg h19]; done))
            have hl : lv_has ls 11 [(0, .ref (ad 0)), (1, .int w), (2, .int x2), (3, .int (nI p2.toNatClampNeg)), (4, .int x3), (5, .int (nI (maN μ w x2 (p2.toNatClampNeg) (s + 1)))), (6, .int (nI (mbN μ w (p2.toNatClampNeg) (s + 1)))), (7, .int (nI (s + 1)))] := lv_sub hl [1, 2, 3, 4, 5, 6, 0, 7] rfl
            exact ih60 (s + 1) (by omega) (by omega) H _ hP hD hS ls hl
          refine lv_iload hx hb dX8_odds_204 (lv_at hl 8 rfl) ?_
          refine lv_goto (tgt := 210) hx hb dX8_odds_206 (by decide) ?_
          refine lv_iadd hx hb dX8_odds_210 ?_
          refine wk_eqi (nI_add (maN μ w x2 (p2.toNatClampNeg) s) (mpN μ w (p2.toNatClampNeg) s (nM μ))) ?_
          refine lv_istore (lv' := [(5, .int (nI ((maN μ w x2 (p2.toNatClampNeg) s) + (mpN μ w (p2.toNatClampNeg) s (nM μ))))), (6, .int (nI ((mbN μ w (p2.toNatClampNeg) s) + (mpN μ w (p2.toNatClampNeg) s (nM μ))))), (0, .ref (ad 0)), (1, .int w), (2, .int x2), (3, .int (nI p2.toNatClampNeg)), (4, .int x3), (7, .int (nI s)), (8, .int (nI (mpN μ w (p2.toNatClampNeg) s (nM μ)))), (9, .int (nI (nM μ)))]) hx hb dX8_odds_211 hl (by decide) rfl (fun ls hl => ?_)
          refine lv_iinc (v := nI (s + 1)) (lv' := [(7, .int (nI (s + 1))), (5, .int (nI ((maN μ w x2 (p2.toNatClampNeg) s) + (mpN μ w (p2.toNatClampNeg) s (nM μ))))), (6, .int (nI ((mbN μ w (p2.toNatClampNeg) s) + (mpN μ w (p2.toNatClampNeg) s (nM μ))))), (0, .ref (ad 0)), (1, .int w), (2, .int x2), (3, .int (nI p2.toNatClampNeg)), (4, .int x3), (8, .int (nI (mpN μ w (p2.toNatClampNeg) s (nM μ)))), (9, .int (nI (nM μ)))]) hx hb dX8_odds_213 hl (k := 7) rfl (nI_inc s 1) (by decide) rfl (fun ls hl => ?_)
          refine lv_goto (tgt := 60) hx hb dX8_odds_216 (by decide) ?_
          have hl : lv_has ls 11 [(0, .ref (ad 0)), (1, .int w), (2, .int x2), (3, .int (nI p2.toNatClampNeg)), (4, .int x3), (5, .int (nI ((maN μ w x2 (p2.toNatClampNeg) s) + (mpN μ w (p2.toNatClampNeg) s (nM μ))))), (6, .int (nI ((mbN μ w (p2.toNatClampNeg) s) + (mpN μ w (p2.toNatClampNeg) s (nM μ))))), (7, .int (nI (s + 1)))] := lv_sub hl [3, 4, 5, 6, 7, 1, 2, 0] rfl
          have hl := wk_lset (y := nI (maN μ w x2 (p2.toNatClampNeg) (s + 1))) (lv_sub (l' := [(5, .int (nI ((maN μ w x2 (p2.toNatClampNeg) s) + (mpN μ w (p2.toNatClampNeg) s (nM μ))))), (0, .ref (ad 0)), (1, .int w), (2, .int x2), (3, .int (nI p2.toNatClampNeg)), (4, .int x3), (6, .int (nI ((mbN μ w (p2.toNatClampNeg) s) + (mpN μ w (p2.toNatClampNeg) s (nM μ))))), (7, .int (nI (s + 1)))]) hl [5, 0, 1, 2, 3, 4, 6, 7] rfl) (by first | rfl | exact hp0.1 | (rw [mbN, if_pos hAa]; done) | (rw [maN, if_pos hAa, if_pos ⟨hv9, h19⟩]; done) | (rw [maN, if_pos hAa, if_neg (fun z => h19 z.2), Nat.add_zero]; done) | (rw [maN, if_pos hAa, if_neg (fun z => z.1 (ev.symm.trans h19)), Nat.add_zero]; done) | (rw [maN, if_neg h19]; done) | (rw [mbN, if_neg h19]; done))
          have hl : lv_has ls 11 [(0, .ref (ad 0)), (1, .int w), (2, .int x2), (3, .int (nI p2.toNatClampNeg)), (4, .int x3), (5, .int (nI (maN μ w x2 (p2.toNatClampNeg) (s + 1)))), (6, .int (nI ((mbN μ w (p2.toNatClampNeg) s) + (mpN μ w (p2.toNatClampNeg) s (nM μ))))), (7, .int (nI (s + 1)))] := lv_sub hl [1, 2, 3, 4, 5, 0, 6, 7] rfl
          have hl := wk_lset (y := nI (mbN μ w (p2.toNatClampNeg) (s + 1))) (lv_sub (l' := [(6, .int (nI ((mbN μ w (p2.toNatClampNeg) s) + (mpN μ w (p2.toNatClampNeg) s (nM μ))))), (0, .ref (ad 0)), (1, .int w), (2, .int x2), (3, .int (nI p2.toNatClampNeg)), (4, .int x3), (5, .int (nI (maN μ w x2 (p2.toNatClampNeg) (s + 1)))), (7, .int (nI (s + 1)))]) hl [6, 0, 1, 2, 3, 4, 5, 7] rfl) (by first | rfl | exact hp0.1 | (rw [mbN, if_pos hAa]; done) | (rw [maN, if_pos hAa, if_pos ⟨hv9, h19⟩]; done) | (rw [maN, if_pos hAa, if_neg (fun z => h19 z.2), Nat.add_zero]; done) | (rw [maN, if_pos hAa, if_neg (fun z => z.1 (ev.symm.trans h19)), Nat.add_zero]; done) | (rw [maN, if_neg h19]; done) | (rw [mbN, if_neg h19]; done))
          have hl : lv_has ls 11 [(0, .ref (ad 0)), (1, .int w), (2, .int x2), (3, .int (nI p2.toNatClampNeg)), (4, .int x3), (5, .int (nI (maN μ w x2 (p2.toNatClampNeg) (s + 1)))), (6, .int (nI (mbN μ w (p2.toNatClampNeg) (s + 1)))), (7, .int (nI (s + 1)))] := lv_sub hl [1, 2, 3, 4, 5, 6, 0, 7] rfl
          exact ih60 (s + 1) (by omega) (by omega) H _ hP hD hS ls hl
      have hl : lv_has ls 11 [(0, .ref (ad 0)), (1, .int w), (2, .int x2), (3, .int (nI p2.toNatClampNeg)), (4, .int x3), (5, .int (nI (maN μ w x2 (p2.toNatClampNeg) s))), (6, .int (nI (mbN μ w (p2.toNatClampNeg) s))), (7, .int (nI s)), (8, .int 1), (9, .int 0)] := lv_sub hl [2, 3, 4, 5, 6, 7, 8, 9, 1, 0] rfl
      have hl := wk_lset (y := nI (mpN μ w (p2.toNatClampNeg) s 0)) (lv_sub (l' := [(8, .int 1), (0, .ref (ad 0)), (1, .int w), (2, .int x2), (3, .int (nI p2.toNatClampNeg)), (4, .int x3), (5, .int (nI (maN μ w x2 (p2.toNatClampNeg) s))), (6, .int (nI (mbN μ w (p2.toNatClampNeg) s))), (7, .int (nI s)), (9, .int 0)]) hl [8, 0, 1, 2, 3, 4, 5, 6, 7, 9] rfl) (by first | rfl | (rw [mpN, if_neg (fun z => z.1 h14)]; done) | (rw [mpN, if_neg (fun z => z.2 h14)]; done) | (rw [mpN, if_pos ⟨hNe, hNl⟩, if_pos h14]; done) | (rw [mpN, if_pos ⟨hNe, hNl⟩, if_neg h14]; done))
      have hl : lv_has ls 11 [(0, .ref (ad 0)), (1, .int w), (2, .int x2), (3, .int (nI p2.toNatClampNeg)), (4, .int x3), (5, .int (nI (maN μ w x2 (p2.toNatClampNeg) s))), (6, .int (nI (mbN μ w (p2.toNatClampNeg) s))), (7, .int (nI s)), (8, .int (nI (mpN μ w (p2.toNatClampNeg) s 0))), (9, .int 0)] := lv_sub hl [1, 2, 3, 4, 5, 6, 7, 8, 0, 9] rfl
      have hl := wk_lset (y := nI 0) (lv_sub (l' := [(9, .int 0), (0, .ref (ad 0)), (1, .int w), (2, .int x2), (3, .int (nI p2.toNatClampNeg)), (4, .int x3), (5, .int (nI (maN μ w x2 (p2.toNatClampNeg) s))), (6, .int (nI (mbN μ w (p2.toNatClampNeg) s))), (7, .int (nI s)), (8, .int (nI (mpN μ w (p2.toNatClampNeg) s 0)))]) hl [9, 0, 1, 2, 3, 4, 5, 6, 7, 8] rfl) (by first | rfl | (rw [mpN, if_neg (fun z => z.1 h14)]; done) | (rw [mpN, if_neg (fun z => z.2 h14)]; done) | (rw [mpN, if_pos ⟨hNe, hNl⟩, if_pos h14]; done) | (rw [mpN, if_pos ⟨hNe, hNl⟩, if_neg h14]; done))
      have hl : lv_has ls 11 [(0, .ref (ad 0)), (1, .int w), (2, .int x2), (3, .int (nI p2.toNatClampNeg)), (4, .int x3), (5, .int (nI (maN μ w x2 (p2.toNatClampNeg) s))), (6, .int (nI (mbN μ w (p2.toNatClampNeg) s))), (7, .int (nI s)), (8, .int (nI (mpN μ w (p2.toNatClampNeg) s 0))), (9, .int (nI 0))] := lv_sub hl [1, 2, 3, 4, 5, 6, 7, 8, 9, 0] rfl
      exact lp95 _ 0 (by omega) (Nat.lt_succ_self _) H _ hP hD hS ls hl
  have eg26 : μ = moS μ w x2 0 := by first | rfl | (rw [moS, if_neg h5]; done)
  have hP : va_P D vwCl (modelW c ad (moS μ w x2 0) r) H := by rw [← eg26]; exact hP
  have hD : va_D A (modelW c ad (moS μ w x2 0) r) := by rw [← eg26]; exact hD
  have hl : lv_has ls 11 [(0, .ref (ad 0)), (1, .int w), (2, .int x2), (3, .int p2), (4, .int x3), (5, .int 0), (6, .int 0), (7, .int 0)] := lv_sub hl [3, 4, 5, 6, 7, 2, 1, 0] rfl
  have hl := wk_lset (y := nI p2.toNatClampNeg) (lv_sub (l' := [(3, .int p2), (0, .ref (ad 0)), (1, .int w), (2, .int x2), (4, .int x3), (5, .int 0), (6, .int 0), (7, .int 0)]) hl [3, 0, 1, 2, 4, 5, 6, 7] rfl) (by first | rfl | exact hp0.1 | (rw [mbN, if_pos hAa]; done) | (rw [maN, if_pos hAa, if_pos ⟨hv9, h5⟩]; done) | (rw [maN, if_pos hAa, if_neg (fun z => h5 z.2), Nat.add_zero]; done) | (rw [maN, if_pos hAa, if_neg (fun z => z.1 (ev.symm.trans h5)), Nat.add_zero]; done) | (rw [maN, if_neg h5]; done) | (rw [mbN, if_neg h5]; done))
  have hl : lv_has ls 11 [(0, .ref (ad 0)), (1, .int w), (2, .int x2), (3, .int (nI p2.toNatClampNeg)), (4, .int x3), (5, .int 0), (6, .int 0), (7, .int 0)] := lv_sub hl [1, 2, 3, 0, 4, 5, 6, 7] rfl
  have hl := wk_lset (y := nI (maN μ w x2 (p2.toNatClampNeg) 0)) (lv_sub (l' := [(5, .int 0), (0, .ref (ad 0)), (1, .int w), (2, .int x2), (3, .int (nI p2.toNatClampNeg)), (4, .int x3), (6, .int 0), (7, .int 0)]) hl [5, 0, 1, 2, 3, 4, 6, 7] rfl) (by first | rfl | exact hp0.1 | (rw [mbN, if_pos hAa]; done) | (rw [maN, if_pos hAa, if_pos ⟨hv9, h5⟩]; done) | (rw [maN, if_pos hAa, if_neg (fun z => h5 z.2), Nat.add_zero]; done) | (rw [maN, if_pos hAa, if_neg (fun z => z.1 (ev.symm.trans h5)), Nat.add_zero]; done) | (rw [maN, if_neg h5]; done) | (rw [mbN, if_neg h5]; done))
  have hl : lv_has ls 11 [(0, .ref (ad 0)), (1, .int w), (2, .int x2), (3, .int (nI p2.toNatClampNeg)), (4, .int x3), (5, .int (nI (maN μ w x2 (p2.toNatClampNeg) 0))), (6, .int 0), (7, .int 0)] := lv_sub hl [1, 2, 3, 4, 5, 0, 6, 7] rfl
  have hl := wk_lset (y := nI (mbN μ w (p2.toNatClampNeg) 0)) (lv_sub (l' := [(6, .int 0), (0, .ref (ad 0)), (1, .int w), (2, .int x2), (3, .int (nI p2.toNatClampNeg)), (4, .int x3), (5, .int (nI (maN μ w x2 (p2.toNatClampNeg) 0))), (7, .int 0)]) hl [6, 0, 1, 2, 3, 4, 5, 7] rfl) (by first | rfl | exact hp0.1 | (rw [mbN, if_pos hAa]; done) | (rw [maN, if_pos hAa, if_pos ⟨hv9, h5⟩]; done) | (rw [maN, if_pos hAa, if_neg (fun z => h5 z.2), Nat.add_zero]; done) | (rw [maN, if_pos hAa, if_neg (fun z => z.1 (ev.symm.trans h5)), Nat.add_zero]; done) | (rw [maN, if_neg h5]; done) | (rw [mbN, if_neg h5]; done))
  have hl : lv_has ls 11 [(0, .ref (ad 0)), (1, .int w), (2, .int x2), (3, .int (nI p2.toNatClampNeg)), (4, .int x3), (5, .int (nI (maN μ w x2 (p2.toNatClampNeg) 0))), (6, .int (nI (mbN μ w (p2.toNatClampNeg) 0))), (7, .int 0)] := lv_sub hl [1, 2, 3, 4, 5, 6, 0, 7] rfl
  have hl := wk_lset (y := nI 0) (lv_sub (l' := [(7, .int 0), (0, .ref (ad 0)), (1, .int w), (2, .int x2), (3, .int (nI p2.toNatClampNeg)), (4, .int x3), (5, .int (nI (maN μ w x2 (p2.toNatClampNeg) 0))), (6, .int (nI (mbN μ w (p2.toNatClampNeg) 0)))]) hl [7, 0, 1, 2, 3, 4, 5, 6] rfl) (by first | rfl | exact hp0.1 | (rw [mbN, if_pos hAa]; done) | (rw [maN, if_pos hAa, if_pos ⟨hv9, h5⟩]; done) | (rw [maN, if_pos hAa, if_neg (fun z => h5 z.2), Nat.add_zero]; done) | (rw [maN, if_pos hAa, if_neg (fun z => z.1 (ev.symm.trans h5)), Nat.add_zero]; done) | (rw [maN, if_neg h5]; done) | (rw [mbN, if_neg h5]; done))
  have hl : lv_has ls 11 [(0, .ref (ad 0)), (1, .int w), (2, .int x2), (3, .int (nI p2.toNatClampNeg)), (4, .int x3), (5, .int (nI (maN μ w x2 (p2.toNatClampNeg) 0))), (6, .int (nI (mbN μ w (p2.toNatClampNeg) 0))), (7, .int (nI 0))] := lv_sub hl [1, 2, 3, 4, 5, 6, 7, 0] rfl
  exact lp60 _ 0 (Nat.zero_le _) (Nat.lt_succ_self _) H _ hP hD hS ls hl

abbrev rmX0_firstNewlyLate : Room := { frames := 1, cells := 0, slots := 0, locals := 22 }
theorem hd_X0_firstNewlyLate : yX0_firstNewlyLate.cls = RX0 ∧ yX0_firstNewlyLate.cls ≠ "java/lang/invoke/MethodHandle" ∧ yX0_firstNewlyLate.cls ≠ "java/lang/invoke/VarHandle" ∧ (parseMethodDescriptor yX0_firstNewlyLate.desc).map (fun d => d.parameters.length) = some 1 := by decide +kernel
set_option maxHeartbeats 4000000 in
set_option maxRecDepth 100000 in
theorem c_X0_firstNewlyLate (l : Launch) (D : va_G) (c : Nat → ClassId) (a : Nat → Nat) (σ : Nat → Nat → Int32) (term : Int32) (hq : wfQ σ) : wk_RdI l yX0_firstNewlyLate wsX0_firstNewlyLate rmX0_firstNewlyLate D (tysL c) [.ref (a 0), .int term] (affW c a σ) (fnL σ term (nQ σ) 0) := by
  refine wk_mkR (cc := cX0_firstNewlyLate) (maxL := 3) (rt := .int) (by decide) rfl (Nat.le_of_ble_eq_true rfl) rfl ?_
  intro pr ev ss mm args below meth cd ls H Q hst hP hK hl ret
  obtain ⟨hx, hb, hml, hown, hts, -⟩ := hst
  have hown : ss.vm.findClass RX0 = some mm.cls := hown
  have hl : lv_has ls 3 [(0, .ref (a 0)), (1, .int term)] := hl
  have k1 := hts (.fieldLink RX0 40 "LastWord$Affairs" "quarrels" "I") (List.mem_of_getElem? (i := 1) rfl)
  have k2 := hts (.fieldLink RX0 24 "LastWord$Affairs" "owes" "[I") (List.mem_of_getElem? (i := 2) rfl)
  have iX0 : ∀ w ∈ u_ws RX0 TX0 11, w ∈ wsX0_firstNewlyLate := fun _ h => (List.mem_cons_of_mem _ (List.mem_append_right _ h))
  have hq6 := hq.2
  refine lv_iconst (v := 0) hx hb dX0_firstNewlyLate_0 (by decide) ?_
  refine lv_istore_n (lv' := [(2, .int 0), (0, .ref (a 0)), (1, .int term)]) hx hb dX0_firstNewlyLate_1 rfl hl (by decide) rfl (fun ls hl => ?_)
  have lp2 : ∀ (n : Nat) (i : Nat), (i ≤ nQ σ) → (fnL σ term (nQ σ - i) i = fnL σ term (nQ σ) 0) → nQ σ - i < n → ∀ ls : Array Slot, lv_has ls 3 [(0, .ref (a 0)), (1, .int term), (2, .int (nI i))] → W pr l ev rmX0_firstNewlyLate ss mm args below meth cd H [] 0 0 Q (F0 mm 2 ls []) := by
    intro n
    induction n with
    | zero => intro i hi hv hn; exact absurd hn (Nat.not_lt_zero _)
    | succ n ih =>
      intro i hi hv hn ls hl
      refine lv_iload_n hx hb dX0_firstNewlyLate_2 rfl (lv_at hl 2 rfl) ?_
      refine lv_aload_n hx hb dX0_firstNewlyLate_3 rfl (lv_at hl 0 rfl) ?_
      refine wg_X0_2 hx hb hts iX0 hown hK hP 0 rfl k1 rfl dX0_firstNewlyLate_4 ?_
      refine wk_eqi (hq.1) ?_
      refine wk_ge (tgt := 38) hx hb i (nQ σ) rfl rfl (by omega) (by omega) dX0_firstNewlyLate_7 (by decide) (fun h1 => ?_) (fun h1 => ?_)
      · refine lv_bipush (v := -9) hx hb dX0_firstNewlyLate_38 (by decide) ?_
        exact ret 40 ls ((-9)) (by rw [← hv, show nQ σ - i = 0 by omega]; rfl) dX0_firstNewlyLate_40
      refine lv_aload_n hx hb dX0_firstNewlyLate_10 rfl (lv_at hl 0 rfl) ?_
      refine wg_X0_8 hx hb hts iX0 hown hK hP 0 rfl k2 rfl dX0_firstNewlyLate_11 ?_
      refine lv_iload_n hx hb dX0_firstNewlyLate_14 rfl (lv_at hl 2 rfl) ?_
      refine wk_ald hx hb hK hP 5 0 rfl rfl i rfl (by omega) (by decide) dX0_firstNewlyLate_15 ?_
      refine lv_bipush (v := -9) hx hb dX0_firstNewlyLate_16 (by decide) ?_
      refine lv_icmp_eq (tgt := 32) hx hb dX0_firstNewlyLate_18 (by decide) (fun h2 => ?_) (fun h2 => ?_)
      · refine lv_iinc (v := nI (i + 1)) (lv' := [(2, .int (nI (i + 1))), (0, .ref (a 0)), (1, .int term)]) hx hb dX0_firstNewlyLate_32 hl (k := 2) rfl (nI_inc i 1) (by decide) rfl (fun ls hl => ?_)
        refine lv_goto (tgt := 2) hx hb dX0_firstNewlyLate_35 (by decide) ?_
        have hl : lv_has ls 3 [(0, .ref (a 0)), (1, .int term), (2, .int (nI (i + 1)))] := lv_sub hl [1, 2, 0] rfl
        exact ih (i + 1) (by omega) (by rw [← hv, show nQ σ - i = (nQ σ - (i + 1)) + 1 by omega, fnL]; simp [h1, h2]) (by omega) ls hl
      refine lv_aload_n hx hb dX0_firstNewlyLate_21 rfl (lv_at hl 0 rfl) ?_
      refine lv_iload_n hx hb dX0_firstNewlyLate_22 rfl (lv_at hl 2 rfl) ?_
      refine lv_iload_n hx hb dX0_firstNewlyLate_23 rfl (lv_at hl 1 rfl) ?_
      refine wk_callRV (As := [.int (nI i), .int term]) (rest := []) ⟨hx, hb, hml, hown, hts⟩ (c_X0_turnsLate l D c a σ i term (by omega)) (cwV 2 hts gX0_firstNewlyLate_X0_turnsLate rfl rfl rfl hd_X0_turnsLate ⟨Nat.le_of_ble_eq_true rfl, Nat.le_of_ble_eq_true rfl⟩) hK hP [0, 1, 2, 3, 4, 5, 6, 7] rfl 0 rfl rfl rfl hl.1 rfl (Nat.le_of_ble_eq_true rfl) dX0_firstNewlyLate_24 (Nat.zero_le _) (Nat.zero_le _) ?_
      refine wk_bz (tgt := 32) hx hb dX0_firstNewlyLate_27 (by decide) (fun h3 => ?_) (fun h3 => ?_)
      rotate_left
      · refine lv_iload_n hx hb dX0_firstNewlyLate_30 rfl (lv_at hl 2 rfl) ?_
        exact ret 31 ls (nI i) (by rw [← hv, show nQ σ - i = (nQ σ - (i + 1)) + 1 by omega, fnL]; simp [h1, h2, h3]) dX0_firstNewlyLate_31
      refine lv_iinc (v := nI (i + 1)) (lv' := [(2, .int (nI (i + 1))), (0, .ref (a 0)), (1, .int term)]) hx hb dX0_firstNewlyLate_32 hl (k := 2) rfl (nI_inc i 1) (by decide) rfl (fun ls hl => ?_)
      refine lv_goto (tgt := 2) hx hb dX0_firstNewlyLate_35 (by decide) ?_
      have hl : lv_has ls 3 [(0, .ref (a 0)), (1, .int term), (2, .int (nI (i + 1)))] := lv_sub hl [1, 2, 0] rfl
      exact ih (i + 1) (by omega) (by rw [← hv, show nQ σ - i = (nQ σ - (i + 1)) + 1 by omega, fnL]; simp [h1, h2, h3]) (by omega) ls hl
  have hl : lv_has ls 3 [(0, .ref (a 0)), (1, .int term), (2, .int 0)] := lv_sub hl [1, 2, 0] rfl
  have hl := wk_lset (y := nI 0) (lv_sub (l' := [(2, .int 0), (0, .ref (a 0)), (1, .int term)]) hl [2, 0, 1] rfl) (by rfl)
  have hl : lv_has ls 3 [(0, .ref (a 0)), (1, .int term), (2, .int (nI 0))] := lv_sub hl [1, 2, 0] rfl
  exact lp2 _ 0 (by omega) (rfl) (Nat.lt_succ_self _) ls hl

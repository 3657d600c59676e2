abbrev rmX0_lastWordsOf : Room := { frames := 0, cells := 0, slots := 0, locals := 0 }
theorem hd_X0_lastWordsOf : yX0_lastWordsOf.cls = RX0 ∧ yX0_lastWordsOf.cls ≠ "java/lang/invoke/MethodHandle" ∧ yX0_lastWordsOf.cls ≠ "java/lang/invoke/VarHandle" ∧ (parseMethodDescriptor yX0_lastWordsOf.desc).map (fun d => d.parameters.length) = some 1 := by decide +kernel
set_option maxHeartbeats 4000000 in
set_option maxRecDepth 100000 in
theorem c_X0_lastWordsOf (l : Launch) (D : va_G) (c : Nat → ClassId) (a : Nat → Nat) (σ : Nat → Nat → Int32) (w : Int32) (hq : wfQ σ) : wk_RdI l yX0_lastWordsOf wsX0_lastWordsOf rmX0_lastWordsOf D (tysL c) [.ref (a 0), .int w] (affW c a σ) (lwL (σ 8) (σ 5) w (nQ σ)) := by
  refine wk_mkR (cc := cX0_lastWordsOf) (maxL := 4) (rt := .int) (by decide) rfl (Nat.le_of_ble_eq_true rfl) rfl ?_
  intro pr ev ss mm args below meth cd ls H Q hst hP hK hl ret
  obtain ⟨hx, hb, hml, hown, hts, -⟩ := hst
  have hown : ss.vm.findClass RX0 = some mm.cls := hown
  have hl : lv_has ls 4 [(0, .ref (a 0)), (1, .int w)] := hl
  have k1 := hts (.fieldLink RX0 40 "LastWord$Affairs" "quarrels" "I") (List.mem_of_getElem? (i := 1) rfl)
  have k2 := hts (.fieldLink RX0 24 "LastWord$Affairs" "owes" "[I") (List.mem_of_getElem? (i := 2) rfl)
  have k3 := hts (.fieldLink RX0 15 "LastWord$Affairs" "author" "[I") (List.mem_of_getElem? (i := 3) rfl)
  have iX0 : ∀ w ∈ u_ws RX0 TX0 11, w ∈ wsX0_lastWordsOf := fun _ h => (List.mem_cons_of_mem _ (List.mem_append_right _ h))
  have hq6 := hq.2
  refine lv_iconst (v := 0) hx hb dX0_lastWordsOf_0 (by decide) ?_
  refine lv_istore_n (lv' := [(2, .int 0), (0, .ref (a 0)), (1, .int w)]) hx hb dX0_lastWordsOf_1 rfl hl (by decide) rfl (fun ls hl => ?_)
  refine lv_iconst (v := 0) hx hb dX0_lastWordsOf_2 (by decide) ?_
  refine lv_istore_n (lv' := [(3, .int 0), (2, .int 0), (0, .ref (a 0)), (1, .int w)]) hx hb dX0_lastWordsOf_3 rfl hl (by decide) rfl (fun ls hl => ?_)
  have lp4 : ∀ (n : Nat) (i : Nat), (i ≤ nQ σ) → nQ σ - i < n → ∀ ls : Array Slot, lv_has ls 4 [(0, .ref (a 0)), (1, .int w), (2, .int (lwL (σ 8) (σ 5) w i)), (3, .int (nI i))] → W pr l ev rmX0_lastWordsOf ss mm args below meth cd H [] 0 0 Q (F0 mm 4 ls []) := by
    intro n
    induction n with
    | zero => intro i hi hn; exact absurd hn (Nat.not_lt_zero _)
    | succ n ih =>
      intro i hi hn ls hl
      refine lv_iload_n hx hb dX0_lastWordsOf_4 rfl (lv_at hl 3 rfl) ?_
      refine lv_aload_n hx hb dX0_lastWordsOf_5 rfl (lv_at hl 0 rfl) ?_
      refine wg_X0_2 hx hb hts iX0 hown hK hP 0 rfl k1 rfl dX0_lastWordsOf_6 ?_
      refine wk_eqi (hq.1) ?_
      refine wk_ge (tgt := 42) hx hb i (nQ σ) rfl rfl (by omega) (by omega) dX0_lastWordsOf_9 (by decide) (fun h1 => ?_) (fun h1 => ?_)
      · refine lv_iload_n hx hb dX0_lastWordsOf_42 rfl (lv_at hl 2 rfl) ?_
        exact ret 43 ls (lwL (σ 8) (σ 5) w i) (by rw [show i = nQ σ by omega]) dX0_lastWordsOf_43
      refine lv_aload_n hx hb dX0_lastWordsOf_12 rfl (lv_at hl 0 rfl) ?_
      refine wg_X0_8 hx hb hts iX0 hown hK hP 0 rfl k2 rfl dX0_lastWordsOf_13 ?_
      refine lv_iload_n hx hb dX0_lastWordsOf_16 rfl (lv_at hl 3 rfl) ?_
      refine wk_ald hx hb hK hP 5 0 rfl rfl i rfl (by omega) (by decide) dX0_lastWordsOf_17 ?_
      refine lv_bipush (v := -9) hx hb dX0_lastWordsOf_18 (by decide) ?_
      refine lv_icmp_ne (tgt := 36) hx hb dX0_lastWordsOf_20 (by decide) (fun h2 => ?_) (fun h2 => ?_)
      · refine lv_iinc (v := nI (i + 1)) (lv' := [(3, .int (nI (i + 1))), (0, .ref (a 0)), (1, .int w), (2, .int (lwL (σ 8) (σ 5) w i))]) hx hb dX0_lastWordsOf_36 hl (k := 3) rfl (nI_inc i 1) (by decide) rfl (fun ls hl => ?_)
        refine lv_goto (tgt := 4) hx hb dX0_lastWordsOf_39 (by decide) ?_
        have hl : lv_has ls 4 [(0, .ref (a 0)), (1, .int w), (2, .int (lwL (σ 8) (σ 5) w i)), (3, .int (nI (i + 1)))] := lv_sub hl [1, 2, 3, 0] rfl
        have hl := wk_lset (y := lwL (σ 8) (σ 5) w (i + 1)) (lv_sub (l' := [(2, .int (lwL (σ 8) (σ 5) w i)), (0, .ref (a 0)), (1, .int w), (3, .int (nI (i + 1)))]) hl [2, 0, 1, 3] rfl) (by first | rfl | (simp [lwL, h1, h2]; done))
        have hl : lv_has ls 4 [(0, .ref (a 0)), (1, .int w), (2, .int (lwL (σ 8) (σ 5) w (i + 1))), (3, .int (nI (i + 1)))] := lv_sub hl [1, 2, 0, 3] rfl
        exact ih (i + 1) (by omega) (by omega) ls hl
      refine lv_aload_n hx hb dX0_lastWordsOf_23 rfl (lv_at hl 0 rfl) ?_
      refine wg_X0_5 hx hb hts iX0 hown hK hP 0 rfl k3 rfl dX0_lastWordsOf_24 ?_
      refine lv_iload_n hx hb dX0_lastWordsOf_27 rfl (lv_at hl 3 rfl) ?_
      refine wk_ald hx hb hK hP 2 0 rfl rfl i rfl (by omega) (by decide) dX0_lastWordsOf_28 ?_
      refine lv_iload_n hx hb dX0_lastWordsOf_29 rfl (lv_at hl 1 rfl) ?_
      refine lv_icmp_ne (tgt := 36) hx hb dX0_lastWordsOf_30 (by decide) (fun h3 => ?_) (fun h3 => ?_)
      · refine lv_iinc (v := nI (i + 1)) (lv' := [(3, .int (nI (i + 1))), (0, .ref (a 0)), (1, .int w), (2, .int (lwL (σ 8) (σ 5) w i))]) hx hb dX0_lastWordsOf_36 hl (k := 3) rfl (nI_inc i 1) (by decide) rfl (fun ls hl => ?_)
        refine lv_goto (tgt := 4) hx hb dX0_lastWordsOf_39 (by decide) ?_
        have hl : lv_has ls 4 [(0, .ref (a 0)), (1, .int w), (2, .int (lwL (σ 8) (σ 5) w i)), (3, .int (nI (i + 1)))] := lv_sub hl [1, 2, 3, 0] rfl
        have hl := wk_lset (y := lwL (σ 8) (σ 5) w (i + 1)) (lv_sub (l' := [(2, .int (lwL (σ 8) (σ 5) w i)), (0, .ref (a 0)), (1, .int w), (3, .int (nI (i + 1)))]) hl [2, 0, 1, 3] rfl) (by first | rfl | (simp [lwL, h1, h2, h3]; done))
        have hl : lv_has ls 4 [(0, .ref (a 0)), (1, .int w), (2, .int (lwL (σ 8) (σ 5) w (i + 1))), (3, .int (nI (i + 1)))] := lv_sub hl [1, 2, 0, 3] rfl
        exact ih (i + 1) (by omega) (by omega) ls hl
      refine lv_iinc (v := lwL (σ 8) (σ 5) w i + 1) (lv' := [(2, .int (lwL (σ 8) (σ 5) w i + 1)), (0, .ref (a 0)), (1, .int w), (3, .int (nI i))]) hx hb dX0_lastWordsOf_33 hl (k := 2) rfl (rfl) (by decide) rfl (fun ls hl => ?_)
      refine lv_iinc (v := nI (i + 1)) (lv' := [(3, .int (nI (i + 1))), (2, .int (lwL (σ 8) (σ 5) w i + 1)), (0, .ref (a 0)), (1, .int w)]) hx hb dX0_lastWordsOf_36 hl (k := 3) rfl (nI_inc i 1) (by decide) rfl (fun ls hl => ?_)
      refine lv_goto (tgt := 4) hx hb dX0_lastWordsOf_39 (by decide) ?_
      have hl : lv_has ls 4 [(0, .ref (a 0)), (1, .int w), (2, .int (lwL (σ 8) (σ 5) w i + 1)), (3, .int (nI (i + 1)))] := lv_sub hl [2, 3, 1, 0] rfl
      have hl := wk_lset (y := lwL (σ 8) (σ 5) w (i + 1)) (lv_sub (l' := [(2, .int (lwL (σ 8) (σ 5) w i + 1)), (0, .ref (a 0)), (1, .int w), (3, .int (nI (i + 1)))]) hl [2, 0, 1, 3] rfl) (by first | rfl | (simp [lwL, h1, h2, h3]; done))
      have hl : lv_has ls 4 [(0, .ref (a 0)), (1, .int w), (2, .int (lwL (σ 8) (σ 5) w (i + 1))), (3, .int (nI (i + 1)))] := lv_sub hl [1, 2, 0, 3] rfl
      exact ih (i + 1) (by omega) (by omega) ls hl
  have hl : lv_has ls 4 [(0, .ref (a 0)), (1, .int w), (2, .int 0), (3, .int 0)] := lv_sub hl [2, 3, 1, 0] rfl
  have hl := wk_lset (y := lwL (σ 8) (σ 5) w 0) (lv_sub (l' := [(2, .int 0), (0, .ref (a 0)), (1, .int w), (3, .int 0)]) hl [2, 0, 1, 3] rfl) (by first | rfl | (simp [lwL]; done))
  have hl : lv_has ls 4 [(0, .ref (a 0)), (1, .int w), (2, .int (lwL (σ 8) (σ 5) w 0)), (3, .int 0)] := lv_sub hl [1, 2, 0, 3] rfl
  have hl := wk_lset (y := nI 0) (lv_sub (l' := [(3, .int 0), (0, .ref (a 0)), (1, .int w), (2, .int (lwL (σ 8) (σ 5) w 0))]) hl [3, 0, 1, 2] rfl) (by first | rfl | (simp [lwL]; done))
  have hl : lv_has ls 4 [(0, .ref (a 0)), (1, .int w), (2, .int (lwL (σ 8) (σ 5) w 0)), (3, .int (nI 0))] := lv_sub hl [1, 2, 3, 0] rfl
  exact lp4 _ 0 (by omega) (Nat.lt_succ_self _) ls hl

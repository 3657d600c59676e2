abbrev rmX0_onDeskOf : Room := { frames := 0, cells := 0, slots := 0, locals := 0 }
theorem hd_X0_onDeskOf : yX0_onDeskOf.cls = RX0 ∧ yX0_onDeskOf.cls ≠ "java/lang/invoke/MethodHandle" ∧ yX0_onDeskOf.cls ≠ "java/lang/invoke/VarHandle" ∧ (parseMethodDescriptor yX0_onDeskOf.desc).map (fun d => d.parameters.length) = some 1 := by decide +kernel
set_option maxHeartbeats 4000000 in
set_option maxRecDepth 100000 in
theorem c_X0_onDeskOf (l : Launch) (D : va_G) (c : Nat → ClassId) (a : Nat → Nat) (σ : Nat → Nat → Int32) (w : Int32) (hq : wfQ σ) : wk_RdI l yX0_onDeskOf wsX0_onDeskOf rmX0_onDeskOf D (tysL c) [.ref (a 0), .int w] (affW c a σ) (odL (σ 8) (σ 7) w (nQ σ)) := by
  refine wk_mkR (cc := cX0_onDeskOf) (maxL := 4) (rt := .int) (by decide) rfl (Nat.le_of_ble_eq_true rfl) rfl ?_
  intro pr ev ss mm args below meth cd ls H Q hst hP hK hl ret
  obtain ⟨hx, hb, hml, hown, hts, -⟩ := hst
  have hown : ss.vm.findClass RX0 = some mm.cls := hown
  have hl : lv_has ls 4 [(0, .ref (a 0)), (1, .int w)] := hl
  have k1 := hts (.fieldLink RX0 40 "LastWord$Affairs" "quarrels" "I") (List.mem_of_getElem? (i := 1) rfl)
  have k2 := hts (.fieldLink RX0 24 "LastWord$Affairs" "owes" "[I") (List.mem_of_getElem? (i := 2) rfl)
  have k3 := hts (.fieldLink RX0 21 "LastWord$Affairs" "printedOn" "[I") (List.mem_of_getElem? (i := 3) rfl)
  have iX0 : ∀ w ∈ u_ws RX0 TX0 11, w ∈ wsX0_onDeskOf := fun _ h => (List.mem_cons_of_mem _ (List.mem_append_right _ h))
  have hq6 := hq.2
  refine lv_bipush (v := -9) hx hb dX0_onDeskOf_0 (by decide) ?_
  refine lv_istore_n (lv' := [(2, .int ((-9))), (0, .ref (a 0)), (1, .int w)]) hx hb dX0_onDeskOf_2 rfl hl (by decide) rfl (fun ls hl => ?_)
  refine lv_iconst (v := 0) hx hb dX0_onDeskOf_3 (by decide) ?_
  refine lv_istore_n (lv' := [(3, .int 0), (2, .int ((-9))), (0, .ref (a 0)), (1, .int w)]) hx hb dX0_onDeskOf_4 rfl hl (by decide) rfl (fun ls hl => ?_)
  have lp5 : ∀ (n : Nat) (i : Nat), (i ≤ nQ σ) → nQ σ - i < n → ∀ ls : Array Slot, lv_has ls 4 [(0, .ref (a 0)), (1, .int w), (2, .int (odL (σ 8) (σ 7) w i)), (3, .int (nI i))] → W pr l ev rmX0_onDeskOf ss mm args below meth cd H [] 0 0 Q (F0 mm 5 ls []) := by
    intro n
    induction n with
    | zero => intro i hi hn; exact absurd hn (Nat.not_lt_zero _)
    | succ n ih =>
      intro i hi hn ls hl
      refine lv_iload_n hx hb dX0_onDeskOf_5 rfl (lv_at hl 3 rfl) ?_
      refine lv_aload_n hx hb dX0_onDeskOf_6 rfl (lv_at hl 0 rfl) ?_
      refine wg_X0_2 hx hb hts iX0 hown hK hP 0 rfl k1 rfl dX0_onDeskOf_7 ?_
      refine wk_eqi (hq.1) ?_
      refine wk_ge (tgt := 52) hx hb i (nQ σ) rfl rfl (by omega) (by omega) dX0_onDeskOf_10 (by decide) (fun h1 => ?_) (fun h1 => ?_)
      · refine lv_iload_n hx hb dX0_onDeskOf_52 rfl (lv_at hl 2 rfl) ?_
        exact ret 53 ls (odL (σ 8) (σ 7) w i) (by rw [show i = nQ σ by omega]) dX0_onDeskOf_53
      refine lv_aload_n hx hb dX0_onDeskOf_13 rfl (lv_at hl 0 rfl) ?_
      refine wg_X0_8 hx hb hts iX0 hown hK hP 0 rfl k2 rfl dX0_onDeskOf_14 ?_
      refine lv_iload_n hx hb dX0_onDeskOf_17 rfl (lv_at hl 3 rfl) ?_
      refine wk_ald hx hb hK hP 5 0 rfl rfl i rfl (by omega) (by decide) dX0_onDeskOf_18 ?_
      refine lv_iload_n hx hb dX0_onDeskOf_19 rfl (lv_at hl 1 rfl) ?_
      refine lv_icmp_ne (tgt := 46) hx hb dX0_onDeskOf_20 (by decide) (fun h2 => ?_) (fun h2 => ?_)
      · refine lv_iinc (v := nI (i + 1)) (lv' := [(3, .int (nI (i + 1))), (0, .ref (a 0)), (1, .int w), (2, .int (odL (σ 8) (σ 7) w i))]) hx hb dX0_onDeskOf_46 hl (k := 3) rfl (nI_inc i 1) (by decide) rfl (fun ls hl => ?_)
        refine lv_goto (tgt := 5) hx hb dX0_onDeskOf_49 (by decide) ?_
        have hl : lv_has ls 4 [(0, .ref (a 0)), (1, .int w), (2, .int (odL (σ 8) (σ 7) w i)), (3, .int (nI (i + 1)))] := lv_sub hl [1, 2, 3, 0] rfl
        have hl := wk_lset (y := odL (σ 8) (σ 7) w (i + 1)) (lv_sub (l' := [(2, .int (odL (σ 8) (σ 7) w i)), (0, .ref (a 0)), (1, .int w), (3, .int (nI (i + 1)))]) hl [2, 0, 1, 3] rfl) (by first | rfl | (simp [odL, ← Int32.not_le, h1, h2]; done))
        have hl : lv_has ls 4 [(0, .ref (a 0)), (1, .int w), (2, .int (odL (σ 8) (σ 7) w (i + 1))), (3, .int (nI (i + 1)))] := lv_sub hl [1, 2, 0, 3] rfl
        exact ih (i + 1) (by omega) (by omega) ls hl
      refine lv_iload_n hx hb dX0_onDeskOf_23 rfl (lv_at hl 2 rfl) ?_
      refine lv_bipush (v := -9) hx hb dX0_onDeskOf_24 (by decide) ?_
      refine lv_icmp_eq (tgt := 44) hx hb dX0_onDeskOf_26 (by decide) (fun h3 => ?_) (fun h3 => ?_)
      · refine lv_iload_n hx hb dX0_onDeskOf_44 rfl (lv_at hl 3 rfl) ?_
        refine lv_istore_n (lv' := [(2, .int (nI i)), (0, .ref (a 0)), (1, .int w), (3, .int (nI i))]) hx hb dX0_onDeskOf_45 rfl hl (by decide) rfl (fun ls hl => ?_)
        refine lv_iinc (v := nI (i + 1)) (lv' := [(3, .int (nI (i + 1))), (2, .int (nI i)), (0, .ref (a 0)), (1, .int w)]) hx hb dX0_onDeskOf_46 hl (k := 3) rfl (nI_inc i 1) (by decide) rfl (fun ls hl => ?_)
        refine lv_goto (tgt := 5) hx hb dX0_onDeskOf_49 (by decide) ?_
        have hl : lv_has ls 4 [(0, .ref (a 0)), (1, .int w), (2, .int (nI i)), (3, .int (nI (i + 1)))] := lv_sub hl [2, 3, 1, 0] rfl
        have hl := wk_lset (y := odL (σ 8) (σ 7) w (i + 1)) (lv_sub (l' := [(2, .int (nI i)), (0, .ref (a 0)), (1, .int w), (3, .int (nI (i + 1)))]) hl [2, 0, 1, 3] rfl) (by first | rfl | (simp [odL, ← Int32.not_le, h1, h2, h3]; done))
        have hl : lv_has ls 4 [(0, .ref (a 0)), (1, .int w), (2, .int (odL (σ 8) (σ 7) w (i + 1))), (3, .int (nI (i + 1)))] := lv_sub hl [1, 2, 0, 3] rfl
        exact ih (i + 1) (by omega) (by omega) ls hl
      have ho : ixOK (odL (σ 8) (σ 7) w i) i := (od_ok (σ 8) (σ 7) w i (by omega)).elim (fun e => absurd e h3) id
      refine lv_aload_n hx hb dX0_onDeskOf_29 rfl (lv_at hl 0 rfl) ?_
      refine wg_X0_7 hx hb hts iX0 hown hK hP 0 rfl k3 rfl dX0_onDeskOf_30 ?_
      refine lv_iload_n hx hb dX0_onDeskOf_33 rfl (lv_at hl 3 rfl) ?_
      refine wk_ald hx hb hK hP 4 0 rfl rfl i rfl (by omega) (by decide) dX0_onDeskOf_34 ?_
      refine lv_aload_n hx hb dX0_onDeskOf_35 rfl (lv_at hl 0 rfl) ?_
      refine wg_X0_7 hx hb hts iX0 hown hK hP 0 rfl k3 rfl dX0_onDeskOf_36 ?_
      refine lv_iload_n hx hb dX0_onDeskOf_39 rfl (lv_at hl 2 rfl) ?_
      refine wk_ald hx hb hK hP 4 0 rfl rfl ((odL (σ 8) (σ 7) w i).toNatClampNeg) (ho.1) (Nat.lt_of_lt_of_le ho.2 (by omega)) (by decide) dX0_onDeskOf_40 ?_
      refine lv_icmp_ge (tgt := 46) hx hb dX0_onDeskOf_41 (by decide) (fun h4 => ?_) (fun h4 => ?_)
      · refine lv_iinc (v := nI (i + 1)) (lv' := [(3, .int (nI (i + 1))), (0, .ref (a 0)), (1, .int w), (2, .int (odL (σ 8) (σ 7) w i))]) hx hb dX0_onDeskOf_46 hl (k := 3) rfl (nI_inc i 1) (by decide) rfl (fun ls hl => ?_)
        refine lv_goto (tgt := 5) hx hb dX0_onDeskOf_49 (by decide) ?_
        have hl : lv_has ls 4 [(0, .ref (a 0)), (1, .int w), (2, .int (odL (σ 8) (σ 7) w i)), (3, .int (nI (i + 1)))] := lv_sub hl [1, 2, 3, 0] rfl
        have hl := wk_lset (y := odL (σ 8) (σ 7) w (i + 1)) (lv_sub (l' := [(2, .int (odL (σ 8) (σ 7) w i)), (0, .ref (a 0)), (1, .int w), (3, .int (nI (i + 1)))]) hl [2, 0, 1, 3] rfl) (by first | rfl | (simp [odL, ← Int32.not_le, h1, h2, h3, h4]; done))
        have hl : lv_has ls 4 [(0, .ref (a 0)), (1, .int w), (2, .int (odL (σ 8) (σ 7) w (i + 1))), (3, .int (nI (i + 1)))] := lv_sub hl [1, 2, 0, 3] rfl
        exact ih (i + 1) (by omega) (by omega) ls hl
      refine lv_iload_n hx hb dX0_onDeskOf_44 rfl (lv_at hl 3 rfl) ?_
      refine lv_istore_n (lv' := [(2, .int (nI i)), (0, .ref (a 0)), (1, .int w), (3, .int (nI i))]) hx hb dX0_onDeskOf_45 rfl hl (by decide) rfl (fun ls hl => ?_)
      refine lv_iinc (v := nI (i + 1)) (lv' := [(3, .int (nI (i + 1))), (2, .int (nI i)), (0, .ref (a 0)), (1, .int w)]) hx hb dX0_onDeskOf_46 hl (k := 3) rfl (nI_inc i 1) (by decide) rfl (fun ls hl => ?_)
      refine lv_goto (tgt := 5) hx hb dX0_onDeskOf_49 (by decide) ?_
      have hl : lv_has ls 4 [(0, .ref (a 0)), (1, .int w), (2, .int (nI i)), (3, .int (nI (i + 1)))] := lv_sub hl [2, 3, 1, 0] rfl
      have hl := wk_lset (y := odL (σ 8) (σ 7) w (i + 1)) (lv_sub (l' := [(2, .int (nI i)), (0, .ref (a 0)), (1, .int w), (3, .int (nI (i + 1)))]) hl [2, 0, 1, 3] rfl) (by first | rfl | (simp [odL, ← Int32.not_le, h1, h2, h3, h4]; done))
      have hl : lv_has ls 4 [(0, .ref (a 0)), (1, .int w), (2, .int (odL (σ 8) (σ 7) w (i + 1))), (3, .int (nI (i + 1)))] := lv_sub hl [1, 2, 0, 3] rfl
      exact ih (i + 1) (by omega) (by omega) ls hl
  have hl : lv_has ls 4 [(0, .ref (a 0)), (1, .int w), (2, .int ((-9))), (3, .int 0)] := lv_sub hl [2, 3, 1, 0] rfl
  have hl := wk_lset (y := odL (σ 8) (σ 7) w 0) (lv_sub (l' := [(2, .int ((-9))), (0, .ref (a 0)), (1, .int w), (3, .int 0)]) hl [2, 0, 1, 3] rfl) (by first | rfl | (simp [odL, ← Int32.not_le]; done))
  have hl : lv_has ls 4 [(0, .ref (a 0)), (1, .int w), (2, .int (odL (σ 8) (σ 7) w 0)), (3, .int 0)] := lv_sub hl [1, 2, 0, 3] rfl
  have hl := wk_lset (y := nI 0) (lv_sub (l' := [(3, .int 0), (0, .ref (a 0)), (1, .int w), (2, .int (odL (σ 8) (σ 7) w 0))]) hl [3, 0, 1, 2] rfl) (by first | rfl | (simp [odL, ← Int32.not_le]; done))
  have hl : lv_has ls 4 [(0, .ref (a 0)), (1, .int w), (2, .int (odL (σ 8) (σ 7) w 0)), (3, .int (nI 0))] := lv_sub hl [1, 2, 3, 0] rfl
  exact lp5 _ 0 (by omega) (Nat.lt_succ_self _) ls hl

abbrev rmX0_workUpTo : Room := { frames := 0, cells := 0, slots := 0, locals := 0 }
theorem hd_X0_workUpTo : yX0_workUpTo.cls = RX0 ∧ yX0_workUpTo.cls ≠ "java/lang/invoke/MethodHandle" ∧ yX0_workUpTo.cls ≠ "java/lang/invoke/VarHandle" ∧ (parseMethodDescriptor yX0_workUpTo.desc).map (fun d => d.parameters.length) = some 2 := by decide +kernel
set_option maxHeartbeats 4000000 in
set_option maxRecDepth 100000 in
theorem c_X0_workUpTo (l : Launch) (D : va_G) (c : Nat → ClassId) (a : Nat → Nat) (σ : Nat → Nat → Int32) (set : Int32) (lp : Int32) (hq : wfQ σ) : wk_RdI l yX0_workUpTo wsX0_workUpTo rmX0_workUpTo D (tysL c) [.ref (a 0), .int set, .int lp] (affW c a σ) (wuL σ set lp (nQ σ)) := by
  refine wk_mkR (cc := cX0_workUpTo) (maxL := 5) (rt := .int) (by decide) rfl (Nat.le_of_ble_eq_true rfl) rfl ?_
  intro pr ev ss mm args below meth cd ls H Q hst hP hK hl ret
  obtain ⟨hx, hb, hml, hown, hts, -⟩ := hst
  have hown : ss.vm.findClass RX0 = some mm.cls := hown
  have hl : lv_has ls 5 [(0, .ref (a 0)), (1, .int set), (2, .int lp)] := hl
  have k1 := hts (.fieldLink RX0 40 "LastWord$Affairs" "quarrels" "I") (List.mem_of_getElem? (i := 1) rfl)
  have k2 := hts (.fieldLink RX0 21 "LastWord$Affairs" "printedOn" "[I") (List.mem_of_getElem? (i := 2) rfl)
  have k3 := hts (.fieldLink RX0 27 "LastWord$Affairs" "work" "[I") (List.mem_of_getElem? (i := 3) rfl)
  have iX0 : ∀ w ∈ u_ws RX0 TX0 11, w ∈ wsX0_workUpTo := fun _ h => (List.mem_cons_of_mem _ (List.mem_append_right _ h))
  have hq6 := hq.2
  refine lv_iconst (v := 0) hx hb dX0_workUpTo_0 (by decide) ?_
  refine lv_istore_n (lv' := [(3, .int 0), (0, .ref (a 0)), (1, .int set), (2, .int lp)]) hx hb dX0_workUpTo_1 rfl hl (by decide) rfl (fun ls hl => ?_)
  refine lv_iconst (v := 0) hx hb dX0_workUpTo_2 (by decide) ?_
  refine lv_istore (lv' := [(4, .int 0), (3, .int 0), (0, .ref (a 0)), (1, .int set), (2, .int lp)]) hx hb dX0_workUpTo_3 hl (by decide) rfl (fun ls hl => ?_)
  have lp5 : ∀ (n : Nat) (i : Nat), (i ≤ nQ σ) → nQ σ - i < n → ∀ ls : Array Slot, lv_has ls 5 [(0, .ref (a 0)), (1, .int set), (2, .int lp), (3, .int (wuL σ set lp i)), (4, .int (nI i))] → W pr l ev rmX0_workUpTo ss mm args below meth cd H [] 0 0 Q (F0 mm 5 ls []) := by
    intro n
    induction n with
    | zero => intro i hi hn; exact absurd hn (Nat.not_lt_zero _)
    | succ n ih =>
      intro i hi hn ls hl
      refine lv_iload hx hb dX0_workUpTo_5 (lv_at hl 4 rfl) ?_
      refine lv_aload_n hx hb dX0_workUpTo_7 rfl (lv_at hl 0 rfl) ?_
      refine wg_X0_2 hx hb hts iX0 hown hK hP 0 rfl k1 rfl dX0_workUpTo_8 ?_
      refine wk_eqi (hq.1) ?_
      refine wk_ge (tgt := 51) hx hb i (nQ σ) rfl rfl (by omega) (by omega) dX0_workUpTo_11 (by decide) (fun h1 => ?_) (fun h1 => ?_)
      · refine lv_iload_n hx hb dX0_workUpTo_51 rfl (lv_at hl 3 rfl) ?_
        exact ret 52 ls (wuL σ set lp i) (by rw [show i = nQ σ by omega]) dX0_workUpTo_52
      refine lv_iload_n hx hb dX0_workUpTo_14 rfl (lv_at hl 1 rfl) ?_
      refine lv_iload hx hb dX0_workUpTo_15 (lv_at hl 4 rfl) ?_
      refine lv_ishr hx hb dX0_workUpTo_17 ?_
      refine lv_iconst (v := 1) hx hb dX0_workUpTo_18 (by decide) ?_
      refine lv_iand hx hb dX0_workUpTo_19 ?_
      refine lv_iconst (v := 1) hx hb dX0_workUpTo_20 (by decide) ?_
      refine lv_icmp_ne (tgt := 45) hx hb dX0_workUpTo_21 (by decide) (fun h2 => ?_) (fun h2 => ?_)
      · refine lv_iinc (v := nI (i + 1)) (lv' := [(4, .int (nI (i + 1))), (0, .ref (a 0)), (1, .int set), (2, .int lp), (3, .int (wuL σ set lp i))]) hx hb dX0_workUpTo_45 hl (k := 4) rfl (nI_inc i 1) (by decide) rfl (fun ls hl => ?_)
        refine lv_goto (tgt := 5) hx hb dX0_workUpTo_48 (by decide) ?_
        have hl : lv_has ls 5 [(0, .ref (a 0)), (1, .int set), (2, .int lp), (3, .int (wuL σ set lp i)), (4, .int (nI (i + 1)))] := lv_sub hl [1, 2, 3, 4, 0] rfl
        have hl := wk_lset (y := wuL σ set lp (i + 1)) (lv_sub (l' := [(3, .int (wuL σ set lp i)), (0, .ref (a 0)), (1, .int set), (2, .int lp), (4, .int (nI (i + 1)))]) hl [3, 0, 1, 2, 4] rfl) (by first | rfl | (simp [wuL, ← Int32.not_lt, h1, h2]; done))
        have hl : lv_has ls 5 [(0, .ref (a 0)), (1, .int set), (2, .int lp), (3, .int (wuL σ set lp (i + 1))), (4, .int (nI (i + 1)))] := lv_sub hl [1, 2, 3, 0, 4] rfl
        exact ih (i + 1) (by omega) (by omega) ls hl
      refine lv_aload_n hx hb dX0_workUpTo_24 rfl (lv_at hl 0 rfl) ?_
      refine wg_X0_7 hx hb hts iX0 hown hK hP 0 rfl k2 rfl dX0_workUpTo_25 ?_
      refine lv_iload hx hb dX0_workUpTo_28 (lv_at hl 4 rfl) ?_
      refine wk_ald hx hb hK hP 4 0 rfl rfl i rfl (by omega) (by decide) dX0_workUpTo_30 ?_
      refine lv_iload_n hx hb dX0_workUpTo_31 rfl (lv_at hl 2 rfl) ?_
      refine lv_icmp_gt (tgt := 45) hx hb dX0_workUpTo_32 (by decide) (fun h3 => ?_) (fun h3 => ?_)
      · refine lv_iinc (v := nI (i + 1)) (lv' := [(4, .int (nI (i + 1))), (0, .ref (a 0)), (1, .int set), (2, .int lp), (3, .int (wuL σ set lp i))]) hx hb dX0_workUpTo_45 hl (k := 4) rfl (nI_inc i 1) (by decide) rfl (fun ls hl => ?_)
        refine lv_goto (tgt := 5) hx hb dX0_workUpTo_48 (by decide) ?_
        have hl : lv_has ls 5 [(0, .ref (a 0)), (1, .int set), (2, .int lp), (3, .int (wuL σ set lp i)), (4, .int (nI (i + 1)))] := lv_sub hl [1, 2, 3, 4, 0] rfl
        have hl := wk_lset (y := wuL σ set lp (i + 1)) (lv_sub (l' := [(3, .int (wuL σ set lp i)), (0, .ref (a 0)), (1, .int set), (2, .int lp), (4, .int (nI (i + 1)))]) hl [3, 0, 1, 2, 4] rfl) (by first | rfl | (simp [wuL, ← Int32.not_lt, h1, h2, h3]; done))
        have hl : lv_has ls 5 [(0, .ref (a 0)), (1, .int set), (2, .int lp), (3, .int (wuL σ set lp (i + 1))), (4, .int (nI (i + 1)))] := lv_sub hl [1, 2, 3, 0, 4] rfl
        exact ih (i + 1) (by omega) (by omega) ls hl
      refine lv_iload_n hx hb dX0_workUpTo_35 rfl (lv_at hl 3 rfl) ?_
      refine lv_aload_n hx hb dX0_workUpTo_36 rfl (lv_at hl 0 rfl) ?_
      refine wg_X0_9 hx hb hts iX0 hown hK hP 0 rfl k3 rfl dX0_workUpTo_37 ?_
      refine lv_iload hx hb dX0_workUpTo_40 (lv_at hl 4 rfl) ?_
      refine wk_ald hx hb hK hP 6 0 rfl rfl i rfl (by omega) (by decide) dX0_workUpTo_42 ?_
      refine lv_iadd hx hb dX0_workUpTo_43 ?_
      refine lv_istore_n (lv' := [(3, .int ((wuL σ set lp i) + (σ 9 i))), (0, .ref (a 0)), (1, .int set), (2, .int lp), (4, .int (nI i))]) hx hb dX0_workUpTo_44 rfl hl (by decide) rfl (fun ls hl => ?_)
      refine lv_iinc (v := nI (i + 1)) (lv' := [(4, .int (nI (i + 1))), (3, .int ((wuL σ set lp i) + (σ 9 i))), (0, .ref (a 0)), (1, .int set), (2, .int lp)]) hx hb dX0_workUpTo_45 hl (k := 4) rfl (nI_inc i 1) (by decide) rfl (fun ls hl => ?_)
      refine lv_goto (tgt := 5) hx hb dX0_workUpTo_48 (by decide) ?_
      have hl : lv_has ls 5 [(0, .ref (a 0)), (1, .int set), (2, .int lp), (3, .int ((wuL σ set lp i) + (σ 9 i))), (4, .int (nI (i + 1)))] := lv_sub hl [2, 3, 4, 1, 0] rfl
      have hl := wk_lset (y := wuL σ set lp (i + 1)) (lv_sub (l' := [(3, .int ((wuL σ set lp i) + (σ 9 i))), (0, .ref (a 0)), (1, .int set), (2, .int lp), (4, .int (nI (i + 1)))]) hl [3, 0, 1, 2, 4] rfl) (by first | rfl | (simp [wuL, ← Int32.not_lt, h1, h2, h3]; done))
      have hl : lv_has ls 5 [(0, .ref (a 0)), (1, .int set), (2, .int lp), (3, .int (wuL σ set lp (i + 1))), (4, .int (nI (i + 1)))] := lv_sub hl [1, 2, 3, 0, 4] rfl
      exact ih (i + 1) (by omega) (by omega) ls hl
  have hl : lv_has ls 5 [(0, .ref (a 0)), (1, .int set), (2, .int lp), (3, .int 0), (4, .int 0)] := lv_sub hl [2, 3, 4, 1, 0] rfl
  have hl := wk_lset (y := wuL σ set lp 0) (lv_sub (l' := [(3, .int 0), (0, .ref (a 0)), (1, .int set), (2, .int lp), (4, .int 0)]) hl [3, 0, 1, 2, 4] rfl) (by first | rfl | (simp [wuL, ← Int32.not_lt]; done))
  have hl : lv_has ls 5 [(0, .ref (a 0)), (1, .int set), (2, .int lp), (3, .int (wuL σ set lp 0)), (4, .int 0)] := lv_sub hl [1, 2, 3, 0, 4] rfl
  have hl := wk_lset (y := nI 0) (lv_sub (l' := [(4, .int 0), (0, .ref (a 0)), (1, .int set), (2, .int lp), (3, .int (wuL σ set lp 0))]) hl [4, 0, 1, 2, 3] rfl) (by first | rfl | (simp [wuL, ← Int32.not_lt]; done))
  have hl : lv_has ls 5 [(0, .ref (a 0)), (1, .int set), (2, .int lp), (3, .int (wuL σ set lp 0)), (4, .int (nI 0))] := lv_sub hl [1, 2, 3, 4, 0] rfl
  exact lp5 _ 0 (by omega) (Nat.lt_succ_self _) ls hl

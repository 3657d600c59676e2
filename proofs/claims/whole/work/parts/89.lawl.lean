/-! ===== the law's loop ===== -/
set_option maxHeartbeats 4000000 in
set_option maxRecDepth 100000 in
theorem law_head {pr : Program} {l : Launch} {ev : Env} {ss : State} {mm : MethodId} {below : List Frame} {meth : Method} {cd : Code} {bs L : Nat} {xs : Nat → Int32} {D : va_G} {c : Nat → ClassId} (hL : L ≤ 320) (C0 : lw_At pr ss mm meth cd bs L xs) (hK : va_K D vwCl (tysL c) ss) {i : Nat} (hi : i ≤ 400) (hn : i + 5 ≤ L → LB pr l ev ss mm below meth cd D c bs 18 (i + 5)) : LB pr l ev ss mm below meth cd D c bs 18 i := by
  have C1 := C0
  obtain ⟨hx, hb, hr, hml, hown, hts0, hX, hbl, hlocks, -⟩ := C0
  have hbA : ¬ (fun q : Nat => ss.heap.size ≤ q) bs := Nat.not_le.mpr hbl
  intro x t p sp a b h g f o n τ π ζ σ β η α φ κ R I k μ r H locs ls hall hP hD hS hl
  refine lv_iload_n hx hb dL_law_18 rfl (lv_at hl 3 rfl) ?_
  refine lv_aload_n hx hb dL_law_19 rfl (lv_at hl 0 rfl) ?_
  refine va_slen hx hb hX hbl hbA hS dL_law_20 ?_
  refine lv_iconst (v := 5) hx hb dL_law_21 (by decide) ?_
  refine lv_isub hx hb dL_law_22 ?_
  refine lv_icmp_gt (tgt := 955) hx hb dL_law_23 (by decide) (fun _ => ?_) (fun hc => ?_)
  · refine lv_iconst (v := 1) hx hb dL_law_955 (by decide) ?_
    refine va_forget (fun q hq => hS.2.2 q hq) ?_
    refine W.widen (k := 600000) (n := 7302250) (Nat.le_of_ble_eq_true rfl) (Nat.le_of_ble_eq_true rfl) ?_
    exact lw_ret hx hb hr hlocks dL_law_956
  · have e : (Int32.ofNat L - 5).toInt = (L : Int) - 5 := pk_sub_toInt (a := L) (b := 5) (by omega) (by omega)
    rw [Int32.lt_iff_toInt_lt, e, nI_toInt (by omega)] at hc
    have hi5 : i + 5 ≤ L := by omega
    have hB : LB pr l ev ss mm below meth cd D c bs 949 i := by
      intro x t p sp a b h g f o n τ π ζ σ β η α φ κ R I k μ r H locs ls hall hP hD hS hl
      refine lv_iinc (v := nI (i + 5)) (lv' := [(3, .int (nI (i + 5))), (0, .ref bs), (1, .ref x), (2, .ref (n 0))]) hx hb dL_law_949 hl (k := 3) rfl (nI_inc i 5) (by decide) rfl (fun ls hl => ?_)
      refine lv_goto (tgt := 18) hx hb dL_law_952 (by decide) ?_
      exact hn hi5 x t p sp a b h g f o n τ π ζ σ β η α φ κ R I k μ r H _ ls hall hP hD hS (lv_sub hl [1, 2, 3, 0] rfl)
    refine lv_aload_n hx hb dL_law_26 rfl (lv_at hl 0 rfl) ?_
    refine lv_iload_n hx hb dL_law_27 rfl (lv_at hl 3 rfl) ?_
    refine va_sld hx hb hX hbl hbA hS (vp_in_nI (by omega) (by omega)) dL_law_28 ?_
    refine lv_bipush (v := 31) hx hb dL_law_29 (by decide) ?_
    refine lv_iand hx hb dL_law_31 ?_
    obtain ⟨j, hj, ej⟩ := pk_andE (xs (nI i).toNatClampNeg) (m := 31) 5 (by decide)
    refine wk_eqi (y := nI j) ej ?_
    rcases (show j = 0 ∨ j = 1 ∨ j = 2 ∨ j = 3 ∨ j = 4 ∨ j = 5 ∨ j = 6 ∨ j = 7 ∨ j = 8 ∨ j = 9 ∨ j = 10 ∨ j = 11 ∨ j = 12 ∨ j = 13 ∨ j = 14 ∨ j = 15 ∨ j = 16 ∨ j = 17 ∨ j = 18 ∨ j = 19 ∨ j = 20 ∨ j = 21 ∨ j = 22 ∨ j = 23 ∨ j = 24 ∨ j = 25 ∨ j = 26 ∨ j = 27 ∨ j = 28 ∨ j = 29 ∨ j = 30 ∨ j = 31 by omega) with rfl | rfl | rfl | rfl | rfl | rfl | rfl | rfl | rfl | rfl | rfl | rfl | rfl | rfl | rfl | rfl | rfl | rfl | rfl | rfl | rfl | rfl | rfl | rfl | rfl | rfl | rfl | rfl | rfl | rfl | rfl | rfl
    · refine lv_tableIn (off := 136) (tgt := 168) hx hb dL_law_32 (by decide) (by decide) (by decide) (by decide) ?_
      exact lc_0 hL C1 hK hi5 hB x t p sp a b h g f o n τ π ζ σ β η α φ κ R I k μ r H locs ls hall hP hD hS hl
    · refine lv_tableIn (off := 159) (tgt := 191) hx hb dL_law_32 (by decide) (by decide) (by decide) (by decide) ?_
      exact lc_1 hL C1 hK hi5 hB x t p sp a b h g f o n τ π ζ σ β η α φ κ R I k μ r H locs ls hall hP hD hS hl
    · refine lv_tableIn (off := 172) (tgt := 204) hx hb dL_law_32 (by decide) (by decide) (by decide) (by decide) ?_
      exact lc_2 hL C1 hK hi5 hB x t p sp a b h g f o n τ π ζ σ β η α φ κ R I k μ r H locs ls hall hP hD hS hl
    · refine lv_tableIn (off := 185) (tgt := 217) hx hb dL_law_32 (by decide) (by decide) (by decide) (by decide) ?_
      exact lc_3 hL C1 hK hi5 hB x t p sp a b h g f o n τ π ζ σ β η α φ κ R I k μ r H locs ls hall hP hD hS hl
    · refine lv_tableIn (off := 218) (tgt := 250) hx hb dL_law_32 (by decide) (by decide) (by decide) (by decide) ?_
      exact lc_4 hL C1 hK hi5 hB x t p sp a b h g f o n τ π ζ σ β η α φ κ R I k μ r H locs ls hall hP hD hS hl
    · refine lv_tableIn (off := 251) (tgt := 283) hx hb dL_law_32 (by decide) (by decide) (by decide) (by decide) ?_
      exact lc_5 hL C1 hK hi5 hB x t p sp a b h g f o n τ π ζ σ β η α φ κ R I k μ r H locs ls hall hP hD hS hl
    · refine lv_tableIn (off := 284) (tgt := 316) hx hb dL_law_32 (by decide) (by decide) (by decide) (by decide) ?_
      exact lc_6 hL C1 hK hi5 hB x t p sp a b h g f o n τ π ζ σ β η α φ κ R I k μ r H locs ls hall hP hD hS hl
    · refine lv_tableIn (off := 307) (tgt := 339) hx hb dL_law_32 (by decide) (by decide) (by decide) (by decide) ?_
      exact lc_7 hL C1 hK hi5 hB x t p sp a b h g f o n τ π ζ σ β η α φ κ R I k μ r H locs ls hall hP hD hS hl
    · refine lv_tableIn (off := 340) (tgt := 372) hx hb dL_law_32 (by decide) (by decide) (by decide) (by decide) ?_
      exact lc_8 hL C1 hK hi5 hB x t p sp a b h g f o n τ π ζ σ β η α φ κ R I k μ r H locs ls hall hP hD hS hl
    · refine lv_tableIn (off := 353) (tgt := 385) hx hb dL_law_32 (by decide) (by decide) (by decide) (by decide) ?_
      exact lc_9 hL C1 hK hi5 hB x t p sp a b h g f o n τ π ζ σ β η α φ κ R I k μ r H locs ls hall hP hD hS hl
    · refine lv_tableIn (off := 376) (tgt := 408) hx hb dL_law_32 (by decide) (by decide) (by decide) (by decide) ?_
      exact lc_10 hL C1 hK hi5 hB x t p sp a b h g f o n τ π ζ σ β η α φ κ R I k μ r H locs ls hall hP hD hS hl
    · refine lv_tableIn (off := 389) (tgt := 421) hx hb dL_law_32 (by decide) (by decide) (by decide) (by decide) ?_
      exact lc_11 hL C1 hK hi5 hB x t p sp a b h g f o n τ π ζ σ β η α φ κ R I k μ r H locs ls hall hP hD hS hl
    · refine lv_tableIn (off := 432) (tgt := 464) hx hb dL_law_32 (by decide) (by decide) (by decide) (by decide) ?_
      exact lc_12 hL C1 hK hi5 hB x t p sp a b h g f o n τ π ζ σ β η α φ κ R I k μ r H locs ls hall hP hD hS hl
    · refine lv_tableIn (off := 455) (tgt := 487) hx hb dL_law_32 (by decide) (by decide) (by decide) (by decide) ?_
      exact lc_13 hL C1 hK hi5 hB x t p sp a b h g f o n τ π ζ σ β η α φ κ R I k μ r H locs ls hall hP hD hS hl
    · refine lv_tableIn (off := 498) (tgt := 530) hx hb dL_law_32 (by decide) (by decide) (by decide) (by decide) ?_
      exact lc_14 hL C1 hK hi5 hB x t p sp a b h g f o n τ π ζ σ β η α φ κ R I k μ r H locs ls hall hP hD hS hl
    · refine lv_tableIn (off := 521) (tgt := 553) hx hb dL_law_32 (by decide) (by decide) (by decide) (by decide) ?_
      exact lc_15 hL C1 hK hi5 hB x t p sp a b h g f o n τ π ζ σ β η α φ κ R I k μ r H locs ls hall hP hD hS hl
    · refine lv_tableIn (off := 544) (tgt := 576) hx hb dL_law_32 (by decide) (by decide) (by decide) (by decide) ?_
      exact lc_16 hL C1 hK hi5 hB x t p sp a b h g f o n τ π ζ σ β η α φ κ R I k μ r H locs ls hall hP hD hS hl
    · refine lv_tableIn (off := 567) (tgt := 599) hx hb dL_law_32 (by decide) (by decide) (by decide) (by decide) ?_
      exact lc_17 hL C1 hK hi5 hB x t p sp a b h g f o n τ π ζ σ β η α φ κ R I k μ r H locs ls hall hP hD hS hl
    · refine lv_tableIn (off := 590) (tgt := 622) hx hb dL_law_32 (by decide) (by decide) (by decide) (by decide) ?_
      exact lc_18 hL C1 hK hi5 hB x t p sp a b h g f o n τ π ζ σ β η α φ κ R I k μ r H locs ls hall hP hD hS hl
    · refine lv_tableIn (off := 613) (tgt := 645) hx hb dL_law_32 (by decide) (by decide) (by decide) (by decide) ?_
      exact lc_19 hL C1 hK hi5 hB x t p sp a b h g f o n τ π ζ σ β η α φ κ R I k μ r H locs ls hall hP hD hS hl
    · refine lv_tableIn (off := 656) (tgt := 688) hx hb dL_law_32 (by decide) (by decide) (by decide) (by decide) ?_
      exact lc_20 hL C1 hK hi5 hB x t p sp a b h g f o n τ π ζ σ β η α φ κ R I k μ r H locs ls hall hP hD hS hl
    · refine lv_tableIn (off := 669) (tgt := 701) hx hb dL_law_32 (by decide) (by decide) (by decide) (by decide) ?_
      exact lc_21 hL C1 hK hi5 hB x t p sp a b h g f o n τ π ζ σ β η α φ κ R I k μ r H locs ls hall hP hD hS hl
    · refine lv_tableIn (off := 702) (tgt := 734) hx hb dL_law_32 (by decide) (by decide) (by decide) (by decide) ?_
      exact lc_22 hL C1 hK hi5 hB x t p sp a b h g f o n τ π ζ σ β η α φ κ R I k μ r H locs ls hall hP hD hS hl
    · refine lv_tableIn (off := 755) (tgt := 787) hx hb dL_law_32 (by decide) (by decide) (by decide) (by decide) ?_
      exact lc_23 hL C1 hK hi5 hB x t p sp a b h g f o n τ π ζ σ β η α φ κ R I k μ r H locs ls hall hP hD hS hl
    · refine lv_tableIn (off := 768) (tgt := 800) hx hb dL_law_32 (by decide) (by decide) (by decide) (by decide) ?_
      exact lc_24 hL C1 hK hi5 hB x t p sp a b h g f o n τ π ζ σ β η α φ κ R I k μ r H locs ls hall hP hD hS hl
    · refine lv_tableIn (off := 801) (tgt := 833) hx hb dL_law_32 (by decide) (by decide) (by decide) (by decide) ?_
      exact lc_25 hL C1 hK hi5 hB x t p sp a b h g f o n τ π ζ σ β η α φ κ R I k μ r H locs ls hall hP hD hS hl
    · refine lv_tableIn (off := 834) (tgt := 866) hx hb dL_law_32 (by decide) (by decide) (by decide) (by decide) ?_
      exact lc_26 hL C1 hK hi5 hB x t p sp a b h g f o n τ π ζ σ β η α φ κ R I k μ r H locs ls hall hP hD hS hl
    · refine lv_tableIn (off := 857) (tgt := 889) hx hb dL_law_32 (by decide) (by decide) (by decide) (by decide) ?_
      exact lc_27 hL C1 hK hi5 hB x t p sp a b h g f o n τ π ζ σ β η α φ κ R I k μ r H locs ls hall hP hD hS hl
    · refine lv_tableIn (off := 880) (tgt := 912) hx hb dL_law_32 (by decide) (by decide) (by decide) (by decide) ?_
      exact lc_28 hL C1 hK hi5 hB x t p sp a b h g f o n τ π ζ σ β η α φ κ R I k μ r H locs ls hall hP hD hS hl
    · refine lv_tableIn (off := 903) (tgt := 935) hx hb dL_law_32 (by decide) (by decide) (by decide) (by decide) ?_
      exact lc_29 hL C1 hK hi5 hB x t p sp a b h g f o n τ π ζ σ β η α φ κ R I k μ r H locs ls hall hP hD hS hl
    · refine lv_tableOut (tgt := 949) hx hb dL_law_32 (by decide) (by decide) ?_
      exact hB x t p sp a b h g f o n τ π ζ σ β η α φ κ R I k μ r H locs ls hall hP hD hS hl
    · refine lv_tableOut (tgt := 949) hx hb dL_law_32 (by decide) (by decide) ?_
      exact hB x t p sp a b h g f o n τ π ζ σ β η α φ κ R I k μ r H locs ls hall hP hD hS hl
theorem law_loop {pr : Program} {l : Launch} {ev : Env} {ss : State} {mm : MethodId} {below : List Frame} {meth : Method} {cd : Code} {bs L : Nat} {xs : Nat → Int32} {D : va_G} {c : Nat → ClassId} (hL : L ≤ 320) (C0 : lw_At pr ss mm meth cd bs L xs) (hK : va_K D vwCl (tysL c) ss) : ∀ (n i : Nat), L ≤ i + n → i ≤ L + 5 → LB pr l ev ss mm below meth cd D c bs 18 i
  | 0, i, h1, h2 => law_head hL C0 hK (by omega) (fun h => by omega)
  | n + 1, i, h1, h2 => law_head hL C0 hK (by omega) (fun h => law_loop hL C0 hK n (i + 5) (by omega) (by omega))
theorem all_0 : allR wz pz wz wz wz wz (fun _ => wz) (fun _ => wz) 0 (mtkF (plF wz)) 0 := by
  have en : nW pz = 0 := rfl
  refine ⟨⟨rfl, rfl, rfl, show (0 : Nat) ≤ 200 by omega⟩, ⟨⟨rfl, rfl⟩, ⟨rfl, by rw [en]; omega, fun w hw => absurd hw (by rw [en]; omega)⟩, ⟨9, by omega, by omega, rfl⟩, fun w hw => absurd hw (by rw [en]; omega)⟩, ⟨0, by omega, ⟨⟨rfl, show (0 : Nat) ≤ 6 by omega⟩, rfl, ⟨0, Nat.two_pow_pos _, rfl⟩, fun q hq => absurd hq (Nat.not_lt_zero q)⟩, ⟨⟨rfl, rfl, rfl, rfl⟩, fun w hw => ?_, fun q i _ hq => absurd hq (Nat.not_lt_zero q)⟩⟩, ⟨⟨⟨rfl, show (0 : Nat) ≤ 10 by omega⟩, rfl, show (0 : Nat) < 10 by omega⟩, rfl, fun i hi => absurd hi (Nat.not_lt_zero i)⟩, ⟨⟨0, by omega, rfl⟩, fun i hi => ?_⟩, ⟨rfl, ⟨rfl, show (0 : Nat) ≤ 5 by omega, fun i hi => absurd hi (Nat.not_lt_zero i)⟩, fun i hi => absurd hi (Nat.not_lt_zero i)⟩, rfl⟩
  · show (0 : Int32) = if 4 + w < 46 then (0 : Int32) else _
    rw [if_pos (by omega)]
  · have n1 : ¬ keptB wz i := by
      show ¬ (((0 : Int32) >>> (nI i &&& 31)) &&& 1 = 1)
      rcases (show i = 0 ∨ i = 1 by omega) with rfl | rfl <;> decide
    refine ⟨⟨fun q => absurd q n1, fun q => absurd ?_ q⟩, fun q => absurd q n1⟩
    show upd (upd (plF wz 17) 0 0) 47 0 (47 * i) = 0
    rcases (show i = 0 ∨ i = 1 by omega) with rfl | rfl
    · rw [pk_un (by decide), pk_us]
    · rw [pk_us]

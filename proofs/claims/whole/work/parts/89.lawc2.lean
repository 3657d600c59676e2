set_option maxHeartbeats 4000000 in
set_option maxRecDepth 100000 in
theorem lc_16 {pr : Program} {l : Launch} {ev : Env} {ss : State} {mm : MethodId} {below : List Frame} {meth : Method} {cd : Code} {bs L : Nat} {xs : Nat → Int32} {D : va_G} {c : Nat → ClassId} (hL : L ≤ 320) (C0 : lw_At pr ss mm meth cd bs L xs) (hK : va_K D vwCl (tysL c) ss) {i : Nat} (hi : i + 5 ≤ L) (hB : LB pr l ev ss mm below meth cd D c bs 949 i) : LB pr l ev ss mm below meth cd D c bs 576 i := by
  obtain ⟨hx, hb, hr, hml, hown, hts0, hX, hbl, hlocks, -⟩ := C0
  have hts : ∀ w ∈ wsL_law, w.before #[Value.ref bs] ss = true := fun w h => hts0 w (wsL_law_in w h)
  have hown : ss.vm.findClass RL = some mm.cls := hown
  have hA : ∀ q : Nat, ss.heap.size ≤ q → (fun q : Nat => ss.heap.size ≤ q) q := fun _ h => h
  have hbA : ¬ (fun q : Nat => ss.heap.size ≤ q) bs := Nat.not_le.mpr hbl
  intro x t p sp a b h g f o n τ π ζ σ β η α φ κ R I k μ r H locs ls hall hP hD hS hl
  obtain ⟨a1, ha1⟩ : ∃ v : Int32, xs (i + 1) = v := ⟨_, rfl⟩
  refine lv_aload_n hx hb dL_law_576 rfl (lv_at hl 1 rfl) ?_
  refine lv_aload_n hx hb dL_law_577 rfl (lv_at hl 0 rfl) ?_
  refine lv_iload_n hx hb dL_law_578 rfl (lv_at hl 3 rfl) ?_
  refine lv_iconst (v := 1) hx hb dL_law_579 (by decide) ?_
  refine lv_iadd hx hb dL_law_580 ?_
  refine wk_eqi (y := nI (i + 1)) (nI_add i 1) ?_
  refine va_sld hx hb hX hbl hbA hS (vp_in_nI (by omega) (by omega)) dL_law_581 ?_
  refine wk_eqi (y := a1) (by rw [nI_cl (by omega)]; exact ha1) ?_
  refine wk_callRP (As := [.int a1]) (rest := []) ⟨hx, hb, hml, hown, hts⟩ (c_X7_keeps l D c x t p sp a b h g f o k π σ a1 ((all_A hall).1)) (cwV 1 hts gL_law_X7_keeps rfl rfl rfl hd_X7_keeps ⟨Nat.le_of_ble_eq_true rfl, Nat.le_of_ble_eq_true rfl⟩) hK hP (wr := textW c t τ ++ pageW c sp ζ ++ affW c b β ++ histW c h η ++ rgW c h R 10 ++ albumW c g α ++ rgW c g I 2 ++ findW c f φ ++ courseW c o κ ++ modelW c n μ r) (wk_pm (fun y => by simp only [ct_app, lwA_ct]; omega)) 0 rfl rfl rfl hl.1 rfl (Nat.le_of_ble_eq_true rfl) dL_law_582 (Nat.le_of_ble_eq_true rfl) (Nat.le_of_ble_eq_true rfl) ?_
  refine lv_aload_n hx hb dL_law_585 rfl (lv_at hl 2 rfl) ?_
  refine lv_aload_n hx hb dL_law_586 rfl (lv_at hl 0 rfl) ?_
  refine lv_iload_n hx hb dL_law_587 rfl (lv_at hl 3 rfl) ?_
  refine lv_iconst (v := 1) hx hb dL_law_588 (by decide) ?_
  refine lv_iadd hx hb dL_law_589 ?_
  refine wk_eqi (y := nI (i + 1)) (nI_add i 1) ?_
  refine va_sld hx hb hX hbl hbA hS (vp_in_nI (by omega) (by omega)) dL_law_590 ?_
  refine wk_eqi (y := a1) (by rw [nI_cl (by omega)]; exact ha1) ?_
  refine wk_callRP (As := [.int a1]) (rest := [.int (keepsV π σ a1)]) ⟨hx, hb, hml, hown, hts⟩ (c_X8_keeps l D c n μ r a1 ((all_G hall).1.1) ((all_G hall).2.1)) (cwV 1 hts gL_law_X8_keeps rfl rfl rfl hd_X8_keeps ⟨Nat.le_of_ble_eq_true rfl, Nat.le_of_ble_eq_true rfl⟩) hK hP (wr := lwA c x t p sp a b h g f o τ π ζ σ β η α φ κ R I k) List.perm_append_comm 0 rfl rfl rfl hl.1 rfl (Nat.le_of_ble_eq_true rfl) dL_law_591 (Nat.le_of_ble_eq_true rfl) (Nat.le_of_ble_eq_true rfl) ?_
  have he := e_keeps hall a1
  refine lv_icmp_eq (tgt := 949) hx hb dL_law_594 (by decide) (fun _ => ?_) (fun q => absurd (he) q)
  exact hB x t p sp a b h g f o n τ π ζ σ β η α φ κ R I k μ r H _ ls (hall) hP hD hS hl

set_option maxHeartbeats 4000000 in
set_option maxRecDepth 100000 in
theorem lc_17 {pr : Program} {l : Launch} {ev : Env} {ss : State} {mm : MethodId} {below : List Frame} {meth : Method} {cd : Code} {bs L : Nat} {xs : Nat → Int32} {D : va_G} {c : Nat → ClassId} (hL : L ≤ 320) (C0 : lw_At pr ss mm meth cd bs L xs) (hK : va_K D vwCl (tysL c) ss) {i : Nat} (hi : i + 5 ≤ L) (hB : LB pr l ev ss mm below meth cd D c bs 949 i) : LB pr l ev ss mm below meth cd D c bs 599 i := by
  obtain ⟨hx, hb, hr, hml, hown, hts0, hX, hbl, hlocks, -⟩ := C0
  have hts : ∀ w ∈ wsL_law, w.before #[Value.ref bs] ss = true := fun w h => hts0 w (wsL_law_in w h)
  have hown : ss.vm.findClass RL = some mm.cls := hown
  have hA : ∀ q : Nat, ss.heap.size ≤ q → (fun q : Nat => ss.heap.size ≤ q) q := fun _ h => h
  have hbA : ¬ (fun q : Nat => ss.heap.size ≤ q) bs := Nat.not_le.mpr hbl
  intro x t p sp a b h g f o n τ π ζ σ β η α φ κ R I k μ r H locs ls hall hP hD hS hl
  obtain ⟨a1, ha1⟩ : ∃ v : Int32, xs (i + 1) = v := ⟨_, rfl⟩
  refine lv_aload_n hx hb dL_law_599 rfl (lv_at hl 1 rfl) ?_
  refine lv_aload_n hx hb dL_law_600 rfl (lv_at hl 0 rfl) ?_
  refine lv_iload_n hx hb dL_law_601 rfl (lv_at hl 3 rfl) ?_
  refine lv_iconst (v := 1) hx hb dL_law_602 (by decide) ?_
  refine lv_iadd hx hb dL_law_603 ?_
  refine wk_eqi (y := nI (i + 1)) (nI_add i 1) ?_
  refine va_sld hx hb hX hbl hbA hS (vp_in_nI (by omega) (by omega)) dL_law_604 ?_
  refine wk_eqi (y := a1) (by rw [nI_cl (by omega)]; exact ha1) ?_
  refine wk_callJP (As := [.int a1]) (rest := []) ⟨hx, hb, hml, hown, hts⟩ (c_X7_lateFirst l D c x t p sp a b h g f o k π σ β a1 (hall.2.1.2.1) (all_A hall)) (cwV 1 hts gL_law_X7_lateFirst rfl rfl rfl hd_X7_lateFirst ⟨Nat.le_of_ble_eq_true rfl, Nat.le_of_ble_eq_true rfl⟩) hK hP hD hS hA (wr := textW c t τ ++ pageW c sp ζ ++ histW c h η ++ rgW c h R 10 ++ albumW c g α ++ rgW c g I 2 ++ findW c f φ ++ courseW c o κ ++ modelW c n μ r) (wsj := fun j1 j2 => lwA c x t p sp a b h g f o τ π ζ σ j1 η α φ κ R I k ++ modelW c n μ r) (wk_pm (fun y => by simp only [ct_app, lwA_ct]; omega)) (fun j1 j2 => wk_pm (fun y => by simp only [ct_app, lwA_ct]; omega)) (fun _ _ => rfl) 0 rfl rfl rfl hl.1 rfl (Nat.le_of_ble_eq_true rfl) dL_law_605 (Nat.le_of_ble_eq_true rfl) (Nat.le_of_ble_eq_true rfl) (fun j1 j2 H locs hP hD hS => ?_)
  have hP : va_P D vwCl (lwA c x t p sp a b h g f o τ π ζ σ j1 η α φ κ R I k ++ modelW c n μ r) H := hP
  have hD : va_D (fun q : Nat => ss.heap.size ≤ q) (lwA c x t p sp a b h g f o τ π ζ σ j1 η α φ κ R I k ++ modelW c n μ r) := hD
  refine lv_aload_n hx hb dL_law_608 rfl (lv_at hl 2 rfl) ?_
  refine lv_aload_n hx hb dL_law_609 rfl (lv_at hl 0 rfl) ?_
  refine lv_iload_n hx hb dL_law_610 rfl (lv_at hl 3 rfl) ?_
  refine lv_iconst (v := 1) hx hb dL_law_611 (by decide) ?_
  refine lv_iadd hx hb dL_law_612 ?_
  refine wk_eqi (y := nI (i + 1)) (nI_add i 1) ?_
  refine va_sld hx hb hX hbl hbA hS (vp_in_nI (by omega) (by omega)) dL_law_613 ?_
  refine wk_eqi (y := a1) (by rw [nI_cl (by omega)]; exact ha1) ?_
  refine wk_callUP (As := [.int a1]) (rest := [.int (lateFirstV π σ a1)]) ⟨hx, hb, hml, hown, hts⟩ (c_X8_lateFirst l D c n μ r a1 (all_G hall)) (cwV 1 hts gL_law_X8_lateFirst rfl rfl rfl hd_X8_lateFirst ⟨Nat.le_of_ble_eq_true rfl, Nat.le_of_ble_eq_true rfl⟩) hK hP hD hS hA (wr := lwA c x t p sp a b h g f o τ π ζ σ j1 η α φ κ R I k) (ws' := lwA c x t p sp a b h g f o τ π ζ σ j1 η α φ κ R I k ++ modelW c n (mlfF μ a1) r) List.perm_append_comm List.perm_append_comm rfl 0 rfl rfl rfl hl.1 rfl (Nat.le_of_ble_eq_true rfl) dL_law_614 (Nat.le_of_ble_eq_true rfl) (Nat.le_of_ble_eq_true rfl) (fun H locs hP hD hS => ?_)
  have he := e_late hall a1
  refine lv_icmp_eq (tgt := 949) hx hb dL_law_617 (by decide) (fun _ => ?_) (fun q => absurd (he.1) q)
  exact hB x t p sp a b h g f o n τ π ζ σ j1 η α φ κ R I k (mlfF μ a1) r H _ ls (he.2) hP hD hS hl

set_option maxHeartbeats 4000000 in
set_option maxRecDepth 100000 in
theorem lc_18 {pr : Program} {l : Launch} {ev : Env} {ss : State} {mm : MethodId} {below : List Frame} {meth : Method} {cd : Code} {bs L : Nat} {xs : Nat → Int32} {D : va_G} {c : Nat → ClassId} (hL : L ≤ 320) (C0 : lw_At pr ss mm meth cd bs L xs) (hK : va_K D vwCl (tysL c) ss) {i : Nat} (hi : i + 5 ≤ L) (hB : LB pr l ev ss mm below meth cd D c bs 949 i) : LB pr l ev ss mm below meth cd D c bs 622 i := by
  obtain ⟨hx, hb, hr, hml, hown, hts0, hX, hbl, hlocks, -⟩ := C0
  have hts : ∀ w ∈ wsL_law, w.before #[Value.ref bs] ss = true := fun w h => hts0 w (wsL_law_in w h)
  have hown : ss.vm.findClass RL = some mm.cls := hown
  have hA : ∀ q : Nat, ss.heap.size ≤ q → (fun q : Nat => ss.heap.size ≤ q) q := fun _ h => h
  have hbA : ¬ (fun q : Nat => ss.heap.size ≤ q) bs := Nat.not_le.mpr hbl
  intro x t p sp a b h g f o n τ π ζ σ β η α φ κ R I k μ r H locs ls hall hP hD hS hl
  obtain ⟨a1, ha1⟩ : ∃ v : Int32, xs (i + 1) = v := ⟨_, rfl⟩
  refine lv_aload_n hx hb dL_law_622 rfl (lv_at hl 1 rfl) ?_
  refine lv_aload_n hx hb dL_law_623 rfl (lv_at hl 0 rfl) ?_
  refine lv_iload_n hx hb dL_law_624 rfl (lv_at hl 3 rfl) ?_
  refine lv_iconst (v := 1) hx hb dL_law_625 (by decide) ?_
  refine lv_iadd hx hb dL_law_626 ?_
  refine wk_eqi (y := nI (i + 1)) (nI_add i 1) ?_
  refine va_sld hx hb hX hbl hbA hS (vp_in_nI (by omega) (by omega)) dL_law_627 ?_
  refine wk_eqi (y := a1) (by rw [nI_cl (by omega)]; exact ha1) ?_
  refine wk_callJP (As := [.int a1]) (rest := []) ⟨hx, hb, hml, hown, hts⟩ (c_X7_peace l D c x t p sp a b h g f o k π σ β κ a1 (hall.2.1.2.1) (all_A hall)) (cwV 1 hts gL_law_X7_peace rfl rfl rfl hd_X7_peace ⟨Nat.le_of_ble_eq_true rfl, Nat.le_of_ble_eq_true rfl⟩) hK hP hD hS hA (wr := textW c t τ ++ pageW c sp ζ ++ histW c h η ++ rgW c h R 10 ++ albumW c g α ++ rgW c g I 2 ++ findW c f φ ++ modelW c n μ r) (wsj := fun j1 j2 => lwA c x t p sp a b h g f o τ π ζ σ j1 η α φ j2 R I k ++ modelW c n μ r) (wk_pm (fun y => by simp only [ct_app, lwA_ct]; omega)) (fun j1 j2 => wk_pm (fun y => by simp only [ct_app, lwA_ct]; omega)) (fun _ _ => rfl) 0 rfl rfl rfl hl.1 rfl (Nat.le_of_ble_eq_true rfl) dL_law_628 (Nat.le_of_ble_eq_true rfl) (Nat.le_of_ble_eq_true rfl) (fun j1 j2 H locs hP hD hS => ?_)
  have hP : va_P D vwCl (lwA c x t p sp a b h g f o τ π ζ σ j1 η α φ j2 R I k ++ modelW c n μ r) H := hP
  have hD : va_D (fun q : Nat => ss.heap.size ≤ q) (lwA c x t p sp a b h g f o τ π ζ σ j1 η α φ j2 R I k ++ modelW c n μ r) := hD
  refine lv_aload_n hx hb dL_law_631 rfl (lv_at hl 2 rfl) ?_
  refine lv_aload_n hx hb dL_law_632 rfl (lv_at hl 0 rfl) ?_
  refine lv_iload_n hx hb dL_law_633 rfl (lv_at hl 3 rfl) ?_
  refine lv_iconst (v := 1) hx hb dL_law_634 (by decide) ?_
  refine lv_iadd hx hb dL_law_635 ?_
  refine wk_eqi (y := nI (i + 1)) (nI_add i 1) ?_
  refine va_sld hx hb hX hbl hbA hS (vp_in_nI (by omega) (by omega)) dL_law_636 ?_
  refine wk_eqi (y := a1) (by rw [nI_cl (by omega)]; exact ha1) ?_
  refine wk_callUP (As := [.int a1]) (rest := [.int (peaceV π σ a1)]) ⟨hx, hb, hml, hown, hts⟩ (c_X8_peace l D c n μ r a1 (all_G hall)) (cwV 1 hts gL_law_X8_peace rfl rfl rfl hd_X8_peace ⟨Nat.le_of_ble_eq_true rfl, Nat.le_of_ble_eq_true rfl⟩) hK hP hD hS hA (wr := lwA c x t p sp a b h g f o τ π ζ σ j1 η α φ j2 R I k) (ws' := lwA c x t p sp a b h g f o τ π ζ σ j1 η α φ j2 R I k ++ modelW c n (mpcF μ a1) r) List.perm_append_comm List.perm_append_comm rfl 0 rfl rfl rfl hl.1 rfl (Nat.le_of_ble_eq_true rfl) dL_law_637 (Nat.le_of_ble_eq_true rfl) (Nat.le_of_ble_eq_true rfl) (fun H locs hP hD hS => ?_)
  have he := e_peace hall a1
  refine lv_icmp_eq (tgt := 949) hx hb dL_law_640 (by decide) (fun _ => ?_) (fun q => absurd (he.1) q)
  exact hB x t p sp a b h g f o n τ π ζ σ j1 η α φ j2 R I k (mpcF μ a1) r H _ ls (he.2) hP hD hS hl

set_option maxHeartbeats 4000000 in
set_option maxRecDepth 100000 in
theorem lc_19 {pr : Program} {l : Launch} {ev : Env} {ss : State} {mm : MethodId} {below : List Frame} {meth : Method} {cd : Code} {bs L : Nat} {xs : Nat → Int32} {D : va_G} {c : Nat → ClassId} (hL : L ≤ 320) (C0 : lw_At pr ss mm meth cd bs L xs) (hK : va_K D vwCl (tysL c) ss) {i : Nat} (hi : i + 5 ≤ L) (hB : LB pr l ev ss mm below meth cd D c bs 949 i) : LB pr l ev ss mm below meth cd D c bs 645 i := by
  obtain ⟨hx, hb, hr, hml, hown, hts0, hX, hbl, hlocks, -⟩ := C0
  have hts : ∀ w ∈ wsL_law, w.before #[Value.ref bs] ss = true := fun w h => hts0 w (wsL_law_in w h)
  have hown : ss.vm.findClass RL = some mm.cls := hown
  have hA : ∀ q : Nat, ss.heap.size ≤ q → (fun q : Nat => ss.heap.size ≤ q) q := fun _ h => h
  have hbA : ¬ (fun q : Nat => ss.heap.size ≤ q) bs := Nat.not_le.mpr hbl
  intro x t p sp a b h g f o n τ π ζ σ β η α φ κ R I k μ r H locs ls hall hP hD hS hl
  obtain ⟨a1, ha1⟩ : ∃ v : Int32, xs (i + 1) = v := ⟨_, rfl⟩
  obtain ⟨a2, ha2⟩ : ∃ v : Int32, xs (i + 2) = v := ⟨_, rfl⟩
  obtain ⟨a3, ha3⟩ : ∃ v : Int32, xs (i + 3) = v := ⟨_, rfl⟩
  refine lv_aload_n hx hb dL_law_645 rfl (lv_at hl 1 rfl) ?_
  refine lv_aload_n hx hb dL_law_646 rfl (lv_at hl 0 rfl) ?_
  refine lv_iload_n hx hb dL_law_647 rfl (lv_at hl 3 rfl) ?_
  refine lv_iconst (v := 1) hx hb dL_law_648 (by decide) ?_
  refine lv_iadd hx hb dL_law_649 ?_
  refine wk_eqi (y := nI (i + 1)) (nI_add i 1) ?_
  refine va_sld hx hb hX hbl hbA hS (vp_in_nI (by omega) (by omega)) dL_law_650 ?_
  refine wk_eqi (y := a1) (by rw [nI_cl (by omega)]; exact ha1) ?_
  refine lv_aload_n hx hb dL_law_651 rfl (lv_at hl 0 rfl) ?_
  refine lv_iload_n hx hb dL_law_652 rfl (lv_at hl 3 rfl) ?_
  refine lv_iconst (v := 2) hx hb dL_law_653 (by decide) ?_
  refine lv_iadd hx hb dL_law_654 ?_
  refine wk_eqi (y := nI (i + 2)) (nI_add i 2) ?_
  refine va_sld hx hb hX hbl hbA hS (vp_in_nI (by omega) (by omega)) dL_law_655 ?_
  refine wk_eqi (y := a2) (by rw [nI_cl (by omega)]; exact ha2) ?_
  refine lv_aload_n hx hb dL_law_656 rfl (lv_at hl 0 rfl) ?_
  refine lv_iload_n hx hb dL_law_657 rfl (lv_at hl 3 rfl) ?_
  refine lv_iconst (v := 3) hx hb dL_law_658 (by decide) ?_
  refine lv_iadd hx hb dL_law_659 ?_
  refine wk_eqi (y := nI (i + 3)) (nI_add i 3) ?_
  refine va_sld hx hb hX hbl hbA hS (vp_in_nI (by omega) (by omega)) dL_law_660 ?_
  refine wk_eqi (y := a3) (by rw [nI_cl (by omega)]; exact ha3) ?_
  refine wk_callUP (As := [.int a1, .int a2, .int a3]) (rest := []) ⟨hx, hb, hml, hown, hts⟩ (c_X7_found l D c x t p sp a b h g f o k π φ a1 a2 a3 (hall.2.2.2.2.2.1.2.1)) (cwV 3 hts gL_law_X7_found rfl rfl rfl hd_X7_found ⟨Nat.le_of_ble_eq_true rfl, Nat.le_of_ble_eq_true rfl⟩) hK hP hD hS hA (wr := textW c t τ ++ pageW c sp ζ ++ affW c a σ ++ affW c b β ++ histW c h η ++ rgW c h R 10 ++ albumW c g α ++ rgW c g I 2 ++ courseW c o κ ++ modelW c n μ r) (ws' := lwA c x t p sp a b h g f o τ π ζ σ β η α (foundF π φ a1 a2 a3) κ R I k ++ modelW c n μ r) (wk_pm (fun y => by simp only [ct_app, lwA_ct]; omega)) (wk_pm (fun y => by simp only [ct_app, lwA_ct]; omega)) rfl 0 rfl rfl rfl hl.1 rfl (Nat.le_of_ble_eq_true rfl) dL_law_661 (Nat.le_of_ble_eq_true rfl) (Nat.le_of_ble_eq_true rfl) (fun H locs hP hD hS => ?_)
  refine lv_aload_n hx hb dL_law_664 rfl (lv_at hl 2 rfl) ?_
  refine lv_aload_n hx hb dL_law_665 rfl (lv_at hl 0 rfl) ?_
  refine lv_iload_n hx hb dL_law_666 rfl (lv_at hl 3 rfl) ?_
  refine lv_iconst (v := 1) hx hb dL_law_667 (by decide) ?_
  refine lv_iadd hx hb dL_law_668 ?_
  refine wk_eqi (y := nI (i + 1)) (nI_add i 1) ?_
  refine va_sld hx hb hX hbl hbA hS (vp_in_nI (by omega) (by omega)) dL_law_669 ?_
  refine wk_eqi (y := a1) (by rw [nI_cl (by omega)]; exact ha1) ?_
  refine lv_aload_n hx hb dL_law_670 rfl (lv_at hl 0 rfl) ?_
  refine lv_iload_n hx hb dL_law_671 rfl (lv_at hl 3 rfl) ?_
  refine lv_iconst (v := 2) hx hb dL_law_672 (by decide) ?_
  refine lv_iadd hx hb dL_law_673 ?_
  refine wk_eqi (y := nI (i + 2)) (nI_add i 2) ?_
  refine va_sld hx hb hX hbl hbA hS (vp_in_nI (by omega) (by omega)) dL_law_674 ?_
  refine wk_eqi (y := a2) (by rw [nI_cl (by omega)]; exact ha2) ?_
  refine lv_aload_n hx hb dL_law_675 rfl (lv_at hl 0 rfl) ?_
  refine lv_iload_n hx hb dL_law_676 rfl (lv_at hl 3 rfl) ?_
  refine lv_iconst (v := 3) hx hb dL_law_677 (by decide) ?_
  refine lv_iadd hx hb dL_law_678 ?_
  refine wk_eqi (y := nI (i + 3)) (nI_add i 3) ?_
  refine va_sld hx hb hX hbl hbA hS (vp_in_nI (by omega) (by omega)) dL_law_679 ?_
  refine wk_eqi (y := a3) (by rw [nI_cl (by omega)]; exact ha3) ?_
  refine wk_callUP (As := [.int a1, .int a2, .int a3]) (rest := [.int (foundV π φ a1 a2 a3)]) ⟨hx, hb, hml, hown, hts⟩ (c_X8_found l D c n μ r a1 a2 a3 ((fd_W hall.2.2.2.2.2.1).1)) (cwV 3 hts gL_law_X8_found rfl rfl rfl hd_X8_found ⟨Nat.le_of_ble_eq_true rfl, Nat.le_of_ble_eq_true rfl⟩) hK hP hD hS hA (wr := lwA c x t p sp a b h g f o τ π ζ σ β η α (foundF π φ a1 a2 a3) κ R I k) (ws' := lwA c x t p sp a b h g f o τ π ζ σ β η α (foundF π φ a1 a2 a3) κ R I k ++ modelW c n (mfoF μ a1 a2 a3) r) List.perm_append_comm List.perm_append_comm rfl 0 rfl rfl rfl hl.1 rfl (Nat.le_of_ble_eq_true rfl) dL_law_680 (Nat.le_of_ble_eq_true rfl) (Nat.le_of_ble_eq_true rfl) (fun H locs hP hD hS => ?_)
  have he := e_found hall a1 a2 a3
  refine lv_icmp_eq (tgt := 949) hx hb dL_law_683 (by decide) (fun _ => ?_) (fun q => absurd (he.1) q)
  exact hB x t p sp a b h g f o n τ π ζ σ β η α (foundF π φ a1 a2 a3) κ R I k (mfoF μ a1 a2 a3) r H _ ls (he.2) hP hD hS hl

set_option maxHeartbeats 4000000 in
set_option maxRecDepth 100000 in
theorem lc_20 {pr : Program} {l : Launch} {ev : Env} {ss : State} {mm : MethodId} {below : List Frame} {meth : Method} {cd : Code} {bs L : Nat} {xs : Nat → Int32} {D : va_G} {c : Nat → ClassId} (hL : L ≤ 320) (C0 : lw_At pr ss mm meth cd bs L xs) (hK : va_K D vwCl (tysL c) ss) {i : Nat} (hi : i + 5 ≤ L) (hB : LB pr l ev ss mm below meth cd D c bs 949 i) : LB pr l ev ss mm below meth cd D c bs 688 i := by
  obtain ⟨hx, hb, hr, hml, hown, hts0, hX, hbl, hlocks, -⟩ := C0
  have hts : ∀ w ∈ wsL_law, w.before #[Value.ref bs] ss = true := fun w h => hts0 w (wsL_law_in w h)
  have hown : ss.vm.findClass RL = some mm.cls := hown
  have hA : ∀ q : Nat, ss.heap.size ≤ q → (fun q : Nat => ss.heap.size ≤ q) q := fun _ h => h
  have hbA : ¬ (fun q : Nat => ss.heap.size ≤ q) bs := Nat.not_le.mpr hbl
  intro x t p sp a b h g f o n τ π ζ σ β η α φ κ R I k μ r H locs ls hall hP hD hS hl
  refine lv_aload_n hx hb dL_law_688 rfl (lv_at hl 1 rfl) ?_
  refine wk_callUP (As := []) (rest := []) ⟨hx, hb, hml, hown, hts⟩ (c_X7_forget l D c x t p sp a b h g f o k φ) (cwV 0 hts gL_law_X7_forget rfl rfl rfl hd_X7_forget ⟨Nat.le_of_ble_eq_true rfl, Nat.le_of_ble_eq_true rfl⟩) hK hP hD hS hA (wr := textW c t τ ++ pageW c p π ++ pageW c sp ζ ++ affW c a σ ++ affW c b β ++ histW c h η ++ rgW c h R 10 ++ albumW c g α ++ rgW c g I 2 ++ courseW c o κ ++ modelW c n μ r) (ws' := lwA c x t p sp a b h g f o τ π ζ σ β η α (dropF φ) κ R I k ++ modelW c n μ r) (wk_pm (fun y => by simp only [ct_app, lwA_ct]; omega)) (wk_pm (fun y => by simp only [ct_app, lwA_ct]; omega)) rfl 0 rfl rfl rfl hl.1 rfl (Nat.le_of_ble_eq_true rfl) dL_law_689 (Nat.le_of_ble_eq_true rfl) (Nat.le_of_ble_eq_true rfl) (fun H locs hP hD hS => ?_)
  refine lv_aload_n hx hb dL_law_692 rfl (lv_at hl 2 rfl) ?_
  refine wk_callUP (As := []) (rest := [.int (φ 0 0)]) ⟨hx, hb, hml, hown, hts⟩ (c_X8_forget l D c n μ r) (cwV 0 hts gL_law_X8_forget rfl rfl rfl hd_X8_forget ⟨Nat.le_of_ble_eq_true rfl, Nat.le_of_ble_eq_true rfl⟩) hK hP hD hS hA (wr := lwA c x t p sp a b h g f o τ π ζ σ β η α (dropF φ) κ R I k) (ws' := lwA c x t p sp a b h g f o τ π ζ σ β η α (dropF φ) κ R I k ++ modelW c n (mfgF μ) r) List.perm_append_comm List.perm_append_comm rfl 0 rfl rfl rfl hl.1 rfl (Nat.le_of_ble_eq_true rfl) dL_law_693 (Nat.le_of_ble_eq_true rfl) (Nat.le_of_ble_eq_true rfl) (fun H locs hP hD hS => ?_)
  have he := e_forget hall 
  refine lv_icmp_eq (tgt := 949) hx hb dL_law_696 (by decide) (fun _ => ?_) (fun q => absurd (he.1) q)
  exact hB x t p sp a b h g f o n τ π ζ σ β η α (dropF φ) κ R I k (mfgF μ) r H _ ls (he.2) hP hD hS hl

set_option maxHeartbeats 4000000 in
set_option maxRecDepth 100000 in
theorem lc_21 {pr : Program} {l : Launch} {ev : Env} {ss : State} {mm : MethodId} {below : List Frame} {meth : Method} {cd : Code} {bs L : Nat} {xs : Nat → Int32} {D : va_G} {c : Nat → ClassId} (hL : L ≤ 320) (C0 : lw_At pr ss mm meth cd bs L xs) (hK : va_K D vwCl (tysL c) ss) {i : Nat} (hi : i + 5 ≤ L) (hB : LB pr l ev ss mm below meth cd D c bs 949 i) : LB pr l ev ss mm below meth cd D c bs 701 i := by
  obtain ⟨hx, hb, hr, hml, hown, hts0, hX, hbl, hlocks, -⟩ := C0
  have hts : ∀ w ∈ wsL_law, w.before #[Value.ref bs] ss = true := fun w h => hts0 w (wsL_law_in w h)
  have hown : ss.vm.findClass RL = some mm.cls := hown
  have hA : ∀ q : Nat, ss.heap.size ≤ q → (fun q : Nat => ss.heap.size ≤ q) q := fun _ h => h
  have hbA : ¬ (fun q : Nat => ss.heap.size ≤ q) bs := Nat.not_le.mpr hbl
  intro x t p sp a b h g f o n τ π ζ σ β η α φ κ R I k μ r H locs ls hall hP hD hS hl
  obtain ⟨a1, ha1⟩ : ∃ v : Int32, xs (i + 1) = v := ⟨_, rfl⟩
  obtain ⟨a2, ha2⟩ : ∃ v : Int32, xs (i + 2) = v := ⟨_, rfl⟩
  refine lv_aload_n hx hb dL_law_701 rfl (lv_at hl 1 rfl) ?_
  refine lv_aload_n hx hb dL_law_702 rfl (lv_at hl 0 rfl) ?_
  refine lv_iload_n hx hb dL_law_703 rfl (lv_at hl 3 rfl) ?_
  refine lv_iconst (v := 1) hx hb dL_law_704 (by decide) ?_
  refine lv_iadd hx hb dL_law_705 ?_
  refine wk_eqi (y := nI (i + 1)) (nI_add i 1) ?_
  refine va_sld hx hb hX hbl hbA hS (vp_in_nI (by omega) (by omega)) dL_law_706 ?_
  refine wk_eqi (y := a1) (by rw [nI_cl (by omega)]; exact ha1) ?_
  refine lv_aload_n hx hb dL_law_707 rfl (lv_at hl 0 rfl) ?_
  refine lv_iload_n hx hb dL_law_708 rfl (lv_at hl 3 rfl) ?_
  refine lv_iconst (v := 2) hx hb dL_law_709 (by decide) ?_
  refine lv_iadd hx hb dL_law_710 ?_
  refine wk_eqi (y := nI (i + 2)) (nI_add i 2) ?_
  refine va_sld hx hb hX hbl hbA hS (vp_in_nI (by omega) (by omega)) dL_law_711 ?_
  refine wk_eqi (y := a2) (by rw [nI_cl (by omega)]; exact ha2) ?_
  refine wk_callUP (As := [.int a1, .int a2]) (rest := []) ⟨hx, hb, hml, hown, hts⟩ (c_X7_mayBe l D c x t p sp a b h g f o k π φ a1 a2 (hall.2.1.2.1) (hall.2.2.2.2.2.1.2.1)) (cwV 2 hts gL_law_X7_mayBe rfl rfl rfl hd_X7_mayBe ⟨Nat.le_of_ble_eq_true rfl, Nat.le_of_ble_eq_true rfl⟩) hK hP hD hS hA (wr := textW c t τ ++ pageW c sp ζ ++ affW c a σ ++ affW c b β ++ histW c h η ++ rgW c h R 10 ++ albumW c g α ++ rgW c g I 2 ++ courseW c o κ ++ modelW c n μ r) (ws' := lwA c x t p sp a b h g f o τ π ζ σ β η α φ κ R I k ++ modelW c n μ r) (wk_pm (fun y => by simp only [ct_app, lwA_ct]; omega)) (wk_pm (fun y => by simp only [ct_app, lwA_ct]; omega)) rfl 0 rfl rfl rfl hl.1 rfl (Nat.le_of_ble_eq_true rfl) dL_law_712 (Nat.le_of_ble_eq_true rfl) (Nat.le_of_ble_eq_true rfl) (fun H locs hP hD hS => ?_)
  refine lv_aload_n hx hb dL_law_715 rfl (lv_at hl 2 rfl) ?_
  refine lv_aload_n hx hb dL_law_716 rfl (lv_at hl 0 rfl) ?_
  refine lv_iload_n hx hb dL_law_717 rfl (lv_at hl 3 rfl) ?_
  refine lv_iconst (v := 1) hx hb dL_law_718 (by decide) ?_
  refine lv_iadd hx hb dL_law_719 ?_
  refine wk_eqi (y := nI (i + 1)) (nI_add i 1) ?_
  refine va_sld hx hb hX hbl hbA hS (vp_in_nI (by omega) (by omega)) dL_law_720 ?_
  refine wk_eqi (y := a1) (by rw [nI_cl (by omega)]; exact ha1) ?_
  refine lv_aload_n hx hb dL_law_721 rfl (lv_at hl 0 rfl) ?_
  refine lv_iload_n hx hb dL_law_722 rfl (lv_at hl 3 rfl) ?_
  refine lv_iconst (v := 2) hx hb dL_law_723 (by decide) ?_
  refine lv_iadd hx hb dL_law_724 ?_
  refine wk_eqi (y := nI (i + 2)) (nI_add i 2) ?_
  refine va_sld hx hb hX hbl hbA hS (vp_in_nI (by omega) (by omega)) dL_law_725 ?_
  refine wk_eqi (y := a2) (by rw [nI_cl (by omega)]; exact ha2) ?_
  refine wk_callUP (As := [.int a1, .int a2]) (rest := [.int (mayBeV π φ a1 a2)]) ⟨hx, hb, hml, hown, hts⟩ (c_X8_mayBe l D c n μ r a1 a2 ((all_G hall).1.1) ((fd_W hall.2.2.2.2.2.1).1) ((fd_W hall.2.2.2.2.2.1).2)) (cwV 2 hts gL_law_X8_mayBe rfl rfl rfl hd_X8_mayBe ⟨Nat.le_of_ble_eq_true rfl, Nat.le_of_ble_eq_true rfl⟩) hK hP hD hS hA (wr := lwA c x t p sp a b h g f o τ π ζ σ β η α φ κ R I k) (ws' := lwA c x t p sp a b h g f o τ π ζ σ β η α φ κ R I k ++ modelW c n μ r) List.perm_append_comm List.perm_append_comm rfl 0 rfl rfl rfl hl.1 rfl (Nat.le_of_ble_eq_true rfl) dL_law_726 (Nat.le_of_ble_eq_true rfl) (Nat.le_of_ble_eq_true rfl) (fun H locs hP hD hS => ?_)
  have he := e_mayBe hall a1 a2
  refine lv_icmp_eq (tgt := 949) hx hb dL_law_729 (by decide) (fun _ => ?_) (fun q => absurd (he) q)
  exact hB x t p sp a b h g f o n τ π ζ σ β η α φ κ R I k μ r H _ ls (hall) hP hD hS hl

set_option maxHeartbeats 4000000 in
set_option maxRecDepth 100000 in
theorem lc_22 {pr : Program} {l : Launch} {ev : Env} {ss : State} {mm : MethodId} {below : List Frame} {meth : Method} {cd : Code} {bs L : Nat} {xs : Nat → Int32} {D : va_G} {c : Nat → ClassId} (hL : L ≤ 320) (C0 : lw_At pr ss mm meth cd bs L xs) (hK : va_K D vwCl (tysL c) ss) {i : Nat} (hi : i + 5 ≤ L) (hB : LB pr l ev ss mm below meth cd D c bs 949 i) : LB pr l ev ss mm below meth cd D c bs 734 i := by
  obtain ⟨hx, hb, hr, hml, hown, hts0, hX, hbl, hlocks, -⟩ := C0
  have hts : ∀ w ∈ wsL_law, w.before #[Value.ref bs] ss = true := fun w h => hts0 w (wsL_law_in w h)
  have hown : ss.vm.findClass RL = some mm.cls := hown
  have hA : ∀ q : Nat, ss.heap.size ≤ q → (fun q : Nat => ss.heap.size ≤ q) q := fun _ h => h
  have hbA : ¬ (fun q : Nat => ss.heap.size ≤ q) bs := Nat.not_le.mpr hbl
  intro x t p sp a b h g f o n τ π ζ σ β η α φ κ R I k μ r H locs ls hall hP hD hS hl
  obtain ⟨a1, ha1⟩ : ∃ v : Int32, xs (i + 1) = v := ⟨_, rfl⟩
  obtain ⟨a2, ha2⟩ : ∃ v : Int32, xs (i + 2) = v := ⟨_, rfl⟩
  obtain ⟨a3, ha3⟩ : ∃ v : Int32, xs (i + 3) = v := ⟨_, rfl⟩
  obtain ⟨a4, ha4⟩ : ∃ v : Int32, xs (i + 4) = v := ⟨_, rfl⟩
  refine lv_aload_n hx hb dL_law_734 rfl (lv_at hl 1 rfl) ?_
  refine lv_aload_n hx hb dL_law_735 rfl (lv_at hl 0 rfl) ?_
  refine lv_iload_n hx hb dL_law_736 rfl (lv_at hl 3 rfl) ?_
  refine lv_iconst (v := 1) hx hb dL_law_737 (by decide) ?_
  refine lv_iadd hx hb dL_law_738 ?_
  refine wk_eqi (y := nI (i + 1)) (nI_add i 1) ?_
  refine va_sld hx hb hX hbl hbA hS (vp_in_nI (by omega) (by omega)) dL_law_739 ?_
  refine wk_eqi (y := a1) (by rw [nI_cl (by omega)]; exact ha1) ?_
  refine lv_aload_n hx hb dL_law_740 rfl (lv_at hl 0 rfl) ?_
  refine lv_iload_n hx hb dL_law_741 rfl (lv_at hl 3 rfl) ?_
  refine lv_iconst (v := 2) hx hb dL_law_742 (by decide) ?_
  refine lv_iadd hx hb dL_law_743 ?_
  refine wk_eqi (y := nI (i + 2)) (nI_add i 2) ?_
  refine va_sld hx hb hX hbl hbA hS (vp_in_nI (by omega) (by omega)) dL_law_744 ?_
  refine wk_eqi (y := a2) (by rw [nI_cl (by omega)]; exact ha2) ?_
  refine lv_aload_n hx hb dL_law_745 rfl (lv_at hl 0 rfl) ?_
  refine lv_iload_n hx hb dL_law_746 rfl (lv_at hl 3 rfl) ?_
  refine lv_iconst (v := 3) hx hb dL_law_747 (by decide) ?_
  refine lv_iadd hx hb dL_law_748 ?_
  refine wk_eqi (y := nI (i + 3)) (nI_add i 3) ?_
  refine va_sld hx hb hX hbl hbA hS (vp_in_nI (by omega) (by omega)) dL_law_749 ?_
  refine wk_eqi (y := a3) (by rw [nI_cl (by omega)]; exact ha3) ?_
  refine lv_aload_n hx hb dL_law_750 rfl (lv_at hl 0 rfl) ?_
  refine lv_iload_n hx hb dL_law_751 rfl (lv_at hl 3 rfl) ?_
  refine lv_iconst (v := 4) hx hb dL_law_752 (by decide) ?_
  refine lv_iadd hx hb dL_law_753 ?_
  refine wk_eqi (y := nI (i + 4)) (nI_add i 4) ?_
  refine va_sld hx hb hX hbl hbA hS (vp_in_nI (by omega) (by omega)) dL_law_754 ?_
  refine wk_eqi (y := a4) (by rw [nI_cl (by omega)]; exact ha4) ?_
  refine wk_callJP (As := [.int a1, .int a2, .int a3, .int a4]) (rest := []) ⟨hx, hb, hml, hown, hts⟩ (c_X7_odds l D c x t p sp a b h g f o k π σ κ a1 a2 a3 a4 (hall.2.1.2.1)) (cwV 4 hts gL_law_X7_odds rfl rfl rfl hd_X7_odds ⟨Nat.le_of_ble_eq_true rfl, Nat.le_of_ble_eq_true rfl⟩) hK hP hD hS hA (wr := textW c t τ ++ pageW c sp ζ ++ affW c b β ++ histW c h η ++ rgW c h R 10 ++ albumW c g α ++ rgW c g I 2 ++ findW c f φ ++ modelW c n μ r) (wsj := fun j1 j2 => lwA c x t p sp a b h g f o τ π ζ σ β η α φ j2 R I k ++ modelW c n μ r) (wk_pm (fun y => by simp only [ct_app, lwA_ct]; omega)) (fun j1 j2 => wk_pm (fun y => by simp only [ct_app, lwA_ct]; omega)) (fun _ _ => rfl) 0 rfl rfl rfl hl.1 rfl (Nat.le_of_ble_eq_true rfl) dL_law_755 (Nat.le_of_ble_eq_true rfl) (Nat.le_of_ble_eq_true rfl) (fun j1 j2 H locs hP hD hS => ?_)
  have hP : va_P D vwCl (lwA c x t p sp a b h g f o τ π ζ σ β η α φ j2 R I k ++ modelW c n μ r) H := hP
  have hD : va_D (fun q : Nat => ss.heap.size ≤ q) (lwA c x t p sp a b h g f o τ π ζ σ β η α φ j2 R I k ++ modelW c n μ r) := hD
  refine lv_aload_n hx hb dL_law_758 rfl (lv_at hl 2 rfl) ?_
  refine lv_aload_n hx hb dL_law_759 rfl (lv_at hl 0 rfl) ?_
  refine lv_iload_n hx hb dL_law_760 rfl (lv_at hl 3 rfl) ?_
  refine lv_iconst (v := 1) hx hb dL_law_761 (by decide) ?_
  refine lv_iadd hx hb dL_law_762 ?_
  refine wk_eqi (y := nI (i + 1)) (nI_add i 1) ?_
  refine va_sld hx hb hX hbl hbA hS (vp_in_nI (by omega) (by omega)) dL_law_763 ?_
  refine wk_eqi (y := a1) (by rw [nI_cl (by omega)]; exact ha1) ?_
  refine lv_aload_n hx hb dL_law_764 rfl (lv_at hl 0 rfl) ?_
  refine lv_iload_n hx hb dL_law_765 rfl (lv_at hl 3 rfl) ?_
  refine lv_iconst (v := 2) hx hb dL_law_766 (by decide) ?_
  refine lv_iadd hx hb dL_law_767 ?_
  refine wk_eqi (y := nI (i + 2)) (nI_add i 2) ?_
  refine va_sld hx hb hX hbl hbA hS (vp_in_nI (by omega) (by omega)) dL_law_768 ?_
  refine wk_eqi (y := a2) (by rw [nI_cl (by omega)]; exact ha2) ?_
  refine lv_aload_n hx hb dL_law_769 rfl (lv_at hl 0 rfl) ?_
  refine lv_iload_n hx hb dL_law_770 rfl (lv_at hl 3 rfl) ?_
  refine lv_iconst (v := 3) hx hb dL_law_771 (by decide) ?_
  refine lv_iadd hx hb dL_law_772 ?_
  refine wk_eqi (y := nI (i + 3)) (nI_add i 3) ?_
  refine va_sld hx hb hX hbl hbA hS (vp_in_nI (by omega) (by omega)) dL_law_773 ?_
  refine wk_eqi (y := a3) (by rw [nI_cl (by omega)]; exact ha3) ?_
  refine lv_aload_n hx hb dL_law_774 rfl (lv_at hl 0 rfl) ?_
  refine lv_iload_n hx hb dL_law_775 rfl (lv_at hl 3 rfl) ?_
  refine lv_iconst (v := 4) hx hb dL_law_776 (by decide) ?_
  refine lv_iadd hx hb dL_law_777 ?_
  refine wk_eqi (y := nI (i + 4)) (nI_add i 4) ?_
  refine va_sld hx hb hX hbl hbA hS (vp_in_nI (by omega) (by omega)) dL_law_778 ?_
  refine wk_eqi (y := a4) (by rw [nI_cl (by omega)]; exact ha4) ?_
  refine wk_callUP (As := [.int a1, .int a2, .int a3, .int a4]) (rest := [.int (oddsV π σ a1 a2 a3 a4)]) ⟨hx, hb, hml, hown, hts⟩ (c_X8_odds l D c n μ r a1 a2 a3 a4 (all_G hall) (fun ok _ => od_H hall _ _ _ _ ok)) (cwV 4 hts gL_law_X8_odds rfl rfl rfl hd_X8_odds ⟨Nat.le_of_ble_eq_true rfl, Nat.le_of_ble_eq_true rfl⟩) hK hP hD hS hA (wr := lwA c x t p sp a b h g f o τ π ζ σ β η α φ j2 R I k) (ws' := lwA c x t p sp a b h g f o τ π ζ σ β η α φ j2 R I k ++ modelW c n (mooF μ a1 a2 a3 a4) r) List.perm_append_comm List.perm_append_comm rfl 0 rfl rfl rfl hl.1 rfl (Nat.le_of_ble_eq_true rfl) dL_law_779 (Nat.le_of_ble_eq_true rfl) (Nat.le_of_ble_eq_true rfl) (fun H locs hP hD hS => ?_)
  have he := e_odds hall a1 a2 a3 a4
  refine lv_icmp_eq (tgt := 949) hx hb dL_law_782 (by decide) (fun _ => ?_) (fun q => absurd (he.1) q)
  exact hB x t p sp a b h g f o n τ π ζ σ β η α φ j2 R I k (mooF μ a1 a2 a3 a4) r H _ ls (he.2) hP hD hS hl

set_option maxHeartbeats 4000000 in
set_option maxRecDepth 100000 in
theorem lc_23 {pr : Program} {l : Launch} {ev : Env} {ss : State} {mm : MethodId} {below : List Frame} {meth : Method} {cd : Code} {bs L : Nat} {xs : Nat → Int32} {D : va_G} {c : Nat → ClassId} (hL : L ≤ 320) (C0 : lw_At pr ss mm meth cd bs L xs) (hK : va_K D vwCl (tysL c) ss) {i : Nat} (hi : i + 5 ≤ L) (hB : LB pr l ev ss mm below meth cd D c bs 949 i) : LB pr l ev ss mm below meth cd D c bs 787 i := by
  obtain ⟨hx, hb, hr, hml, hown, hts0, hX, hbl, hlocks, -⟩ := C0
  have hts : ∀ w ∈ wsL_law, w.before #[Value.ref bs] ss = true := fun w h => hts0 w (wsL_law_in w h)
  have hown : ss.vm.findClass RL = some mm.cls := hown
  have hA : ∀ q : Nat, ss.heap.size ≤ q → (fun q : Nat => ss.heap.size ≤ q) q := fun _ h => h
  have hbA : ¬ (fun q : Nat => ss.heap.size ≤ q) bs := Nat.not_le.mpr hbl
  intro x t p sp a b h g f o n τ π ζ σ β η α φ κ R I k μ r H locs ls hall hP hD hS hl
  refine lv_aload_n hx hb dL_law_787 rfl (lv_at hl 1 rfl) ?_
  refine wk_callRP (As := []) (rest := []) ⟨hx, hb, hml, hown, hts⟩ (c_X7_most l D c x t p sp a b h g f o k π σ (hall.2.1.2.1.n) ((all_A hall).1)) (cwV 0 hts gL_law_X7_most rfl rfl rfl hd_X7_most ⟨Nat.le_of_ble_eq_true rfl, Nat.le_of_ble_eq_true rfl⟩) hK hP (wr := textW c t τ ++ pageW c sp ζ ++ affW c b β ++ histW c h η ++ rgW c h R 10 ++ albumW c g α ++ rgW c g I 2 ++ findW c f φ ++ courseW c o κ ++ modelW c n μ r) (wk_pm (fun y => by simp only [ct_app, lwA_ct]; omega)) 0 rfl rfl rfl hl.1 rfl (Nat.le_of_ble_eq_true rfl) dL_law_788 (Nat.le_of_ble_eq_true rfl) (Nat.le_of_ble_eq_true rfl) ?_
  refine lv_aload_n hx hb dL_law_791 rfl (lv_at hl 2 rfl) ?_
  refine wk_callRP (As := []) (rest := [.int (mostV π σ)]) ⟨hx, hb, hml, hown, hts⟩ (c_X8_most l D c n μ r ((all_G hall).1.1) ((all_G hall).2.1)) (cwV 0 hts gL_law_X8_most rfl rfl rfl hd_X8_most ⟨Nat.le_of_ble_eq_true rfl, Nat.le_of_ble_eq_true rfl⟩) hK hP (wr := lwA c x t p sp a b h g f o τ π ζ σ β η α φ κ R I k) List.perm_append_comm 0 rfl rfl rfl hl.1 rfl (Nat.le_of_ble_eq_true rfl) dL_law_792 (Nat.le_of_ble_eq_true rfl) (Nat.le_of_ble_eq_true rfl) ?_
  have he := e_most hall 
  refine lv_icmp_eq (tgt := 949) hx hb dL_law_795 (by decide) (fun _ => ?_) (fun q => absurd (he) q)
  exact hB x t p sp a b h g f o n τ π ζ σ β η α φ κ R I k μ r H _ ls (hall) hP hD hS hl

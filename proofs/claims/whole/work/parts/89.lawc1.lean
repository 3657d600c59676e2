set_option maxHeartbeats 4000000 in
set_option maxRecDepth 100000 in
theorem lc_8 {pr : Program} {l : Launch} {ev : Env} {ss : State} {mm : MethodId} {below : List Frame} {meth : Method} {cd : Code} {bs L : Nat} {xs : Nat → Int32} {D : va_G} {c : Nat → ClassId} (hL : L ≤ 320) (C0 : lw_At pr ss mm meth cd bs L xs) (hK : va_K D vwCl (tysL c) ss) {i : Nat} (hi : i + 5 ≤ L) (hB : LB pr l ev ss mm below meth cd D c bs 949 i) : LB pr l ev ss mm below meth cd D c bs 372 i := by
  obtain ⟨hx, hb, hr, hml, hown, hts0, hX, hbl, hlocks, -⟩ := C0
  have hts : ∀ w ∈ wsL_law, w.before #[Value.ref bs] ss = true := fun w h => hts0 w (wsL_law_in w h)
  have hown : ss.vm.findClass RL = some mm.cls := hown
  have hA : ∀ q : Nat, ss.heap.size ≤ q → (fun q : Nat => ss.heap.size ≤ q) q := fun _ h => h
  have hbA : ¬ (fun q : Nat => ss.heap.size ≤ q) bs := Nat.not_le.mpr hbl
  intro x t p sp a b h g f o n τ π ζ σ β η α φ κ R I k μ r H locs ls hall hP hD hS hl
  have hnx := hall.2.2.2.1.1.2.2
  refine lv_aload_n hx hb dL_law_372 rfl (lv_at hl 1 rfl) ?_
  refine wk_callUP (As := []) (rest := []) ⟨hx, hb, hml, hown, hts⟩ (c_X7_day l D c x t p sp a b h g f o k π σ η (R ((nX η))) (hall.2.1.2.1) (all_A hall) (hall.2.2.2.1.1)) (cwV 0 hts gL_law_X7_day rfl rfl rfl hd_X7_day ⟨Nat.le_of_ble_eq_true rfl, Nat.le_of_ble_eq_true rfl⟩) hK hP hD hS hA (wr := textW c t τ ++ pageW c sp ζ ++ affW c b β ++ rgX c h R ((nX η)) 10 ++ albumW c g α ++ rgW c g I 2 ++ findW c f φ ++ courseW c o κ ++ modelW c n μ r) (ws' := lwA c x t p sp a b h g f o τ π ζ (dayAA π σ) β (dayH σ η) α φ κ (va_up R ((nX η)) (dayR σ (R ((nX η))))) I k ++ modelW c n μ r) (wk_pm (fun y => by have hr := rg_in c h R (j := (nX η)) (n := 10) (hnx) y; simp only [ct_app, lwA_ct]; omega)) (wk_pm (fun y => by have hr := rg_up c h R (dayR σ (R ((nX η)))) (j := (nX η)) (n := 10) hnx y; simp only [ct_app, lwA_ct]; omega)) rfl 0 rfl rfl rfl hl.1 rfl (Nat.le_of_ble_eq_true rfl) dL_law_373 (Nat.le_of_ble_eq_true rfl) (Nat.le_of_ble_eq_true rfl) (fun H locs hP hD hS => ?_)
  refine lv_aload_n hx hb dL_law_376 rfl (lv_at hl 2 rfl) ?_
  refine wk_callUP (As := []) (rest := [.int (dayV π σ)]) ⟨hx, hb, hml, hown, hts⟩ (c_X8_day l D c n μ r (all_G hall) (all_U hall)) (cwV 0 hts gL_law_X8_day rfl rfl rfl hd_X8_day ⟨Nat.le_of_ble_eq_true rfl, Nat.le_of_ble_eq_true rfl⟩) hK hP hD hS hA (wr := lwA c x t p sp a b h g f o τ π ζ (dayAA π σ) β (dayH σ η) α φ κ (va_up R ((nX η)) (dayR σ (R ((nX η))))) I k) (ws' := lwA c x t p sp a b h g f o τ π ζ (dayAA π σ) β (dayH σ η) α φ κ (va_up R ((nX η)) (dayR σ (R ((nX η))))) I k ++ modelW c n (mdF μ) r) List.perm_append_comm List.perm_append_comm rfl 0 rfl rfl rfl hl.1 rfl (Nat.le_of_ble_eq_true rfl) dL_law_377 (Nat.le_of_ble_eq_true rfl) (Nat.le_of_ble_eq_true rfl) (fun H locs hP hD hS => ?_)
  have he := e_day hall 
  refine lv_icmp_eq (tgt := 949) hx hb dL_law_380 (by decide) (fun _ => ?_) (fun q => absurd (he.1) q)
  exact hB x t p sp a b h g f o n τ π ζ (dayAA π σ) β (dayH σ η) α φ κ (va_up R ((nX η)) (dayR σ (R ((nX η))))) I k (mdF μ) r H _ ls (he.2) hP hD hS hl

set_option maxHeartbeats 4000000 in
set_option maxRecDepth 100000 in
theorem lc_9 {pr : Program} {l : Launch} {ev : Env} {ss : State} {mm : MethodId} {below : List Frame} {meth : Method} {cd : Code} {bs L : Nat} {xs : Nat → Int32} {D : va_G} {c : Nat → ClassId} (hL : L ≤ 320) (C0 : lw_At pr ss mm meth cd bs L xs) (hK : va_K D vwCl (tysL c) ss) {i : Nat} (hi : i + 5 ≤ L) (hB : LB pr l ev ss mm below meth cd D c bs 949 i) : LB pr l ev ss mm below meth cd D c bs 385 i := by
  obtain ⟨hx, hb, hr, hml, hown, hts0, hX, hbl, hlocks, -⟩ := C0
  have hts : ∀ w ∈ wsL_law, w.before #[Value.ref bs] ss = true := fun w h => hts0 w (wsL_law_in w h)
  have hown : ss.vm.findClass RL = some mm.cls := hown
  have hA : ∀ q : Nat, ss.heap.size ≤ q → (fun q : Nat => ss.heap.size ≤ q) q := fun _ h => h
  have hbA : ¬ (fun q : Nat => ss.heap.size ≤ q) bs := Nat.not_le.mpr hbl
  intro x t p sp a b h g f o n τ π ζ σ β η α φ κ R I k μ r H locs ls hall hP hD hS hl
  obtain ⟨a1, ha1⟩ : ∃ v : Int32, xs (i + 1) = v := ⟨_, rfl⟩
  have hnx := hall.2.2.2.1.1.2.2
  refine lv_aload_n hx hb dL_law_385 rfl (lv_at hl 1 rfl) ?_
  refine lv_aload_n hx hb dL_law_386 rfl (lv_at hl 0 rfl) ?_
  refine lv_iload_n hx hb dL_law_387 rfl (lv_at hl 3 rfl) ?_
  refine lv_iconst (v := 1) hx hb dL_law_388 (by decide) ?_
  refine lv_iadd hx hb dL_law_389 ?_
  refine wk_eqi (y := nI (i + 1)) (nI_add i 1) ?_
  refine va_sld hx hb hX hbl hbA hS (vp_in_nI (by omega) (by omega)) dL_law_390 ?_
  refine wk_eqi (y := a1) (by rw [nI_cl (by omega)]; exact ha1) ?_
  refine wk_callUP (As := [.int a1]) (rest := []) ⟨hx, hb, hml, hown, hts⟩ (c_X7_lays l D c x t p sp a b h g f o k π σ η (R ((nX η))) a1 (hall.2.1.2.1) (all_A hall) (hall.2.2.2.1.1)) (cwV 1 hts gL_law_X7_lays rfl rfl rfl hd_X7_lays ⟨Nat.le_of_ble_eq_true rfl, Nat.le_of_ble_eq_true rfl⟩) hK hP hD hS hA (wr := textW c t τ ++ pageW c sp ζ ++ affW c b β ++ rgX c h R ((nX η)) 10 ++ albumW c g α ++ rgW c g I 2 ++ findW c f φ ++ courseW c o κ ++ modelW c n μ r) (ws' := lwA c x t p sp a b h g f o τ π ζ (laysA π σ a1) β (laysH π σ η a1) α φ κ (va_up R ((nX η)) (laysR π σ (R ((nX η))) a1)) I k ++ modelW c n μ r) (wk_pm (fun y => by have hr := rg_in c h R (j := (nX η)) (n := 10) (hnx) y; simp only [ct_app, lwA_ct]; omega)) (wk_pm (fun y => by have hr := rg_up c h R (laysR π σ (R ((nX η))) a1) (j := (nX η)) (n := 10) hnx y; simp only [ct_app, lwA_ct]; omega)) rfl 0 rfl rfl rfl hl.1 rfl (Nat.le_of_ble_eq_true rfl) dL_law_391 (Nat.le_of_ble_eq_true rfl) (Nat.le_of_ble_eq_true rfl) (fun H locs hP hD hS => ?_)
  refine lv_aload_n hx hb dL_law_394 rfl (lv_at hl 2 rfl) ?_
  refine lv_aload_n hx hb dL_law_395 rfl (lv_at hl 0 rfl) ?_
  refine lv_iload_n hx hb dL_law_396 rfl (lv_at hl 3 rfl) ?_
  refine lv_iconst (v := 1) hx hb dL_law_397 (by decide) ?_
  refine lv_iadd hx hb dL_law_398 ?_
  refine wk_eqi (y := nI (i + 1)) (nI_add i 1) ?_
  refine va_sld hx hb hX hbl hbA hS (vp_in_nI (by omega) (by omega)) dL_law_399 ?_
  refine wk_eqi (y := a1) (by rw [nI_cl (by omega)]; exact ha1) ?_
  refine wk_callUP (As := [.int a1]) (rest := [.int (laysV π σ a1)]) ⟨hx, hb, hml, hown, hts⟩ (c_X8_lays l D c n μ r a1 ((all_G hall).1.1) ((all_G hall).2.1) ((all_G hall).2.2.1) (all_U hall)) (cwV 1 hts gL_law_X8_lays rfl rfl rfl hd_X8_lays ⟨Nat.le_of_ble_eq_true rfl, Nat.le_of_ble_eq_true rfl⟩) hK hP hD hS hA (wr := lwA c x t p sp a b h g f o τ π ζ (laysA π σ a1) β (laysH π σ η a1) α φ κ (va_up R ((nX η)) (laysR π σ (R ((nX η))) a1)) I k) (ws' := lwA c x t p sp a b h g f o τ π ζ (laysA π σ a1) β (laysH π σ η a1) α φ κ (va_up R ((nX η)) (laysR π σ (R ((nX η))) a1)) I k ++ modelW c n (mldF μ a1) r) List.perm_append_comm List.perm_append_comm rfl 0 rfl rfl rfl hl.1 rfl (Nat.le_of_ble_eq_true rfl) dL_law_400 (Nat.le_of_ble_eq_true rfl) (Nat.le_of_ble_eq_true rfl) (fun H locs hP hD hS => ?_)
  have he := e_lays hall a1
  refine lv_icmp_eq (tgt := 949) hx hb dL_law_403 (by decide) (fun _ => ?_) (fun q => absurd (he.1) q)
  exact hB x t p sp a b h g f o n τ π ζ (laysA π σ a1) β (laysH π σ η a1) α φ κ (va_up R ((nX η)) (laysR π σ (R ((nX η))) a1)) I k (mldF μ a1) r H _ ls (he.2) hP hD hS hl

set_option maxHeartbeats 4000000 in
set_option maxRecDepth 100000 in
theorem lc_10 {pr : Program} {l : Launch} {ev : Env} {ss : State} {mm : MethodId} {below : List Frame} {meth : Method} {cd : Code} {bs L : Nat} {xs : Nat → Int32} {D : va_G} {c : Nat → ClassId} (hL : L ≤ 320) (C0 : lw_At pr ss mm meth cd bs L xs) (hK : va_K D vwCl (tysL c) ss) {i : Nat} (hi : i + 5 ≤ L) (hB : LB pr l ev ss mm below meth cd D c bs 949 i) : LB pr l ev ss mm below meth cd D c bs 408 i := by
  obtain ⟨hx, hb, hr, hml, hown, hts0, hX, hbl, hlocks, -⟩ := C0
  have hts : ∀ w ∈ wsL_law, w.before #[Value.ref bs] ss = true := fun w h => hts0 w (wsL_law_in w h)
  have hown : ss.vm.findClass RL = some mm.cls := hown
  have hA : ∀ q : Nat, ss.heap.size ≤ q → (fun q : Nat => ss.heap.size ≤ q) q := fun _ h => h
  have hbA : ¬ (fun q : Nat => ss.heap.size ≤ q) bs := Nat.not_le.mpr hbl
  intro x t p sp a b h g f o n τ π ζ σ β η α φ κ R I k μ r H locs ls hall hP hD hS hl
  have hnx := hall.2.2.2.1.1.2.2
  refine lv_aload_n hx hb dL_law_408 rfl (lv_at hl 1 rfl) ?_
  refine wk_callUP (As := []) (rest := []) ⟨hx, hb, hml, hown, hts⟩ (c_X7_undo l D c x t p sp a b h g f o k σ η (R (((nX η + 9) % 10))) (hall.2.2.2.1.1)) (cwV 0 hts gL_law_X7_undo rfl rfl rfl hd_X7_undo ⟨Nat.le_of_ble_eq_true rfl, Nat.le_of_ble_eq_true rfl⟩) hK hP hD hS hA (wr := textW c t τ ++ pageW c p π ++ pageW c sp ζ ++ affW c b β ++ rgX c h R (((nX η + 9) % 10)) 10 ++ albumW c g α ++ rgW c g I 2 ++ findW c f φ ++ courseW c o κ ++ modelW c n μ r) (ws' := lwA c x t p sp a b h g f o τ π ζ (undoA η σ (R (((nX η + 9) % 10)))) β (undoH η) α φ κ R I k ++ modelW c n μ r) (wk_pm (fun y => by have hr := rg_in c h R (j := ((nX η + 9) % 10)) (n := 10) (by omega) y; simp only [ct_app, lwA_ct]; omega)) (wk_pm (fun y => by have hr := rg_in c h R (j := ((nX η + 9) % 10)) (n := 10) (by omega) y; simp only [ct_app, lwA_ct]; omega)) rfl 0 rfl rfl rfl hl.1 rfl (Nat.le_of_ble_eq_true rfl) dL_law_409 (Nat.le_of_ble_eq_true rfl) (Nat.le_of_ble_eq_true rfl) (fun H locs hP hD hS => ?_)
  refine lv_aload_n hx hb dL_law_412 rfl (lv_at hl 2 rfl) ?_
  refine wk_callUP (As := []) (rest := [.int (undoV η)]) ⟨hx, hb, hml, hown, hts⟩ (c_X8_undo l D c n μ r (all_U hall)) (cwV 0 hts gL_law_X8_undo rfl rfl rfl hd_X8_undo ⟨Nat.le_of_ble_eq_true rfl, Nat.le_of_ble_eq_true rfl⟩) hK hP hD hS hA (wr := lwA c x t p sp a b h g f o τ π ζ (undoA η σ (R (((nX η + 9) % 10)))) β (undoH η) α φ κ R I k) (ws' := lwA c x t p sp a b h g f o τ π ζ (undoA η σ (R (((nX η + 9) % 10)))) β (undoH η) α φ κ R I k ++ modelW c n (unF μ) r) List.perm_append_comm List.perm_append_comm rfl 0 rfl rfl rfl hl.1 rfl (Nat.le_of_ble_eq_true rfl) dL_law_413 (Nat.le_of_ble_eq_true rfl) (Nat.le_of_ble_eq_true rfl) (fun H locs hP hD hS => ?_)
  have he := e_undo hall 
  refine lv_icmp_eq (tgt := 949) hx hb dL_law_416 (by decide) (fun _ => ?_) (fun q => absurd (he.1) q)
  exact hB x t p sp a b h g f o n τ π ζ (undoA η σ (R (((nX η + 9) % 10)))) β (undoH η) α φ κ R I k (unF μ) r H _ ls (he.2) hP hD hS hl

set_option maxHeartbeats 4000000 in
set_option maxRecDepth 100000 in
theorem lc_11 {pr : Program} {l : Launch} {ev : Env} {ss : State} {mm : MethodId} {below : List Frame} {meth : Method} {cd : Code} {bs L : Nat} {xs : Nat → Int32} {D : va_G} {c : Nat → ClassId} (hL : L ≤ 320) (C0 : lw_At pr ss mm meth cd bs L xs) (hK : va_K D vwCl (tysL c) ss) {i : Nat} (hi : i + 5 ≤ L) (hB : LB pr l ev ss mm below meth cd D c bs 949 i) : LB pr l ev ss mm below meth cd D c bs 421 i := by
  obtain ⟨hx, hb, hr, hml, hown, hts0, hX, hbl, hlocks, -⟩ := C0
  have hts : ∀ w ∈ wsL_law, w.before #[Value.ref bs] ss = true := fun w h => hts0 w (wsL_law_in w h)
  have hown : ss.vm.findClass RL = some mm.cls := hown
  have hA : ∀ q : Nat, ss.heap.size ≤ q → (fun q : Nat => ss.heap.size ≤ q) q := fun _ h => h
  have hbA : ¬ (fun q : Nat => ss.heap.size ≤ q) bs := Nat.not_le.mpr hbl
  intro x t p sp a b h g f o n τ π ζ σ β η α φ κ R I k μ r H locs ls hall hP hD hS hl
  obtain ⟨a1, ha1⟩ : ∃ v : Int32, xs (i + 1) = v := ⟨_, rfl⟩
  obtain ⟨a2, ha2⟩ : ∃ v : Int32, xs (i + 2) = v := ⟨_, rfl⟩
  obtain ⟨a3, ha3⟩ : ∃ v : Int32, xs (i + 3) = v := ⟨_, rfl⟩
  refine lv_aload_n hx hb dL_law_421 rfl (lv_at hl 1 rfl) ?_
  refine lv_aload_n hx hb dL_law_422 rfl (lv_at hl 0 rfl) ?_
  refine lv_iload_n hx hb dL_law_423 rfl (lv_at hl 3 rfl) ?_
  refine lv_iconst (v := 1) hx hb dL_law_424 (by decide) ?_
  refine lv_iadd hx hb dL_law_425 ?_
  refine wk_eqi (y := nI (i + 1)) (nI_add i 1) ?_
  refine va_sld hx hb hX hbl hbA hS (vp_in_nI (by omega) (by omega)) dL_law_426 ?_
  refine wk_eqi (y := a1) (by rw [nI_cl (by omega)]; exact ha1) ?_
  refine lv_aload_n hx hb dL_law_427 rfl (lv_at hl 0 rfl) ?_
  refine lv_iload_n hx hb dL_law_428 rfl (lv_at hl 3 rfl) ?_
  refine lv_iconst (v := 2) hx hb dL_law_429 (by decide) ?_
  refine lv_iadd hx hb dL_law_430 ?_
  refine wk_eqi (y := nI (i + 2)) (nI_add i 2) ?_
  refine va_sld hx hb hX hbl hbA hS (vp_in_nI (by omega) (by omega)) dL_law_431 ?_
  refine wk_eqi (y := a2) (by rw [nI_cl (by omega)]; exact ha2) ?_
  refine lv_aload_n hx hb dL_law_432 rfl (lv_at hl 0 rfl) ?_
  refine lv_iload_n hx hb dL_law_433 rfl (lv_at hl 3 rfl) ?_
  refine lv_iconst (v := 3) hx hb dL_law_434 (by decide) ?_
  refine lv_iadd hx hb dL_law_435 ?_
  refine wk_eqi (y := nI (i + 3)) (nI_add i 3) ?_
  refine va_sld hx hb hX hbl hbA hS (vp_in_nI (by omega) (by omega)) dL_law_436 ?_
  refine wk_eqi (y := a3) (by rw [nI_cl (by omega)]; exact ha3) ?_
  refine wk_callJP (As := [.int a1, .int a2, .int a3]) (rest := []) ⟨hx, hb, hml, hown, hts⟩ (c_X7_inDays l D c x t p sp a b h g f o k π σ β a1 a2 a3 (hall.2.1.2.1) (all_A hall)) (cwV 3 hts gL_law_X7_inDays rfl rfl rfl hd_X7_inDays ⟨Nat.le_of_ble_eq_true rfl, Nat.le_of_ble_eq_true rfl⟩) hK hP hD hS hA (wr := textW c t τ ++ pageW c sp ζ ++ histW c h η ++ rgW c h R 10 ++ albumW c g α ++ rgW c g I 2 ++ findW c f φ ++ courseW c o κ ++ modelW c n μ r) (wsj := fun j1 j2 => lwA c x t p sp a b h g f o τ π ζ σ j1 η α φ κ R I k ++ modelW c n μ r) (wk_pm (fun y => by simp only [ct_app, lwA_ct]; omega)) (fun j1 j2 => wk_pm (fun y => by simp only [ct_app, lwA_ct]; omega)) (fun _ _ => rfl) 0 rfl rfl rfl hl.1 rfl (Nat.le_of_ble_eq_true rfl) dL_law_437 (Nat.le_of_ble_eq_true rfl) (Nat.le_of_ble_eq_true rfl) (fun j1 j2 H locs hP hD hS => ?_)
  have hP : va_P D vwCl (lwA c x t p sp a b h g f o τ π ζ σ j1 η α φ κ R I k ++ modelW c n μ r) H := hP
  have hD : va_D (fun q : Nat => ss.heap.size ≤ q) (lwA c x t p sp a b h g f o τ π ζ σ j1 η α φ κ R I k ++ modelW c n μ r) := hD
  refine lv_aload_n hx hb dL_law_440 rfl (lv_at hl 2 rfl) ?_
  refine lv_aload_n hx hb dL_law_441 rfl (lv_at hl 0 rfl) ?_
  refine lv_iload_n hx hb dL_law_442 rfl (lv_at hl 3 rfl) ?_
  refine lv_iconst (v := 1) hx hb dL_law_443 (by decide) ?_
  refine lv_iadd hx hb dL_law_444 ?_
  refine wk_eqi (y := nI (i + 1)) (nI_add i 1) ?_
  refine va_sld hx hb hX hbl hbA hS (vp_in_nI (by omega) (by omega)) dL_law_445 ?_
  refine wk_eqi (y := a1) (by rw [nI_cl (by omega)]; exact ha1) ?_
  refine lv_aload_n hx hb dL_law_446 rfl (lv_at hl 0 rfl) ?_
  refine lv_iload_n hx hb dL_law_447 rfl (lv_at hl 3 rfl) ?_
  refine lv_iconst (v := 2) hx hb dL_law_448 (by decide) ?_
  refine lv_iadd hx hb dL_law_449 ?_
  refine wk_eqi (y := nI (i + 2)) (nI_add i 2) ?_
  refine va_sld hx hb hX hbl hbA hS (vp_in_nI (by omega) (by omega)) dL_law_450 ?_
  refine wk_eqi (y := a2) (by rw [nI_cl (by omega)]; exact ha2) ?_
  refine lv_aload_n hx hb dL_law_451 rfl (lv_at hl 0 rfl) ?_
  refine lv_iload_n hx hb dL_law_452 rfl (lv_at hl 3 rfl) ?_
  refine lv_iconst (v := 3) hx hb dL_law_453 (by decide) ?_
  refine lv_iadd hx hb dL_law_454 ?_
  refine wk_eqi (y := nI (i + 3)) (nI_add i 3) ?_
  refine va_sld hx hb hX hbl hbA hS (vp_in_nI (by omega) (by omega)) dL_law_455 ?_
  refine wk_eqi (y := a3) (by rw [nI_cl (by omega)]; exact ha3) ?_
  refine wk_callUP (As := [.int a1, .int a2, .int a3]) (rest := [.int (inDaysV π σ a1 a2 a3)]) ⟨hx, hb, hml, hown, hts⟩ (c_X8_inDays l D c n μ r a1 a2 a3 (all_G hall)) (cwV 3 hts gL_law_X8_inDays rfl rfl rfl hd_X8_inDays ⟨Nat.le_of_ble_eq_true rfl, Nat.le_of_ble_eq_true rfl⟩) hK hP hD hS hA (wr := lwA c x t p sp a b h g f o τ π ζ σ j1 η α φ κ R I k) (ws' := lwA c x t p sp a b h g f o τ π ζ σ j1 η α φ κ R I k ++ modelW c n (midF μ a1 a2 a3) r) List.perm_append_comm List.perm_append_comm rfl 0 rfl rfl rfl hl.1 rfl (Nat.le_of_ble_eq_true rfl) dL_law_456 (Nat.le_of_ble_eq_true rfl) (Nat.le_of_ble_eq_true rfl) (fun H locs hP hD hS => ?_)
  have he := e_inDays hall a1 a2 a3
  refine lv_icmp_eq (tgt := 949) hx hb dL_law_459 (by decide) (fun _ => ?_) (fun q => absurd (he.1) q)
  exact hB x t p sp a b h g f o n τ π ζ σ j1 η α φ κ R I k (midF μ a1 a2 a3) r H _ ls (he.2) hP hD hS hl

set_option maxHeartbeats 4000000 in
set_option maxRecDepth 100000 in
theorem lc_12 {pr : Program} {l : Launch} {ev : Env} {ss : State} {mm : MethodId} {below : List Frame} {meth : Method} {cd : Code} {bs L : Nat} {xs : Nat → Int32} {D : va_G} {c : Nat → ClassId} (hL : L ≤ 320) (C0 : lw_At pr ss mm meth cd bs L xs) (hK : va_K D vwCl (tysL c) ss) {i : Nat} (hi : i + 5 ≤ L) (hB : LB pr l ev ss mm below meth cd D c bs 949 i) : LB pr l ev ss mm below meth cd D c bs 464 i := by
  obtain ⟨hx, hb, hr, hml, hown, hts0, hX, hbl, hlocks, -⟩ := C0
  have hts : ∀ w ∈ wsL_law, w.before #[Value.ref bs] ss = true := fun w h => hts0 w (wsL_law_in w h)
  have hown : ss.vm.findClass RL = some mm.cls := hown
  have hA : ∀ q : Nat, ss.heap.size ≤ q → (fun q : Nat => ss.heap.size ≤ q) q := fun _ h => h
  have hbA : ¬ (fun q : Nat => ss.heap.size ≤ q) bs := Nat.not_le.mpr hbl
  intro x t p sp a b h g f o n τ π ζ σ β η α φ κ R I k μ r H locs ls hall hP hD hS hl
  obtain ⟨a1, ha1⟩ : ∃ v : Int32, xs (i + 1) = v := ⟨_, rfl⟩
  refine lv_aload_n hx hb dL_law_464 rfl (lv_at hl 1 rfl) ?_
  refine lv_aload_n hx hb dL_law_465 rfl (lv_at hl 0 rfl) ?_
  refine lv_iload_n hx hb dL_law_466 rfl (lv_at hl 3 rfl) ?_
  refine lv_iconst (v := 1) hx hb dL_law_467 (by decide) ?_
  refine lv_iadd hx hb dL_law_468 ?_
  refine wk_eqi (y := nI (i + 1)) (nI_add i 1) ?_
  refine va_sld hx hb hX hbl hbA hS (vp_in_nI (by omega) (by omega)) dL_law_469 ?_
  refine wk_eqi (y := a1) (by rw [nI_cl (by omega)]; exact ha1) ?_
  refine wk_callJP (As := [.int a1]) (rest := []) ⟨hx, hb, hml, hown, hts⟩ (c_X7_ends l D c x t p sp a b h g f o k π σ β κ a1 (hall.2.1.2.1) (all_A hall)) (cwV 1 hts gL_law_X7_ends rfl rfl rfl hd_X7_ends ⟨Nat.le_of_ble_eq_true rfl, Nat.le_of_ble_eq_true rfl⟩) hK hP hD hS hA (wr := textW c t τ ++ pageW c sp ζ ++ histW c h η ++ rgW c h R 10 ++ albumW c g α ++ rgW c g I 2 ++ findW c f φ ++ modelW c n μ r) (wsj := fun j1 j2 => lwA c x t p sp a b h g f o τ π ζ σ j1 η α φ j2 R I k ++ modelW c n μ r) (wk_pm (fun y => by simp only [ct_app, lwA_ct]; omega)) (fun j1 j2 => wk_pm (fun y => by simp only [ct_app, lwA_ct]; omega)) (fun _ _ => rfl) 0 rfl rfl rfl hl.1 rfl (Nat.le_of_ble_eq_true rfl) dL_law_470 (Nat.le_of_ble_eq_true rfl) (Nat.le_of_ble_eq_true rfl) (fun j1 j2 H locs hP hD hS => ?_)
  have hP : va_P D vwCl (lwA c x t p sp a b h g f o τ π ζ σ j1 η α φ j2 R I k ++ modelW c n μ r) H := hP
  have hD : va_D (fun q : Nat => ss.heap.size ≤ q) (lwA c x t p sp a b h g f o τ π ζ σ j1 η α φ j2 R I k ++ modelW c n μ r) := hD
  refine lv_aload_n hx hb dL_law_473 rfl (lv_at hl 2 rfl) ?_
  refine lv_aload_n hx hb dL_law_474 rfl (lv_at hl 0 rfl) ?_
  refine lv_iload_n hx hb dL_law_475 rfl (lv_at hl 3 rfl) ?_
  refine lv_iconst (v := 1) hx hb dL_law_476 (by decide) ?_
  refine lv_iadd hx hb dL_law_477 ?_
  refine wk_eqi (y := nI (i + 1)) (nI_add i 1) ?_
  refine va_sld hx hb hX hbl hbA hS (vp_in_nI (by omega) (by omega)) dL_law_478 ?_
  refine wk_eqi (y := a1) (by rw [nI_cl (by omega)]; exact ha1) ?_
  refine wk_callUP (As := [.int a1]) (rest := [.int (endsV π σ a1)]) ⟨hx, hb, hml, hown, hts⟩ (c_X8_ends l D c n μ r a1 (all_G hall)) (cwV 1 hts gL_law_X8_ends rfl rfl rfl hd_X8_ends ⟨Nat.le_of_ble_eq_true rfl, Nat.le_of_ble_eq_true rfl⟩) hK hP hD hS hA (wr := lwA c x t p sp a b h g f o τ π ζ σ j1 η α φ j2 R I k) (ws' := lwA c x t p sp a b h g f o τ π ζ σ j1 η α φ j2 R I k ++ modelW c n (menF μ a1) r) List.perm_append_comm List.perm_append_comm rfl 0 rfl rfl rfl hl.1 rfl (Nat.le_of_ble_eq_true rfl) dL_law_479 (Nat.le_of_ble_eq_true rfl) (Nat.le_of_ble_eq_true rfl) (fun H locs hP hD hS => ?_)
  have he := e_ends hall a1
  refine lv_icmp_eq (tgt := 949) hx hb dL_law_482 (by decide) (fun _ => ?_) (fun q => absurd (he.1) q)
  exact hB x t p sp a b h g f o n τ π ζ σ j1 η α φ j2 R I k (menF μ a1) r H _ ls (he.2) hP hD hS hl

set_option maxHeartbeats 4000000 in
set_option maxRecDepth 100000 in
theorem lc_13 {pr : Program} {l : Launch} {ev : Env} {ss : State} {mm : MethodId} {below : List Frame} {meth : Method} {cd : Code} {bs L : Nat} {xs : Nat → Int32} {D : va_G} {c : Nat → ClassId} (hL : L ≤ 320) (C0 : lw_At pr ss mm meth cd bs L xs) (hK : va_K D vwCl (tysL c) ss) {i : Nat} (hi : i + 5 ≤ L) (hB : LB pr l ev ss mm below meth cd D c bs 949 i) : LB pr l ev ss mm below meth cd D c bs 487 i := by
  obtain ⟨hx, hb, hr, hml, hown, hts0, hX, hbl, hlocks, -⟩ := C0
  have hts : ∀ w ∈ wsL_law, w.before #[Value.ref bs] ss = true := fun w h => hts0 w (wsL_law_in w h)
  have hown : ss.vm.findClass RL = some mm.cls := hown
  have hA : ∀ q : Nat, ss.heap.size ≤ q → (fun q : Nat => ss.heap.size ≤ q) q := fun _ h => h
  have hbA : ¬ (fun q : Nat => ss.heap.size ≤ q) bs := Nat.not_le.mpr hbl
  intro x t p sp a b h g f o n τ π ζ σ β η α φ κ R I k μ r H locs ls hall hP hD hS hl
  obtain ⟨a1, ha1⟩ : ∃ v : Int32, xs (i + 1) = v := ⟨_, rfl⟩
  obtain ⟨a2, ha2⟩ : ∃ v : Int32, xs (i + 2) = v := ⟨_, rfl⟩
  obtain ⟨a3, ha3⟩ : ∃ v : Int32, xs (i + 3) = v := ⟨_, rfl⟩
  refine lv_aload_n hx hb dL_law_487 rfl (lv_at hl 1 rfl) ?_
  refine lv_aload_n hx hb dL_law_488 rfl (lv_at hl 0 rfl) ?_
  refine lv_iload_n hx hb dL_law_489 rfl (lv_at hl 3 rfl) ?_
  refine lv_iconst (v := 1) hx hb dL_law_490 (by decide) ?_
  refine lv_iadd hx hb dL_law_491 ?_
  refine wk_eqi (y := nI (i + 1)) (nI_add i 1) ?_
  refine va_sld hx hb hX hbl hbA hS (vp_in_nI (by omega) (by omega)) dL_law_492 ?_
  refine wk_eqi (y := a1) (by rw [nI_cl (by omega)]; exact ha1) ?_
  refine lv_aload_n hx hb dL_law_493 rfl (lv_at hl 0 rfl) ?_
  refine lv_iload_n hx hb dL_law_494 rfl (lv_at hl 3 rfl) ?_
  refine lv_iconst (v := 2) hx hb dL_law_495 (by decide) ?_
  refine lv_iadd hx hb dL_law_496 ?_
  refine wk_eqi (y := nI (i + 2)) (nI_add i 2) ?_
  refine va_sld hx hb hX hbl hbA hS (vp_in_nI (by omega) (by omega)) dL_law_497 ?_
  refine wk_eqi (y := a2) (by rw [nI_cl (by omega)]; exact ha2) ?_
  refine lv_aload_n hx hb dL_law_498 rfl (lv_at hl 0 rfl) ?_
  refine lv_iload_n hx hb dL_law_499 rfl (lv_at hl 3 rfl) ?_
  refine lv_iconst (v := 3) hx hb dL_law_500 (by decide) ?_
  refine lv_iadd hx hb dL_law_501 ?_
  refine wk_eqi (y := nI (i + 3)) (nI_add i 3) ?_
  refine va_sld hx hb hX hbl hbA hS (vp_in_nI (by omega) (by omega)) dL_law_502 ?_
  refine wk_eqi (y := a3) (by rw [nI_cl (by omega)]; exact ha3) ?_
  refine wk_callJP (As := [.int a1, .int a2, .int a3]) (rest := []) ⟨hx, hb, hml, hown, hts⟩ (c_X7_round l D c x t p sp a b h g f o k π σ κ a1 a2 a3 (hall.2.1.2.1)) (cwV 3 hts gL_law_X7_round rfl rfl rfl hd_X7_round ⟨Nat.le_of_ble_eq_true rfl, Nat.le_of_ble_eq_true rfl⟩) hK hP hD hS hA (wr := textW c t τ ++ pageW c sp ζ ++ affW c b β ++ histW c h η ++ rgW c h R 10 ++ albumW c g α ++ rgW c g I 2 ++ findW c f φ ++ modelW c n μ r) (wsj := fun j1 j2 => lwA c x t p sp a b h g f o τ π ζ σ β η α φ j2 R I k ++ modelW c n μ r) (wk_pm (fun y => by simp only [ct_app, lwA_ct]; omega)) (fun j1 j2 => wk_pm (fun y => by simp only [ct_app, lwA_ct]; omega)) (fun _ _ => rfl) 0 rfl rfl rfl hl.1 rfl (Nat.le_of_ble_eq_true rfl) dL_law_503 (Nat.le_of_ble_eq_true rfl) (Nat.le_of_ble_eq_true rfl) (fun j1 j2 H locs hP hD hS => ?_)
  have hP : va_P D vwCl (lwA c x t p sp a b h g f o τ π ζ σ β η α φ j2 R I k ++ modelW c n μ r) H := hP
  have hD : va_D (fun q : Nat => ss.heap.size ≤ q) (lwA c x t p sp a b h g f o τ π ζ σ β η α φ j2 R I k ++ modelW c n μ r) := hD
  refine lv_aload_n hx hb dL_law_506 rfl (lv_at hl 2 rfl) ?_
  refine lv_aload_n hx hb dL_law_507 rfl (lv_at hl 0 rfl) ?_
  refine lv_iload_n hx hb dL_law_508 rfl (lv_at hl 3 rfl) ?_
  refine lv_iconst (v := 1) hx hb dL_law_509 (by decide) ?_
  refine lv_iadd hx hb dL_law_510 ?_
  refine wk_eqi (y := nI (i + 1)) (nI_add i 1) ?_
  refine va_sld hx hb hX hbl hbA hS (vp_in_nI (by omega) (by omega)) dL_law_511 ?_
  refine wk_eqi (y := a1) (by rw [nI_cl (by omega)]; exact ha1) ?_
  refine lv_aload_n hx hb dL_law_512 rfl (lv_at hl 0 rfl) ?_
  refine lv_iload_n hx hb dL_law_513 rfl (lv_at hl 3 rfl) ?_
  refine lv_iconst (v := 2) hx hb dL_law_514 (by decide) ?_
  refine lv_iadd hx hb dL_law_515 ?_
  refine wk_eqi (y := nI (i + 2)) (nI_add i 2) ?_
  refine va_sld hx hb hX hbl hbA hS (vp_in_nI (by omega) (by omega)) dL_law_516 ?_
  refine wk_eqi (y := a2) (by rw [nI_cl (by omega)]; exact ha2) ?_
  refine lv_aload_n hx hb dL_law_517 rfl (lv_at hl 0 rfl) ?_
  refine lv_iload_n hx hb dL_law_518 rfl (lv_at hl 3 rfl) ?_
  refine lv_iconst (v := 3) hx hb dL_law_519 (by decide) ?_
  refine lv_iadd hx hb dL_law_520 ?_
  refine wk_eqi (y := nI (i + 3)) (nI_add i 3) ?_
  refine va_sld hx hb hX hbl hbA hS (vp_in_nI (by omega) (by omega)) dL_law_521 ?_
  refine wk_eqi (y := a3) (by rw [nI_cl (by omega)]; exact ha3) ?_
  refine wk_callUP (As := [.int a1, .int a2, .int a3]) (rest := [.int (roundV π σ a1 a2 a3)]) ⟨hx, hb, hml, hown, hts⟩ (c_X8_round l D c n μ r a1 a2 a3 (all_G hall)) (cwV 3 hts gL_law_X8_round rfl rfl rfl hd_X8_round ⟨Nat.le_of_ble_eq_true rfl, Nat.le_of_ble_eq_true rfl⟩) hK hP hD hS hA (wr := lwA c x t p sp a b h g f o τ π ζ σ β η α φ j2 R I k) (ws' := lwA c x t p sp a b h g f o τ π ζ σ β η α φ j2 R I k ++ modelW c n (mroF μ a1 a2 a3) r) List.perm_append_comm List.perm_append_comm rfl 0 rfl rfl rfl hl.1 rfl (Nat.le_of_ble_eq_true rfl) dL_law_522 (Nat.le_of_ble_eq_true rfl) (Nat.le_of_ble_eq_true rfl) (fun H locs hP hD hS => ?_)
  have he := e_round hall a1 a2 a3
  refine lv_icmp_eq (tgt := 949) hx hb dL_law_525 (by decide) (fun _ => ?_) (fun q => absurd (he.1) q)
  exact hB x t p sp a b h g f o n τ π ζ σ β η α φ j2 R I k (mroF μ a1 a2 a3) r H _ ls (he.2) hP hD hS hl

set_option maxHeartbeats 4000000 in
set_option maxRecDepth 100000 in
theorem lc_14 {pr : Program} {l : Launch} {ev : Env} {ss : State} {mm : MethodId} {below : List Frame} {meth : Method} {cd : Code} {bs L : Nat} {xs : Nat → Int32} {D : va_G} {c : Nat → ClassId} (hL : L ≤ 320) (C0 : lw_At pr ss mm meth cd bs L xs) (hK : va_K D vwCl (tysL c) ss) {i : Nat} (hi : i + 5 ≤ L) (hB : LB pr l ev ss mm below meth cd D c bs 949 i) : LB pr l ev ss mm below meth cd D c bs 530 i := by
  obtain ⟨hx, hb, hr, hml, hown, hts0, hX, hbl, hlocks, -⟩ := C0
  have hts : ∀ w ∈ wsL_law, w.before #[Value.ref bs] ss = true := fun w h => hts0 w (wsL_law_in w h)
  have hown : ss.vm.findClass RL = some mm.cls := hown
  have hA : ∀ q : Nat, ss.heap.size ≤ q → (fun q : Nat => ss.heap.size ≤ q) q := fun _ h => h
  have hbA : ¬ (fun q : Nat => ss.heap.size ≤ q) bs := Nat.not_le.mpr hbl
  intro x t p sp a b h g f o n τ π ζ σ β η α φ κ R I k μ r H locs ls hall hP hD hS hl
  obtain ⟨a1, ha1⟩ : ∃ v : Int32, xs (i + 1) = v := ⟨_, rfl⟩
  refine lv_aload_n hx hb dL_law_530 rfl (lv_at hl 1 rfl) ?_
  refine lv_aload_n hx hb dL_law_531 rfl (lv_at hl 0 rfl) ?_
  refine lv_iload_n hx hb dL_law_532 rfl (lv_at hl 3 rfl) ?_
  refine lv_iconst (v := 1) hx hb dL_law_533 (by decide) ?_
  refine lv_iadd hx hb dL_law_534 ?_
  refine wk_eqi (y := nI (i + 1)) (nI_add i 1) ?_
  refine va_sld hx hb hX hbl hbA hS (vp_in_nI (by omega) (by omega)) dL_law_535 ?_
  refine wk_eqi (y := a1) (by rw [nI_cl (by omega)]; exact ha1) ?_
  refine wk_callJP (As := [.int a1]) (rest := []) ⟨hx, hb, hml, hown, hts⟩ (c_X7_last l D c x t p sp a b h g f o k π σ κ a1 (hall.2.1.2.1)) (cwV 1 hts gL_law_X7_last rfl rfl rfl hd_X7_last ⟨Nat.le_of_ble_eq_true rfl, Nat.le_of_ble_eq_true rfl⟩) hK hP hD hS hA (wr := textW c t τ ++ pageW c sp ζ ++ affW c b β ++ histW c h η ++ rgW c h R 10 ++ albumW c g α ++ rgW c g I 2 ++ findW c f φ ++ modelW c n μ r) (wsj := fun j1 j2 => lwA c x t p sp a b h g f o τ π ζ σ β η α φ j2 R I k ++ modelW c n μ r) (wk_pm (fun y => by simp only [ct_app, lwA_ct]; omega)) (fun j1 j2 => wk_pm (fun y => by simp only [ct_app, lwA_ct]; omega)) (fun _ _ => rfl) 0 rfl rfl rfl hl.1 rfl (Nat.le_of_ble_eq_true rfl) dL_law_536 (Nat.le_of_ble_eq_true rfl) (Nat.le_of_ble_eq_true rfl) (fun j1 j2 H locs hP hD hS => ?_)
  have hP : va_P D vwCl (lwA c x t p sp a b h g f o τ π ζ σ β η α φ j2 R I k ++ modelW c n μ r) H := hP
  have hD : va_D (fun q : Nat => ss.heap.size ≤ q) (lwA c x t p sp a b h g f o τ π ζ σ β η α φ j2 R I k ++ modelW c n μ r) := hD
  refine lv_aload_n hx hb dL_law_539 rfl (lv_at hl 2 rfl) ?_
  refine lv_aload_n hx hb dL_law_540 rfl (lv_at hl 0 rfl) ?_
  refine lv_iload_n hx hb dL_law_541 rfl (lv_at hl 3 rfl) ?_
  refine lv_iconst (v := 1) hx hb dL_law_542 (by decide) ?_
  refine lv_iadd hx hb dL_law_543 ?_
  refine wk_eqi (y := nI (i + 1)) (nI_add i 1) ?_
  refine va_sld hx hb hX hbl hbA hS (vp_in_nI (by omega) (by omega)) dL_law_544 ?_
  refine wk_eqi (y := a1) (by rw [nI_cl (by omega)]; exact ha1) ?_
  refine wk_callUP (As := [.int a1]) (rest := [.int (lastV π σ a1)]) ⟨hx, hb, hml, hown, hts⟩ (c_X8_last l D c n μ r a1 (all_G hall)) (cwV 1 hts gL_law_X8_last rfl rfl rfl hd_X8_last ⟨Nat.le_of_ble_eq_true rfl, Nat.le_of_ble_eq_true rfl⟩) hK hP hD hS hA (wr := lwA c x t p sp a b h g f o τ π ζ σ β η α φ j2 R I k) (ws' := lwA c x t p sp a b h g f o τ π ζ σ β η α φ j2 R I k ++ modelW c n (mlaF μ a1) r) List.perm_append_comm List.perm_append_comm rfl 0 rfl rfl rfl hl.1 rfl (Nat.le_of_ble_eq_true rfl) dL_law_545 (Nat.le_of_ble_eq_true rfl) (Nat.le_of_ble_eq_true rfl) (fun H locs hP hD hS => ?_)
  have he := e_last hall a1
  refine lv_icmp_eq (tgt := 949) hx hb dL_law_548 (by decide) (fun _ => ?_) (fun q => absurd (he.1) q)
  exact hB x t p sp a b h g f o n τ π ζ σ β η α φ j2 R I k (mlaF μ a1) r H _ ls (he.2) hP hD hS hl

set_option maxHeartbeats 4000000 in
set_option maxRecDepth 100000 in
theorem lc_15 {pr : Program} {l : Launch} {ev : Env} {ss : State} {mm : MethodId} {below : List Frame} {meth : Method} {cd : Code} {bs L : Nat} {xs : Nat → Int32} {D : va_G} {c : Nat → ClassId} (hL : L ≤ 320) (C0 : lw_At pr ss mm meth cd bs L xs) (hK : va_K D vwCl (tysL c) ss) {i : Nat} (hi : i + 5 ≤ L) (hB : LB pr l ev ss mm below meth cd D c bs 949 i) : LB pr l ev ss mm below meth cd D c bs 553 i := by
  obtain ⟨hx, hb, hr, hml, hown, hts0, hX, hbl, hlocks, -⟩ := C0
  have hts : ∀ w ∈ wsL_law, w.before #[Value.ref bs] ss = true := fun w h => hts0 w (wsL_law_in w h)
  have hown : ss.vm.findClass RL = some mm.cls := hown
  have hA : ∀ q : Nat, ss.heap.size ≤ q → (fun q : Nat => ss.heap.size ≤ q) q := fun _ h => h
  have hbA : ¬ (fun q : Nat => ss.heap.size ≤ q) bs := Nat.not_le.mpr hbl
  intro x t p sp a b h g f o n τ π ζ σ β η α φ κ R I k μ r H locs ls hall hP hD hS hl
  obtain ⟨a1, ha1⟩ : ∃ v : Int32, xs (i + 1) = v := ⟨_, rfl⟩
  refine lv_aload_n hx hb dL_law_553 rfl (lv_at hl 1 rfl) ?_
  refine lv_aload_n hx hb dL_law_554 rfl (lv_at hl 0 rfl) ?_
  refine lv_iload_n hx hb dL_law_555 rfl (lv_at hl 3 rfl) ?_
  refine lv_iconst (v := 1) hx hb dL_law_556 (by decide) ?_
  refine lv_iadd hx hb dL_law_557 ?_
  refine wk_eqi (y := nI (i + 1)) (nI_add i 1) ?_
  refine va_sld hx hb hX hbl hbA hS (vp_in_nI (by omega) (by omega)) dL_law_558 ?_
  refine wk_eqi (y := a1) (by rw [nI_cl (by omega)]; exact ha1) ?_
  refine wk_callRP (As := [.int a1]) (rest := []) ⟨hx, hb, hml, hown, hts⟩ (c_X7_bindsNobody l D c x t p sp a b h g f o k π σ a1 (hall.2.1.2.1)) (cwV 1 hts gL_law_X7_bindsNobody rfl rfl rfl hd_X7_bindsNobody ⟨Nat.le_of_ble_eq_true rfl, Nat.le_of_ble_eq_true rfl⟩) hK hP (wr := textW c t τ ++ pageW c sp ζ ++ affW c b β ++ histW c h η ++ rgW c h R 10 ++ albumW c g α ++ rgW c g I 2 ++ findW c f φ ++ courseW c o κ ++ modelW c n μ r) (wk_pm (fun y => by simp only [ct_app, lwA_ct]; omega)) 0 rfl rfl rfl hl.1 rfl (Nat.le_of_ble_eq_true rfl) dL_law_559 (Nat.le_of_ble_eq_true rfl) (Nat.le_of_ble_eq_true rfl) ?_
  refine lv_aload_n hx hb dL_law_562 rfl (lv_at hl 2 rfl) ?_
  refine lv_aload_n hx hb dL_law_563 rfl (lv_at hl 0 rfl) ?_
  refine lv_iload_n hx hb dL_law_564 rfl (lv_at hl 3 rfl) ?_
  refine lv_iconst (v := 1) hx hb dL_law_565 (by decide) ?_
  refine lv_iadd hx hb dL_law_566 ?_
  refine wk_eqi (y := nI (i + 1)) (nI_add i 1) ?_
  refine va_sld hx hb hX hbl hbA hS (vp_in_nI (by omega) (by omega)) dL_law_567 ?_
  refine wk_eqi (y := a1) (by rw [nI_cl (by omega)]; exact ha1) ?_
  refine wk_callRP (As := [.int a1]) (rest := [.int (bindsV π σ a1)]) ⟨hx, hb, hml, hown, hts⟩ (c_X8_bindsNobody l D c n μ r a1 ((all_G hall).1.1)) (cwV 1 hts gL_law_X8_bindsNobody rfl rfl rfl hd_X8_bindsNobody ⟨Nat.le_of_ble_eq_true rfl, Nat.le_of_ble_eq_true rfl⟩) hK hP (wr := lwA c x t p sp a b h g f o τ π ζ σ β η α φ κ R I k) List.perm_append_comm 0 rfl rfl rfl hl.1 rfl (Nat.le_of_ble_eq_true rfl) dL_law_568 (Nat.le_of_ble_eq_true rfl) (Nat.le_of_ble_eq_true rfl) ?_
  have he := e_binds hall a1
  refine lv_icmp_eq (tgt := 949) hx hb dL_law_571 (by decide) (fun _ => ?_) (fun q => absurd (he) q)
  exact hB x t p sp a b h g f o n τ π ζ σ β η α φ κ R I k μ r H _ ls (hall) hP hD hS hl

set_option maxHeartbeats 4000000 in
set_option maxRecDepth 100000 in
theorem lc_24 {pr : Program} {l : Launch} {ev : Env} {ss : State} {mm : MethodId} {below : List Frame} {meth : Method} {cd : Code} {bs L : Nat} {xs : Nat → Int32} {D : va_G} {c : Nat → ClassId} (hL : L ≤ 320) (C0 : lw_At pr ss mm meth cd bs L xs) (hK : va_K D vwCl (tysL c) ss) {i : Nat} (hi : i + 5 ≤ L) (hB : LB pr l ev ss mm below meth cd D c bs 949 i) : LB pr l ev ss mm below meth cd D c bs 800 i := by
  obtain ⟨hx, hb, hr, hml, hown, hts0, hX, hbl, hlocks, -⟩ := C0
  have hts : ∀ w ∈ wsL_law, w.before #[Value.ref bs] ss = true := fun w h => hts0 w (wsL_law_in w h)
  have hown : ss.vm.findClass RL = some mm.cls := hown
  have hA : ∀ q : Nat, ss.heap.size ≤ q → (fun q : Nat => ss.heap.size ≤ q) q := fun _ h => h
  have hbA : ¬ (fun q : Nat => ss.heap.size ≤ q) bs := Nat.not_le.mpr hbl
  intro x t p sp a b h g f o n τ π ζ σ β η α φ κ R I k μ r H locs ls hall hP hD hS hl
  obtain ⟨a1, ha1⟩ : ∃ v : Int32, xs (i + 1) = v := ⟨_, rfl⟩
  obtain ⟨a2, ha2⟩ : ∃ v : Int32, xs (i + 2) = v := ⟨_, rfl⟩
  refine lv_aload_n hx hb dL_law_800 rfl (lv_at hl 1 rfl) ?_
  refine lv_aload_n hx hb dL_law_801 rfl (lv_at hl 0 rfl) ?_
  refine lv_iload_n hx hb dL_law_802 rfl (lv_at hl 3 rfl) ?_
  refine lv_iconst (v := 1) hx hb dL_law_803 (by decide) ?_
  refine lv_iadd hx hb dL_law_804 ?_
  refine wk_eqi (y := nI (i + 1)) (nI_add i 1) ?_
  refine va_sld hx hb hX hbl hbA hS (vp_in_nI (by omega) (by omega)) dL_law_805 ?_
  refine wk_eqi (y := a1) (by rw [nI_cl (by omega)]; exact ha1) ?_
  refine lv_aload_n hx hb dL_law_806 rfl (lv_at hl 0 rfl) ?_
  refine lv_iload_n hx hb dL_law_807 rfl (lv_at hl 3 rfl) ?_
  refine lv_iconst (v := 2) hx hb dL_law_808 (by decide) ?_
  refine lv_iadd hx hb dL_law_809 ?_
  refine wk_eqi (y := nI (i + 2)) (nI_add i 2) ?_
  refine va_sld hx hb hX hbl hbA hS (vp_in_nI (by omega) (by omega)) dL_law_810 ?_
  refine wk_eqi (y := a2) (by rw [nI_cl (by omega)]; exact ha2) ?_
  refine wk_callRP (As := [.int a1, .int a2]) (rest := []) ⟨hx, hb, hml, hown, hts⟩ (c_X7_titles l D c x t p sp a b h g f o k π a1 a2 (hall.2.1.2.1.n)) (cwV 2 hts gL_law_X7_titles rfl rfl rfl hd_X7_titles ⟨Nat.le_of_ble_eq_true rfl, Nat.le_of_ble_eq_true rfl⟩) hK hP (wr := textW c t τ ++ pageW c sp ζ ++ affW c a σ ++ affW c b β ++ histW c h η ++ rgW c h R 10 ++ albumW c g α ++ rgW c g I 2 ++ findW c f φ ++ courseW c o κ ++ modelW c n μ r) (wk_pm (fun y => by simp only [ct_app, lwA_ct]; omega)) 0 rfl rfl rfl hl.1 rfl (Nat.le_of_ble_eq_true rfl) dL_law_811 (Nat.le_of_ble_eq_true rfl) (Nat.le_of_ble_eq_true rfl) ?_
  refine lv_aload_n hx hb dL_law_814 rfl (lv_at hl 2 rfl) ?_
  refine lv_aload_n hx hb dL_law_815 rfl (lv_at hl 0 rfl) ?_
  refine lv_iload_n hx hb dL_law_816 rfl (lv_at hl 3 rfl) ?_
  refine lv_iconst (v := 1) hx hb dL_law_817 (by decide) ?_
  refine lv_iadd hx hb dL_law_818 ?_
  refine wk_eqi (y := nI (i + 1)) (nI_add i 1) ?_
  refine va_sld hx hb hX hbl hbA hS (vp_in_nI (by omega) (by omega)) dL_law_819 ?_
  refine wk_eqi (y := a1) (by rw [nI_cl (by omega)]; exact ha1) ?_
  refine lv_aload_n hx hb dL_law_820 rfl (lv_at hl 0 rfl) ?_
  refine lv_iload_n hx hb dL_law_821 rfl (lv_at hl 3 rfl) ?_
  refine lv_iconst (v := 2) hx hb dL_law_822 (by decide) ?_
  refine lv_iadd hx hb dL_law_823 ?_
  refine wk_eqi (y := nI (i + 2)) (nI_add i 2) ?_
  refine va_sld hx hb hX hbl hbA hS (vp_in_nI (by omega) (by omega)) dL_law_824 ?_
  refine wk_eqi (y := a2) (by rw [nI_cl (by omega)]; exact ha2) ?_
  refine wk_callRP (As := [.int a1, .int a2]) (rest := [.int (titlesV π a1 a2)]) ⟨hx, hb, hml, hown, hts⟩ (c_X8_titles l D c n μ r a1 a2 ((all_G hall).1.1)) (cwV 2 hts gL_law_X8_titles rfl rfl rfl hd_X8_titles ⟨Nat.le_of_ble_eq_true rfl, Nat.le_of_ble_eq_true rfl⟩) hK hP (wr := lwA c x t p sp a b h g f o τ π ζ σ β η α φ κ R I k) List.perm_append_comm 0 rfl rfl rfl hl.1 rfl (Nat.le_of_ble_eq_true rfl) dL_law_825 (Nat.le_of_ble_eq_true rfl) (Nat.le_of_ble_eq_true rfl) ?_
  have he := e_titles hall a1 a2
  refine lv_icmp_eq (tgt := 949) hx hb dL_law_828 (by decide) (fun _ => ?_) (fun q => absurd (he) q)
  exact hB x t p sp a b h g f o n τ π ζ σ β η α φ κ R I k μ r H _ ls (hall) hP hD hS hl

set_option maxHeartbeats 4000000 in
set_option maxRecDepth 100000 in
theorem lc_25 {pr : Program} {l : Launch} {ev : Env} {ss : State} {mm : MethodId} {below : List Frame} {meth : Method} {cd : Code} {bs L : Nat} {xs : Nat → Int32} {D : va_G} {c : Nat → ClassId} (hL : L ≤ 320) (C0 : lw_At pr ss mm meth cd bs L xs) (hK : va_K D vwCl (tysL c) ss) {i : Nat} (hi : i + 5 ≤ L) (hB : LB pr l ev ss mm below meth cd D c bs 949 i) : LB pr l ev ss mm below meth cd D c bs 833 i := by
  obtain ⟨hx, hb, hr, hml, hown, hts0, hX, hbl, hlocks, -⟩ := C0
  have hts : ∀ w ∈ wsL_law, w.before #[Value.ref bs] ss = true := fun w h => hts0 w (wsL_law_in w h)
  have hown : ss.vm.findClass RL = some mm.cls := hown
  have hA : ∀ q : Nat, ss.heap.size ≤ q → (fun q : Nat => ss.heap.size ≤ q) q := fun _ h => h
  have hbA : ¬ (fun q : Nat => ss.heap.size ≤ q) bs := Nat.not_le.mpr hbl
  intro x t p sp a b h g f o n τ π ζ σ β η α φ κ R I k μ r H locs ls hall hP hD hS hl
  obtain ⟨a1, ha1⟩ : ∃ v : Int32, xs (i + 1) = v := ⟨_, rfl⟩
  obtain ⟨a2, ha2⟩ : ∃ v : Int32, xs (i + 2) = v := ⟨_, rfl⟩
  refine lv_aload_n hx hb dL_law_833 rfl (lv_at hl 1 rfl) ?_
  refine lv_aload_n hx hb dL_law_834 rfl (lv_at hl 0 rfl) ?_
  refine lv_iload_n hx hb dL_law_835 rfl (lv_at hl 3 rfl) ?_
  refine lv_iconst (v := 1) hx hb dL_law_836 (by decide) ?_
  refine lv_iadd hx hb dL_law_837 ?_
  refine wk_eqi (y := nI (i + 1)) (nI_add i 1) ?_
  refine va_sld hx hb hX hbl hbA hS (vp_in_nI (by omega) (by omega)) dL_law_838 ?_
  refine wk_eqi (y := a1) (by rw [nI_cl (by omega)]; exact ha1) ?_
  refine lv_aload_n hx hb dL_law_839 rfl (lv_at hl 0 rfl) ?_
  refine lv_iload_n hx hb dL_law_840 rfl (lv_at hl 3 rfl) ?_
  refine lv_iconst (v := 2) hx hb dL_law_841 (by decide) ?_
  refine lv_iadd hx hb dL_law_842 ?_
  refine wk_eqi (y := nI (i + 2)) (nI_add i 2) ?_
  refine va_sld hx hb hX hbl hbA hS (vp_in_nI (by omega) (by omega)) dL_law_843 ?_
  refine wk_eqi (y := a2) (by rw [nI_cl (by omega)]; exact ha2) ?_
  refine wk_callUP (As := [.int a1, .int a2]) (rest := []) ⟨hx, hb, hml, hown, hts⟩ (c_X7_rate l D c x t p sp a b h g f o k π σ a1 a2 (hall.2.1.2.1.n) ((all_A hall).1)) (cwV 2 hts gL_law_X7_rate rfl rfl rfl hd_X7_rate ⟨Nat.le_of_ble_eq_true rfl, Nat.le_of_ble_eq_true rfl⟩) hK hP hD hS hA (wr := textW c t τ ++ pageW c sp ζ ++ affW c b β ++ histW c h η ++ rgW c h R 10 ++ albumW c g α ++ rgW c g I 2 ++ findW c f φ ++ courseW c o κ ++ modelW c n μ r) (ws' := lwA c x t p sp a b h g f o τ π ζ σ β η α φ κ R I (rateK π k a1 a2) ++ modelW c n μ r) (wk_pm (fun y => by simp only [ct_app, lwA_ct]; omega)) (wk_pm (fun y => by simp only [ct_app, lwA_ct]; omega)) rfl 0 rfl rfl rfl hl.1 rfl (Nat.le_of_ble_eq_true rfl) dL_law_844 (Nat.le_of_ble_eq_true rfl) (Nat.le_of_ble_eq_true rfl) (fun H locs hP hD hS => ?_)
  refine lv_aload_n hx hb dL_law_847 rfl (lv_at hl 2 rfl) ?_
  refine lv_aload_n hx hb dL_law_848 rfl (lv_at hl 0 rfl) ?_
  refine lv_iload_n hx hb dL_law_849 rfl (lv_at hl 3 rfl) ?_
  refine lv_iconst (v := 1) hx hb dL_law_850 (by decide) ?_
  refine lv_iadd hx hb dL_law_851 ?_
  refine wk_eqi (y := nI (i + 1)) (nI_add i 1) ?_
  refine va_sld hx hb hX hbl hbA hS (vp_in_nI (by omega) (by omega)) dL_law_852 ?_
  refine wk_eqi (y := a1) (by rw [nI_cl (by omega)]; exact ha1) ?_
  refine lv_aload_n hx hb dL_law_853 rfl (lv_at hl 0 rfl) ?_
  refine lv_iload_n hx hb dL_law_854 rfl (lv_at hl 3 rfl) ?_
  refine lv_iconst (v := 2) hx hb dL_law_855 (by decide) ?_
  refine lv_iadd hx hb dL_law_856 ?_
  refine wk_eqi (y := nI (i + 2)) (nI_add i 2) ?_
  refine va_sld hx hb hX hbl hbA hS (vp_in_nI (by omega) (by omega)) dL_law_857 ?_
  refine wk_eqi (y := a2) (by rw [nI_cl (by omega)]; exact ha2) ?_
  refine wk_callUP (As := [.int a1, .int a2]) (rest := [.int (rateV π σ a1 a2)]) ⟨hx, hb, hml, hown, hts⟩ (c_X8_rate l D c n μ r a1 a2 ((all_G hall).1.1) ((all_G hall).2.1)) (cwV 2 hts gL_law_X8_rate rfl rfl rfl hd_X8_rate ⟨Nat.le_of_ble_eq_true rfl, Nat.le_of_ble_eq_true rfl⟩) hK hP hD hS hA (wr := lwA c x t p sp a b h g f o τ π ζ σ β η α φ κ R I (rateK π k a1 a2)) (ws' := lwA c x t p sp a b h g f o τ π ζ σ β η α φ κ R I (rateK π k a1 a2) ++ modelW c n μ (mraR μ r a1 a2)) List.perm_append_comm List.perm_append_comm rfl 0 rfl rfl rfl hl.1 rfl (Nat.le_of_ble_eq_true rfl) dL_law_858 (Nat.le_of_ble_eq_true rfl) (Nat.le_of_ble_eq_true rfl) (fun H locs hP hD hS => ?_)
  have he := e_rate hall a1 a2
  refine lv_icmp_eq (tgt := 949) hx hb dL_law_861 (by decide) (fun _ => ?_) (fun q => absurd (he.1) q)
  exact hB x t p sp a b h g f o n τ π ζ σ β η α φ κ R I (rateK π k a1 a2) μ (mraR μ r a1 a2) H _ ls (all_kr hall he.2) hP hD hS hl

set_option maxHeartbeats 4000000 in
set_option maxRecDepth 100000 in
theorem lc_26 {pr : Program} {l : Launch} {ev : Env} {ss : State} {mm : MethodId} {below : List Frame} {meth : Method} {cd : Code} {bs L : Nat} {xs : Nat → Int32} {D : va_G} {c : Nat → ClassId} (hL : L ≤ 320) (C0 : lw_At pr ss mm meth cd bs L xs) (hK : va_K D vwCl (tysL c) ss) {i : Nat} (hi : i + 5 ≤ L) (hB : LB pr l ev ss mm below meth cd D c bs 949 i) : LB pr l ev ss mm below meth cd D c bs 866 i := by
  obtain ⟨hx, hb, hr, hml, hown, hts0, hX, hbl, hlocks, -⟩ := C0
  have hts : ∀ w ∈ wsL_law, w.before #[Value.ref bs] ss = true := fun w h => hts0 w (wsL_law_in w h)
  have hown : ss.vm.findClass RL = some mm.cls := hown
  have hA : ∀ q : Nat, ss.heap.size ≤ q → (fun q : Nat => ss.heap.size ≤ q) q := fun _ h => h
  have hbA : ¬ (fun q : Nat => ss.heap.size ≤ q) bs := Nat.not_le.mpr hbl
  intro x t p sp a b h g f o n τ π ζ σ β η α φ κ R I k μ r H locs ls hall hP hD hS hl
  obtain ⟨a1, ha1⟩ : ∃ v : Int32, xs (i + 1) = v := ⟨_, rfl⟩
  by_cases hb0 : imOK a1
  · obtain ⟨j, hj, ej⟩ : ∃ j : Nat, j < 2 ∧ a1 = nI j := ⟨_, (ix_of (y := 2) (n := 2) rfl (by omega) hb0).2, (ix_of (y := 2) (n := 2) rfl (by omega) hb0).1⟩
    subst ej
    refine lv_aload_n hx hb dL_law_866 rfl (lv_at hl 1 rfl) ?_
    refine lv_aload_n hx hb dL_law_867 rfl (lv_at hl 0 rfl) ?_
    refine lv_iload_n hx hb dL_law_868 rfl (lv_at hl 3 rfl) ?_
    refine lv_iconst (v := 1) hx hb dL_law_869 (by decide) ?_
    refine lv_iadd hx hb dL_law_870 ?_
    refine wk_eqi (y := nI (i + 1)) (nI_add i 1) ?_
    refine va_sld hx hb hX hbl hbA hS (vp_in_nI (by omega) (by omega)) dL_law_871 ?_
    refine wk_eqi (y := nI j) (by rw [nI_cl (by omega)]; exact ha1) ?_
    refine wk_callUP (As := [.int (nI j)]) (rest := []) ⟨hx, hb, hml, hown, hts⟩ (c_X7_keep_y l D c x t p sp a b h g f o k σ α (I j) j (hj)) (cwV 1 hts gL_law_X7_keep rfl rfl rfl hd_X7_keep ⟨Nat.le_of_ble_eq_true rfl, Nat.le_of_ble_eq_true rfl⟩) hK hP hD hS hA (wr := textW c t τ ++ pageW c p π ++ pageW c sp ζ ++ affW c b β ++ histW c h η ++ rgW c h R 10 ++ rgX c g I j 2 ++ findW c f φ ++ courseW c o κ ++ modelW c n μ r) (ws' := lwA c x t p sp a b h g f o τ π ζ σ β η (putF α j) φ κ R (va_up I j σ) k ++ modelW c n μ r) (wk_pm (fun y => by have hr := rg_in c g I (j := j) (n := 2) hj y; simp only [ct_app, lwA_ct]; omega)) (wk_pm (fun y => by have hr := rg_up c g I σ (j := j) (n := 2) hj y; simp only [ct_app, lwA_ct]; omega)) rfl 0 rfl rfl rfl hl.1 rfl (Nat.le_of_ble_eq_true rfl) dL_law_872 (Nat.le_of_ble_eq_true rfl) (Nat.le_of_ble_eq_true rfl) (fun H locs hP hD hS => ?_)
    refine lv_aload_n hx hb dL_law_875 rfl (lv_at hl 2 rfl) ?_
    refine lv_aload_n hx hb dL_law_876 rfl (lv_at hl 0 rfl) ?_
    refine lv_iload_n hx hb dL_law_877 rfl (lv_at hl 3 rfl) ?_
    refine lv_iconst (v := 1) hx hb dL_law_878 (by decide) ?_
    refine lv_iadd hx hb dL_law_879 ?_
    refine wk_eqi (y := nI (i + 1)) (nI_add i 1) ?_
    refine va_sld hx hb hX hbl hbA hS (vp_in_nI (by omega) (by omega)) dL_law_880 ?_
    refine wk_eqi (y := nI j) (by rw [nI_cl (by omega)]; exact ha1) ?_
    refine wk_callUP (As := [.int (nI j)]) (rest := [.int (σ 0 0)]) ⟨hx, hb, hml, hown, hts⟩ (c_X8_keep l D c n μ r (nI j)) (cwV 1 hts gL_law_X8_keep rfl rfl rfl hd_X8_keep ⟨Nat.le_of_ble_eq_true rfl, Nat.le_of_ble_eq_true rfl⟩) hK hP hD hS hA (wr := lwA c x t p sp a b h g f o τ π ζ σ β η (putF α j) φ κ R (va_up I j σ) k) (ws' := lwA c x t p sp a b h g f o τ π ζ σ β η (putF α j) φ κ R (va_up I j σ) k ++ modelW c n (mkeF μ (nI j)) r) List.perm_append_comm List.perm_append_comm rfl 0 rfl rfl rfl hl.1 rfl (Nat.le_of_ble_eq_true rfl) dL_law_881 (Nat.le_of_ble_eq_true rfl) (Nat.le_of_ble_eq_true rfl) (fun H locs hP hD hS => ?_)
    have he := e_keep hall hj
    refine lv_icmp_eq (tgt := 949) hx hb dL_law_884 (by decide) (fun _ => ?_) (fun q => absurd (he.1) q)
    exact hB x t p sp a b h g f o n τ π ζ σ β η (putF α j) φ κ R (va_up I j σ) k (mkeF μ (nI j)) r H _ ls (he.2) hP hD hS hl
  · have nb : ¬ inB a1 0 1 := fun q => hb0 ((lt_2 a1).mpr q)
    have eF : mkeF μ a1 = μ := if_neg nb
    refine lv_aload_n hx hb dL_law_866 rfl (lv_at hl 1 rfl) ?_
    refine lv_aload_n hx hb dL_law_867 rfl (lv_at hl 0 rfl) ?_
    refine lv_iload_n hx hb dL_law_868 rfl (lv_at hl 3 rfl) ?_
    refine lv_iconst (v := 1) hx hb dL_law_869 (by decide) ?_
    refine lv_iadd hx hb dL_law_870 ?_
    refine wk_eqi (y := nI (i + 1)) (nI_add i 1) ?_
    refine va_sld hx hb hX hbl hbA hS (vp_in_nI (by omega) (by omega)) dL_law_871 ?_
    refine wk_eqi (y := a1) (by rw [nI_cl (by omega)]; exact ha1) ?_
    refine wk_callRP (As := [.int a1]) (rest := []) ⟨hx, hb, hml, hown, hts⟩ (c_X7_keep_n l D c x t p sp a b h g f o k α a1 (hb0)) (cwV 1 hts gL_law_X7_keep rfl rfl rfl hd_X7_keep ⟨Nat.le_of_ble_eq_true rfl, Nat.le_of_ble_eq_true rfl⟩) hK hP (wr := textW c t τ ++ pageW c p π ++ pageW c sp ζ ++ affW c a σ ++ affW c b β ++ histW c h η ++ rgW c h R 10 ++ rgW c g I 2 ++ findW c f φ ++ courseW c o κ ++ modelW c n μ r) (wk_pm (fun y => by simp only [ct_app, lwA_ct]; omega)) 0 rfl rfl rfl hl.1 rfl (Nat.le_of_ble_eq_true rfl) dL_law_872 (Nat.le_of_ble_eq_true rfl) (Nat.le_of_ble_eq_true rfl) ?_
    refine lv_aload_n hx hb dL_law_875 rfl (lv_at hl 2 rfl) ?_
    refine lv_aload_n hx hb dL_law_876 rfl (lv_at hl 0 rfl) ?_
    refine lv_iload_n hx hb dL_law_877 rfl (lv_at hl 3 rfl) ?_
    refine lv_iconst (v := 1) hx hb dL_law_878 (by decide) ?_
    refine lv_iadd hx hb dL_law_879 ?_
    refine wk_eqi (y := nI (i + 1)) (nI_add i 1) ?_
    refine va_sld hx hb hX hbl hbA hS (vp_in_nI (by omega) (by omega)) dL_law_880 ?_
    refine wk_eqi (y := a1) (by rw [nI_cl (by omega)]; exact ha1) ?_
    refine wk_callUP (As := [.int a1]) (rest := [.int (-1)]) ⟨hx, hb, hml, hown, hts⟩ (c_X8_keep l D c n μ r a1) (cwV 1 hts gL_law_X8_keep rfl rfl rfl hd_X8_keep ⟨Nat.le_of_ble_eq_true rfl, Nat.le_of_ble_eq_true rfl⟩) hK hP hD hS hA (wr := lwA c x t p sp a b h g f o τ π ζ σ β η α φ κ R I k) (ws' := lwA c x t p sp a b h g f o τ π ζ σ β η α φ κ R I k ++ modelW c n (mkeF μ a1) r) List.perm_append_comm List.perm_append_comm rfl 0 rfl rfl rfl hl.1 rfl (Nat.le_of_ble_eq_true rfl) dL_law_881 (Nat.le_of_ble_eq_true rfl) (Nat.le_of_ble_eq_true rfl) (fun H locs hP hD hS => ?_)
    have he := (if_neg nb : mkeV μ a1 = -1).symm
    refine lv_icmp_eq (tgt := 949) hx hb dL_law_884 (by decide) (fun _ => ?_) (fun q => absurd (he) q)
    exact hB x t p sp a b h g f o n τ π ζ σ β η α φ κ R I k (mkeF μ a1) r H _ ls (by rw [eF]; exact hall) hP hD hS hl

set_option maxHeartbeats 4000000 in
set_option maxRecDepth 100000 in
theorem lc_27 {pr : Program} {l : Launch} {ev : Env} {ss : State} {mm : MethodId} {below : List Frame} {meth : Method} {cd : Code} {bs L : Nat} {xs : Nat → Int32} {D : va_G} {c : Nat → ClassId} (hL : L ≤ 320) (C0 : lw_At pr ss mm meth cd bs L xs) (hK : va_K D vwCl (tysL c) ss) {i : Nat} (hi : i + 5 ≤ L) (hB : LB pr l ev ss mm below meth cd D c bs 949 i) : LB pr l ev ss mm below meth cd D c bs 889 i := by
  obtain ⟨hx, hb, hr, hml, hown, hts0, hX, hbl, hlocks, -⟩ := C0
  have hts : ∀ w ∈ wsL_law, w.before #[Value.ref bs] ss = true := fun w h => hts0 w (wsL_law_in w h)
  have hown : ss.vm.findClass RL = some mm.cls := hown
  have hA : ∀ q : Nat, ss.heap.size ≤ q → (fun q : Nat => ss.heap.size ≤ q) q := fun _ h => h
  have hbA : ¬ (fun q : Nat => ss.heap.size ≤ q) bs := Nat.not_le.mpr hbl
  intro x t p sp a b h g f o n τ π ζ σ β η α φ κ R I k μ r H locs ls hall hP hD hS hl
  obtain ⟨a1, ha1⟩ : ∃ v : Int32, xs (i + 1) = v := ⟨_, rfl⟩
  by_cases hb0 : imOK a1
  · obtain ⟨j, hj, ej⟩ : ∃ j : Nat, j < 2 ∧ a1 = nI j := ⟨_, (ix_of (y := 2) (n := 2) rfl (by omega) hb0).2, (ix_of (y := 2) (n := 2) rfl (by omega) hb0).1⟩
    subst ej
    refine lv_aload_n hx hb dL_law_889 rfl (lv_at hl 1 rfl) ?_
    refine lv_aload_n hx hb dL_law_890 rfl (lv_at hl 0 rfl) ?_
    refine lv_iload_n hx hb dL_law_891 rfl (lv_at hl 3 rfl) ?_
    refine lv_iconst (v := 1) hx hb dL_law_892 (by decide) ?_
    refine lv_iadd hx hb dL_law_893 ?_
    refine wk_eqi (y := nI (i + 1)) (nI_add i 1) ?_
    refine va_sld hx hb hX hbl hbA hS (vp_in_nI (by omega) (by omega)) dL_law_894 ?_
    refine wk_eqi (y := nI j) (by rw [nI_cl (by omega)]; exact ha1) ?_
    refine wk_callUP (As := [.int (nI j)]) (rest := []) ⟨hx, hb, hml, hown, hts⟩ (c_X7_back_y l D c x t p sp a b h g f o k σ η α (I j) j (hj)) (cwV 1 hts gL_law_X7_back rfl rfl rfl hd_X7_back ⟨Nat.le_of_ble_eq_true rfl, Nat.le_of_ble_eq_true rfl⟩) hK hP hD hS hA (wr := textW c t τ ++ pageW c p π ++ pageW c sp ζ ++ affW c b β ++ rgW c h R 10 ++ rgX c g I j 2 ++ findW c f φ ++ courseW c o κ ++ modelW c n μ r) (ws' := lwA c x t p sp a b h g f o τ π ζ (backA α σ (I j) j) β (backH α η j) α φ κ R I k ++ modelW c n μ r) (wk_pm (fun y => by have hr := rg_in c g I (j := j) (n := 2) hj y; simp only [ct_app, lwA_ct]; omega)) (wk_pm (fun y => by have hr := rg_in c g I (j := j) (n := 2) hj y; simp only [ct_app, lwA_ct]; omega)) rfl 0 rfl rfl rfl hl.1 rfl (Nat.le_of_ble_eq_true rfl) dL_law_895 (Nat.le_of_ble_eq_true rfl) (Nat.le_of_ble_eq_true rfl) (fun H locs hP hD hS => ?_)
    refine lv_aload_n hx hb dL_law_898 rfl (lv_at hl 2 rfl) ?_
    refine lv_aload_n hx hb dL_law_899 rfl (lv_at hl 0 rfl) ?_
    refine lv_iload_n hx hb dL_law_900 rfl (lv_at hl 3 rfl) ?_
    refine lv_iconst (v := 1) hx hb dL_law_901 (by decide) ?_
    refine lv_iadd hx hb dL_law_902 ?_
    refine wk_eqi (y := nI (i + 1)) (nI_add i 1) ?_
    refine va_sld hx hb hX hbl hbA hS (vp_in_nI (by omega) (by omega)) dL_law_903 ?_
    refine wk_eqi (y := nI j) (by rw [nI_cl (by omega)]; exact ha1) ?_
    refine wk_callUP (As := [.int (nI j)]) (rest := [.int (backV α (I j) j)]) ⟨hx, hb, hml, hown, hts⟩ (c_X8_back l D c n μ r (nI j)) (cwV 1 hts gL_law_X8_back rfl rfl rfl hd_X8_back ⟨Nat.le_of_ble_eq_true rfl, Nat.le_of_ble_eq_true rfl⟩) hK hP hD hS hA (wr := lwA c x t p sp a b h g f o τ π ζ (backA α σ (I j) j) β (backH α η j) α φ κ R I k) (ws' := lwA c x t p sp a b h g f o τ π ζ (backA α σ (I j) j) β (backH α η j) α φ κ R I k ++ modelW c n (mbaF μ (nI j)) r) List.perm_append_comm List.perm_append_comm rfl 0 rfl rfl rfl hl.1 rfl (Nat.le_of_ble_eq_true rfl) dL_law_904 (Nat.le_of_ble_eq_true rfl) (Nat.le_of_ble_eq_true rfl) (fun H locs hP hD hS => ?_)
    have he := e_back hall hj
    refine lv_icmp_eq (tgt := 949) hx hb dL_law_907 (by decide) (fun _ => ?_) (fun q => absurd (he.1) q)
    exact hB x t p sp a b h g f o n τ π ζ (backA α σ (I j) j) β (backH α η j) α φ κ R I k (mbaF μ (nI j)) r H _ ls (he.2) hP hD hS hl
  · have nb : ¬ inB a1 0 1 := fun q => hb0 ((lt_2 a1).mpr q)
    have eF : mbaF μ a1 = μ := if_neg (fun q => nb q.1)
    refine lv_aload_n hx hb dL_law_889 rfl (lv_at hl 1 rfl) ?_
    refine lv_aload_n hx hb dL_law_890 rfl (lv_at hl 0 rfl) ?_
    refine lv_iload_n hx hb dL_law_891 rfl (lv_at hl 3 rfl) ?_
    refine lv_iconst (v := 1) hx hb dL_law_892 (by decide) ?_
    refine lv_iadd hx hb dL_law_893 ?_
    refine wk_eqi (y := nI (i + 1)) (nI_add i 1) ?_
    refine va_sld hx hb hX hbl hbA hS (vp_in_nI (by omega) (by omega)) dL_law_894 ?_
    refine wk_eqi (y := a1) (by rw [nI_cl (by omega)]; exact ha1) ?_
    refine wk_callRP (As := [.int a1]) (rest := []) ⟨hx, hb, hml, hown, hts⟩ (c_X7_back_n l D c x t p sp a b h g f o k α a1 (hb0)) (cwV 1 hts gL_law_X7_back rfl rfl rfl hd_X7_back ⟨Nat.le_of_ble_eq_true rfl, Nat.le_of_ble_eq_true rfl⟩) hK hP (wr := textW c t τ ++ pageW c p π ++ pageW c sp ζ ++ affW c a σ ++ affW c b β ++ histW c h η ++ rgW c h R 10 ++ rgW c g I 2 ++ findW c f φ ++ courseW c o κ ++ modelW c n μ r) (wk_pm (fun y => by simp only [ct_app, lwA_ct]; omega)) 0 rfl rfl rfl hl.1 rfl (Nat.le_of_ble_eq_true rfl) dL_law_895 (Nat.le_of_ble_eq_true rfl) (Nat.le_of_ble_eq_true rfl) ?_
    refine lv_aload_n hx hb dL_law_898 rfl (lv_at hl 2 rfl) ?_
    refine lv_aload_n hx hb dL_law_899 rfl (lv_at hl 0 rfl) ?_
    refine lv_iload_n hx hb dL_law_900 rfl (lv_at hl 3 rfl) ?_
    refine lv_iconst (v := 1) hx hb dL_law_901 (by decide) ?_
    refine lv_iadd hx hb dL_law_902 ?_
    refine wk_eqi (y := nI (i + 1)) (nI_add i 1) ?_
    refine va_sld hx hb hX hbl hbA hS (vp_in_nI (by omega) (by omega)) dL_law_903 ?_
    refine wk_eqi (y := a1) (by rw [nI_cl (by omega)]; exact ha1) ?_
    refine wk_callUP (As := [.int a1]) (rest := [.int (-1)]) ⟨hx, hb, hml, hown, hts⟩ (c_X8_back l D c n μ r a1) (cwV 1 hts gL_law_X8_back rfl rfl rfl hd_X8_back ⟨Nat.le_of_ble_eq_true rfl, Nat.le_of_ble_eq_true rfl⟩) hK hP hD hS hA (wr := lwA c x t p sp a b h g f o τ π ζ σ β η α φ κ R I k) (ws' := lwA c x t p sp a b h g f o τ π ζ σ β η α φ κ R I k ++ modelW c n (mbaF μ a1) r) List.perm_append_comm List.perm_append_comm rfl 0 rfl rfl rfl hl.1 rfl (Nat.le_of_ble_eq_true rfl) dL_law_904 (Nat.le_of_ble_eq_true rfl) (Nat.le_of_ble_eq_true rfl) (fun H locs hP hD hS => ?_)
    have he := (if_neg nb : mbaV μ a1 = -1).symm
    refine lv_icmp_eq (tgt := 949) hx hb dL_law_907 (by decide) (fun _ => ?_) (fun q => absurd (he) q)
    exact hB x t p sp a b h g f o n τ π ζ σ β η α φ κ R I k (mbaF μ a1) r H _ ls (by rw [eF]; exact hall) hP hD hS hl

set_option maxHeartbeats 4000000 in
set_option maxRecDepth 100000 in
theorem lc_28 {pr : Program} {l : Launch} {ev : Env} {ss : State} {mm : MethodId} {below : List Frame} {meth : Method} {cd : Code} {bs L : Nat} {xs : Nat → Int32} {D : va_G} {c : Nat → ClassId} (hL : L ≤ 320) (C0 : lw_At pr ss mm meth cd bs L xs) (hK : va_K D vwCl (tysL c) ss) {i : Nat} (hi : i + 5 ≤ L) (hB : LB pr l ev ss mm below meth cd D c bs 949 i) : LB pr l ev ss mm below meth cd D c bs 912 i := by
  obtain ⟨hx, hb, hr, hml, hown, hts0, hX, hbl, hlocks, -⟩ := C0
  have hts : ∀ w ∈ wsL_law, w.before #[Value.ref bs] ss = true := fun w h => hts0 w (wsL_law_in w h)
  have hown : ss.vm.findClass RL = some mm.cls := hown
  have hA : ∀ q : Nat, ss.heap.size ≤ q → (fun q : Nat => ss.heap.size ≤ q) q := fun _ h => h
  have hbA : ¬ (fun q : Nat => ss.heap.size ≤ q) bs := Nat.not_le.mpr hbl
  intro x t p sp a b h g f o n τ π ζ σ β η α φ κ R I k μ r H locs ls hall hP hD hS hl
  obtain ⟨a1, ha1⟩ : ∃ v : Int32, xs (i + 1) = v := ⟨_, rfl⟩
  refine lv_aload_n hx hb dL_law_912 rfl (lv_at hl 1 rfl) ?_
  refine lv_aload_n hx hb dL_law_913 rfl (lv_at hl 0 rfl) ?_
  refine lv_iload_n hx hb dL_law_914 rfl (lv_at hl 3 rfl) ?_
  refine lv_iconst (v := 1) hx hb dL_law_915 (by decide) ?_
  refine lv_iadd hx hb dL_law_916 ?_
  refine wk_eqi (y := nI (i + 1)) (nI_add i 1) ?_
  refine va_sld hx hb hX hbl hbA hS (vp_in_nI (by omega) (by omega)) dL_law_917 ?_
  refine wk_eqi (y := a1) (by rw [nI_cl (by omega)]; exact ha1) ?_
  refine wk_callRP (As := [.int a1]) (rest := []) ⟨hx, hb, hml, hown, hts⟩ (c_X7_count l D c x t p sp a b h g f o k τ π φ a1) (cwV 1 hts gL_law_X7_count rfl rfl rfl hd_X7_count ⟨Nat.le_of_ble_eq_true rfl, Nat.le_of_ble_eq_true rfl⟩) hK hP (wr := pageW c sp ζ ++ affW c a σ ++ affW c b β ++ histW c h η ++ rgW c h R 10 ++ albumW c g α ++ rgW c g I 2 ++ courseW c o κ ++ modelW c n μ r) (wk_pm (fun y => by simp only [ct_app, lwA_ct]; omega)) 0 rfl rfl rfl hl.1 rfl (Nat.le_of_ble_eq_true rfl) dL_law_918 (Nat.le_of_ble_eq_true rfl) (Nat.le_of_ble_eq_true rfl) ?_
  refine lv_aload_n hx hb dL_law_921 rfl (lv_at hl 2 rfl) ?_
  refine lv_aload_n hx hb dL_law_922 rfl (lv_at hl 0 rfl) ?_
  refine lv_iload_n hx hb dL_law_923 rfl (lv_at hl 3 rfl) ?_
  refine lv_iconst (v := 1) hx hb dL_law_924 (by decide) ?_
  refine lv_iadd hx hb dL_law_925 ?_
  refine wk_eqi (y := nI (i + 1)) (nI_add i 1) ?_
  refine va_sld hx hb hX hbl hbA hS (vp_in_nI (by omega) (by omega)) dL_law_926 ?_
  refine wk_eqi (y := a1) (by rw [nI_cl (by omega)]; exact ha1) ?_
  refine wk_callRP (As := [.int a1]) (rest := [.int (countV π τ φ a1)]) ⟨hx, hb, hml, hown, hts⟩ (c_X8_count l D c n μ r a1) (cwV 1 hts gL_law_X8_count rfl rfl rfl hd_X8_count ⟨Nat.le_of_ble_eq_true rfl, Nat.le_of_ble_eq_true rfl⟩) hK hP (wr := lwA c x t p sp a b h g f o τ π ζ σ β η α φ κ R I k) List.perm_append_comm 0 rfl rfl rfl hl.1 rfl (Nat.le_of_ble_eq_true rfl) dL_law_927 (Nat.le_of_ble_eq_true rfl) (Nat.le_of_ble_eq_true rfl) ?_
  have he := e_count hall a1
  refine lv_icmp_eq (tgt := 949) hx hb dL_law_930 (by decide) (fun _ => ?_) (fun q => absurd (he) q)
  exact hB x t p sp a b h g f o n τ π ζ σ β η α φ κ R I k μ r H _ ls (hall) hP hD hS hl

set_option maxHeartbeats 4000000 in
set_option maxRecDepth 100000 in
theorem lc_29 {pr : Program} {l : Launch} {ev : Env} {ss : State} {mm : MethodId} {below : List Frame} {meth : Method} {cd : Code} {bs L : Nat} {xs : Nat → Int32} {D : va_G} {c : Nat → ClassId} (hL : L ≤ 320) (C0 : lw_At pr ss mm meth cd bs L xs) (hK : va_K D vwCl (tysL c) ss) {i : Nat} (hi : i + 5 ≤ L) (hB : LB pr l ev ss mm below meth cd D c bs 949 i) : LB pr l ev ss mm below meth cd D c bs 935 i := by
  obtain ⟨hx, hb, hr, hml, hown, hts0, hX, hbl, hlocks, -⟩ := C0
  have hts : ∀ w ∈ wsL_law, w.before #[Value.ref bs] ss = true := fun w h => hts0 w (wsL_law_in w h)
  have hown : ss.vm.findClass RL = some mm.cls := hown
  have hA : ∀ q : Nat, ss.heap.size ≤ q → (fun q : Nat => ss.heap.size ≤ q) q := fun _ h => h
  have hbA : ¬ (fun q : Nat => ss.heap.size ≤ q) bs := Nat.not_le.mpr hbl
  intro x t p sp a b h g f o n τ π ζ σ β η α φ κ R I k μ r H locs ls hall hP hD hS hl
  refine lv_aload_n hx hb dL_law_935 rfl (lv_at hl 1 rfl) ?_
  refine wk_callLP (As := []) (rest := []) ⟨hx, hb, hml, hown, hts⟩ (c_X7_trace l D c x t p sp a b h g f o k) (cwV 0 hts gL_law_X7_trace rfl rfl rfl hd_X7_trace ⟨Nat.le_of_ble_eq_true rfl, Nat.le_of_ble_eq_true rfl⟩) hK hP (wr := textW c t τ ++ pageW c p π ++ pageW c sp ζ ++ affW c a σ ++ affW c b β ++ histW c h η ++ rgW c h R 10 ++ albumW c g α ++ rgW c g I 2 ++ findW c f φ ++ courseW c o κ ++ modelW c n μ r) (wk_pm (fun y => by simp only [ct_app, lwA_ct]; omega)) 0 rfl rfl rfl hl.1 rfl (Nat.le_of_ble_eq_true rfl) dL_law_936 (Nat.le_of_ble_eq_true rfl) (Nat.le_of_ble_eq_true rfl) ?_
  refine lv_aload_n hx hb dL_law_939 rfl (lv_at hl 2 rfl) ?_
  refine wk_callLP (As := []) (rest := [.long k]) ⟨hx, hb, hml, hown, hts⟩ (c_X8_trace l D c n μ r) (cwV 0 hts gL_law_X8_trace rfl rfl rfl hd_X8_trace ⟨Nat.le_of_ble_eq_true rfl, Nat.le_of_ble_eq_true rfl⟩) hK hP (wr := lwA c x t p sp a b h g f o τ π ζ σ β η α φ κ R I k) List.perm_append_comm 0 rfl rfl rfl hl.1 rfl (Nat.le_of_ble_eq_true rfl) dL_law_940 (Nat.le_of_ble_eq_true rfl) (Nat.le_of_ble_eq_true rfl) ?_
  have he := hall.2.2.2.2.2.2
  refine W.lcmp hx hb dL_law_943 ?_
  refine wk_eqi (y := 0) (by rw [he]; exact lcmp_self _) ?_
  refine lv_if_eq (tgt := 949) hx hb dL_law_944 (by decide) (fun _ => ?_) (fun q => absurd rfl q)
  exact hB x t p sp a b h g f o n τ π ζ σ β η α φ κ R I k μ r H _ ls (hall) hP hD hS hl

set_option maxHeartbeats 4000000 in
set_option maxRecDepth 100000 in
theorem lc_0 {pr : Program} {l : Launch} {ev : Env} {ss : State} {mm : MethodId} {below : List Frame} {meth : Method} {cd : Code} {bs L : Nat} {xs : Nat → Int32} {D : va_G} {c : Nat → ClassId} (hL : L ≤ 320) (C0 : lw_At pr ss mm meth cd bs L xs) (hK : va_K D vwCl (tysL c) ss) {i : Nat} (hi : i + 5 ≤ L) (hB : LB pr l ev ss mm below meth cd D c bs 949 i) : LB pr l ev ss mm below meth cd D c bs 168 i := by
  obtain ⟨hx, hb, hr, hml, hown, hts0, hX, hbl, hlocks, -⟩ := C0
  have hts : ∀ w ∈ wsL_law, w.before #[Value.ref bs] ss = true := fun w h => hts0 w (wsL_law_in w h)
  have hown : ss.vm.findClass RL = some mm.cls := hown
  have hA : ∀ q : Nat, ss.heap.size ≤ q → (fun q : Nat => ss.heap.size ≤ q) q := fun _ h => h
  have hbA : ¬ (fun q : Nat => ss.heap.size ≤ q) bs := Nat.not_le.mpr hbl
  intro x t p sp a b h g f o n τ π ζ σ β η α φ κ R I k μ r H locs ls hall hP hD hS hl
  obtain ⟨a1, ha1⟩ : ∃ v : Int32, xs (i + 1) = v := ⟨_, rfl⟩
  refine lv_aload_n hx hb dL_law_168 rfl (lv_at hl 1 rfl) ?_
  refine lv_aload_n hx hb dL_law_169 rfl (lv_at hl 0 rfl) ?_
  refine lv_iload_n hx hb dL_law_170 rfl (lv_at hl 3 rfl) ?_
  refine lv_iconst (v := 1) hx hb dL_law_171 (by decide) ?_
  refine lv_iadd hx hb dL_law_172 ?_
  refine wk_eqi (y := nI (i + 1)) (nI_add i 1) ?_
  refine va_sld hx hb hX hbl hbA hS (vp_in_nI (by omega) (by omega)) dL_law_173 ?_
  refine wk_eqi (y := a1) (by rw [nI_cl (by omega)]; exact ha1) ?_
  refine wk_callUP (As := [.int a1]) (rest := []) ⟨hx, hb, hml, hown, hts⟩ (c_X7_type l D c x t p sp a b h g f o k τ a1 (hall.1.2.2)) (cwV 1 hts gL_law_X7_type rfl rfl rfl hd_X7_type ⟨Nat.le_of_ble_eq_true rfl, Nat.le_of_ble_eq_true rfl⟩) hK hP hD hS hA (wr := pageW c p π ++ pageW c sp ζ ++ affW c a σ ++ affW c b β ++ histW c h η ++ rgW c h R 10 ++ albumW c g α ++ rgW c g I 2 ++ findW c f φ ++ courseW c o κ ++ modelW c n μ r) (ws' := lwA c x t p sp a b h g f o (typeT τ a1) π ζ σ β η α φ κ R I k ++ modelW c n μ r) (wk_pm (fun y => by simp only [ct_app, lwA_ct]; omega)) (wk_pm (fun y => by simp only [ct_app, lwA_ct]; omega)) rfl 0 rfl rfl rfl hl.1 rfl (Nat.le_of_ble_eq_true rfl) dL_law_174 (Nat.le_of_ble_eq_true rfl) (Nat.le_of_ble_eq_true rfl) (fun H locs hP hD hS => ?_)
  refine lv_aload_n hx hb dL_law_177 rfl (lv_at hl 2 rfl) ?_
  refine lv_aload_n hx hb dL_law_178 rfl (lv_at hl 0 rfl) ?_
  refine lv_iload_n hx hb dL_law_179 rfl (lv_at hl 3 rfl) ?_
  refine lv_iconst (v := 1) hx hb dL_law_180 (by decide) ?_
  refine lv_iadd hx hb dL_law_181 ?_
  refine wk_eqi (y := nI (i + 1)) (nI_add i 1) ?_
  refine va_sld hx hb hX hbl hbA hS (vp_in_nI (by omega) (by omega)) dL_law_182 ?_
  refine wk_eqi (y := a1) (by rw [nI_cl (by omega)]; exact ha1) ?_
  refine wk_callUP (As := [.int a1]) (rest := [.int (typeV τ a1)]) ⟨hx, hb, hml, hown, hts⟩ (c_X8_type l D c n μ r a1 (all_M hall)) (cwV 1 hts gL_law_X8_type rfl rfl rfl hd_X8_type ⟨Nat.le_of_ble_eq_true rfl, Nat.le_of_ble_eq_true rfl⟩) hK hP hD hS hA (wr := lwA c x t p sp a b h g f o (typeT τ a1) π ζ σ β η α φ κ R I k) (ws' := lwA c x t p sp a b h g f o (typeT τ a1) π ζ σ β η α φ κ R I k ++ modelW c n (mtypeF μ a1) r) List.perm_append_comm List.perm_append_comm rfl 0 rfl rfl rfl hl.1 rfl (Nat.le_of_ble_eq_true rfl) dL_law_183 (Nat.le_of_ble_eq_true rfl) (Nat.le_of_ble_eq_true rfl) (fun H locs hP hD hS => ?_)
  have he := e_type hall a1
  refine lv_icmp_eq (tgt := 949) hx hb dL_law_186 (by decide) (fun _ => ?_) (fun q => absurd (he.1) q)
  exact hB x t p sp a b h g f o n (typeT τ a1) π ζ σ β η α φ κ R I k (mtypeF μ a1) r H _ ls (he.2) hP hD hS hl

set_option maxHeartbeats 4000000 in
set_option maxRecDepth 100000 in
theorem lc_1 {pr : Program} {l : Launch} {ev : Env} {ss : State} {mm : MethodId} {below : List Frame} {meth : Method} {cd : Code} {bs L : Nat} {xs : Nat → Int32} {D : va_G} {c : Nat → ClassId} (hL : L ≤ 320) (C0 : lw_At pr ss mm meth cd bs L xs) (hK : va_K D vwCl (tysL c) ss) {i : Nat} (hi : i + 5 ≤ L) (hB : LB pr l ev ss mm below meth cd D c bs 949 i) : LB pr l ev ss mm below meth cd D c bs 191 i := by
  obtain ⟨hx, hb, hr, hml, hown, hts0, hX, hbl, hlocks, -⟩ := C0
  have hts : ∀ w ∈ wsL_law, w.before #[Value.ref bs] ss = true := fun w h => hts0 w (wsL_law_in w h)
  have hown : ss.vm.findClass RL = some mm.cls := hown
  have hA : ∀ q : Nat, ss.heap.size ≤ q → (fun q : Nat => ss.heap.size ≤ q) q := fun _ h => h
  have hbA : ¬ (fun q : Nat => ss.heap.size ≤ q) bs := Nat.not_le.mpr hbl
  intro x t p sp a b h g f o n τ π ζ σ β η α φ κ R I k μ r H locs ls hall hP hD hS hl
  refine lv_aload_n hx hb dL_law_191 rfl (lv_at hl 1 rfl) ?_
  refine wk_callUP (As := []) (rest := []) ⟨hx, hb, hml, hown, hts⟩ (c_X7_clear l D c x t p sp a b h g f o k τ) (cwV 0 hts gL_law_X7_clear rfl rfl rfl hd_X7_clear ⟨Nat.le_of_ble_eq_true rfl, Nat.le_of_ble_eq_true rfl⟩) hK hP hD hS hA (wr := pageW c p π ++ pageW c sp ζ ++ affW c a σ ++ affW c b β ++ histW c h η ++ rgW c h R 10 ++ albumW c g α ++ rgW c g I 2 ++ findW c f φ ++ courseW c o κ ++ modelW c n μ r) (ws' := lwA c x t p sp a b h g f o (emptyT τ) π ζ σ β η α φ κ R I k ++ modelW c n μ r) (wk_pm (fun y => by simp only [ct_app, lwA_ct]; omega)) (wk_pm (fun y => by simp only [ct_app, lwA_ct]; omega)) rfl 0 rfl rfl rfl hl.1 rfl (Nat.le_of_ble_eq_true rfl) dL_law_192 (Nat.le_of_ble_eq_true rfl) (Nat.le_of_ble_eq_true rfl) (fun H locs hP hD hS => ?_)
  refine lv_aload_n hx hb dL_law_195 rfl (lv_at hl 2 rfl) ?_
  refine wk_callUP (As := []) (rest := [.int (τ 1 0)]) ⟨hx, hb, hml, hown, hts⟩ (c_X8_clear l D c n μ r) (cwV 0 hts gL_law_X8_clear rfl rfl rfl hd_X8_clear ⟨Nat.le_of_ble_eq_true rfl, Nat.le_of_ble_eq_true rfl⟩) hK hP hD hS hA (wr := lwA c x t p sp a b h g f o (emptyT τ) π ζ σ β η α φ κ R I k) (ws' := lwA c x t p sp a b h g f o (emptyT τ) π ζ σ β η α φ κ R I k ++ modelW c n (mclearF μ) r) List.perm_append_comm List.perm_append_comm rfl 0 rfl rfl rfl hl.1 rfl (Nat.le_of_ble_eq_true rfl) dL_law_196 (Nat.le_of_ble_eq_true rfl) (Nat.le_of_ble_eq_true rfl) (fun H locs hP hD hS => ?_)
  have he := e_clear hall 
  refine lv_icmp_eq (tgt := 949) hx hb dL_law_199 (by decide) (fun _ => ?_) (fun q => absurd (he.1) q)
  exact hB x t p sp a b h g f o n (emptyT τ) π ζ σ β η α φ κ R I k (mclearF μ) r H _ ls (he.2) hP hD hS hl

set_option maxHeartbeats 4000000 in
set_option maxRecDepth 100000 in
theorem lc_2 {pr : Program} {l : Launch} {ev : Env} {ss : State} {mm : MethodId} {below : List Frame} {meth : Method} {cd : Code} {bs L : Nat} {xs : Nat → Int32} {D : va_G} {c : Nat → ClassId} (hL : L ≤ 320) (C0 : lw_At pr ss mm meth cd bs L xs) (hK : va_K D vwCl (tysL c) ss) {i : Nat} (hi : i + 5 ≤ L) (hB : LB pr l ev ss mm below meth cd D c bs 949 i) : LB pr l ev ss mm below meth cd D c bs 204 i := by
  obtain ⟨hx, hb, hr, hml, hown, hts0, hX, hbl, hlocks, -⟩ := C0
  have hts : ∀ w ∈ wsL_law, w.before #[Value.ref bs] ss = true := fun w h => hts0 w (wsL_law_in w h)
  have hown : ss.vm.findClass RL = some mm.cls := hown
  have hA : ∀ q : Nat, ss.heap.size ≤ q → (fun q : Nat => ss.heap.size ≤ q) q := fun _ h => h
  have hbA : ¬ (fun q : Nat => ss.heap.size ≤ q) bs := Nat.not_le.mpr hbl
  intro x t p sp a b h g f o n τ π ζ σ β η α φ κ R I k μ r H locs ls hall hP hD hS hl
  by_cases hb0 : papV τ ζ < 0
  · refine lv_aload_n hx hb dL_law_204 rfl (lv_at hl 1 rfl) ?_
    refine wk_callUP (As := []) (rest := []) ⟨hx, hb, hml, hown, hts⟩ (c_X7_paper_n l D c x t p sp a b h g f o k τ ζ (hall.1.2.2) (hb0)) (cwV 0 hts gL_law_X7_paper rfl rfl rfl hd_X7_paper ⟨Nat.le_of_ble_eq_true rfl, Nat.le_of_ble_eq_true rfl⟩) hK hP hD hS hA (wr := pageW c p π ++ affW c a σ ++ affW c b β ++ histW c h η ++ rgW c h R 10 ++ albumW c g α ++ rgW c g I 2 ++ findW c f φ ++ courseW c o κ ++ modelW c n μ r) (ws' := lwA c x t p sp a b h g f o ((papE τ ζ).1) π ((papE τ ζ).2) σ β η α φ κ R I k ++ modelW c n μ r) (wk_pm (fun y => by simp only [ct_app, lwA_ct]; omega)) (wk_pm (fun y => by simp only [ct_app, lwA_ct]; omega)) rfl 0 rfl rfl rfl hl.1 rfl (Nat.le_of_ble_eq_true rfl) dL_law_205 (Nat.le_of_ble_eq_true rfl) (Nat.le_of_ble_eq_true rfl) (fun H locs hP hD hS => ?_)
    refine lv_aload_n hx hb dL_law_208 rfl (lv_at hl 2 rfl) ?_
    refine wk_callUP (As := []) (rest := [.int (papV τ ζ)]) ⟨hx, hb, hml, hown, hts⟩ (c_X8_paper l D c n μ r (all_M hall)) (cwV 0 hts gL_law_X8_paper rfl rfl rfl hd_X8_paper ⟨Nat.le_of_ble_eq_true rfl, Nat.le_of_ble_eq_true rfl⟩) hK hP hD hS hA (wr := lwA c x t p sp a b h g f o ((papE τ ζ).1) π ((papE τ ζ).2) σ β η α φ κ R I k) (ws' := lwA c x t p sp a b h g f o ((papE τ ζ).1) π ((papE τ ζ).2) σ β η α φ κ R I k ++ modelW c n (mpE μ 8 0) r) List.perm_append_comm List.perm_append_comm rfl 0 rfl rfl rfl hl.1 rfl (Nat.le_of_ble_eq_true rfl) dL_law_209 (Nat.le_of_ble_eq_true rfl) (Nat.le_of_ble_eq_true rfl) (fun H locs hP hD hS => ?_)
    have he := e_paper_n hall hb0
    refine lv_icmp_eq (tgt := 949) hx hb dL_law_212 (by decide) (fun _ => ?_) (fun q => absurd (he.1) q)
    exact hB x t p sp a b h g f o n ((papE τ ζ).1) π ((papE τ ζ).2) σ β η α φ κ R I k (mpE μ 8 0) r H _ ls (he.2) hP hD hS hl
  · refine lv_aload_n hx hb dL_law_204 rfl (lv_at hl 1 rfl) ?_
    refine wk_callUP (As := []) (rest := []) ⟨hx, hb, hml, hown, hts⟩ (c_X7_paper_y l D c x t p sp a b h g f o k τ π ζ σ η α φ (hall.1.2.2) (hb0)) (cwV 0 hts gL_law_X7_paper rfl rfl rfl hd_X7_paper ⟨Nat.le_of_ble_eq_true rfl, Nat.le_of_ble_eq_true rfl⟩) hK hP hD hS hA (wr := affW c b β ++ rgW c h R 10 ++ rgW c g I 2 ++ courseW c o κ ++ modelW c n μ r) (ws' := lwA c x t sp p a b h g f o (emptyT (papE τ ζ).1) ((papE τ ζ).2) π (anewL σ 6) β (hdropF η) (hdropF α) (dropF φ) κ R I k ++ modelW c n μ r) (wk_pm (fun y => by simp only [ct_app, lwA_ct]; omega)) (wk_pm (fun y => by simp only [ct_app, lwA_ct]; omega)) rfl 0 rfl rfl rfl hl.1 rfl (Nat.le_of_ble_eq_true rfl) dL_law_205 (Nat.le_of_ble_eq_true rfl) (Nat.le_of_ble_eq_true rfl) (fun H locs hP hD hS => ?_)
    refine lv_aload_n hx hb dL_law_208 rfl (lv_at hl 2 rfl) ?_
    refine wk_callUP (As := []) (rest := [.int (papV τ ζ)]) ⟨hx, hb, hml, hown, hts⟩ (c_X8_paper l D c n μ r (all_M hall)) (cwV 0 hts gL_law_X8_paper rfl rfl rfl hd_X8_paper ⟨Nat.le_of_ble_eq_true rfl, Nat.le_of_ble_eq_true rfl⟩) hK hP hD hS hA (wr := lwA c x t sp p a b h g f o (emptyT (papE τ ζ).1) ((papE τ ζ).2) π (anewL σ 6) β (hdropF η) (hdropF α) (dropF φ) κ R I k) (ws' := lwA c x t sp p a b h g f o (emptyT (papE τ ζ).1) ((papE τ ζ).2) π (anewL σ 6) β (hdropF η) (hdropF α) (dropF φ) κ R I k ++ modelW c n (mpE μ 8 0) r) List.perm_append_comm List.perm_append_comm rfl 0 rfl rfl rfl hl.1 rfl (Nat.le_of_ble_eq_true rfl) dL_law_209 (Nat.le_of_ble_eq_true rfl) (Nat.le_of_ble_eq_true rfl) (fun H locs hP hD hS => ?_)
    have he := e_paper_y hall hb0
    refine lv_icmp_eq (tgt := 949) hx hb dL_law_212 (by decide) (fun _ => ?_) (fun q => absurd (he.1) q)
    exact hB x t sp p a b h g f o n (emptyT (papE τ ζ).1) ((papE τ ζ).2) π (anewL σ 6) β (hdropF η) (hdropF α) (dropF φ) κ R I k (mpE μ 8 0) r H _ ls (he.2) hP hD hS hl

set_option maxHeartbeats 4000000 in
set_option maxRecDepth 100000 in
theorem lc_3 {pr : Program} {l : Launch} {ev : Env} {ss : State} {mm : MethodId} {below : List Frame} {meth : Method} {cd : Code} {bs L : Nat} {xs : Nat → Int32} {D : va_G} {c : Nat → ClassId} (hL : L ≤ 320) (C0 : lw_At pr ss mm meth cd bs L xs) (hK : va_K D vwCl (tysL c) ss) {i : Nat} (hi : i + 5 ≤ L) (hB : LB pr l ev ss mm below meth cd D c bs 949 i) : LB pr l ev ss mm below meth cd D c bs 217 i := by
  obtain ⟨hx, hb, hr, hml, hown, hts0, hX, hbl, hlocks, -⟩ := C0
  have hts : ∀ w ∈ wsL_law, w.before #[Value.ref bs] ss = true := fun w h => hts0 w (wsL_law_in w h)
  have hown : ss.vm.findClass RL = some mm.cls := hown
  have hA : ∀ q : Nat, ss.heap.size ≤ q → (fun q : Nat => ss.heap.size ≤ q) q := fun _ h => h
  have hbA : ¬ (fun q : Nat => ss.heap.size ≤ q) bs := Nat.not_le.mpr hbl
  intro x t p sp a b h g f o n τ π ζ σ β η α φ κ R I k μ r H locs ls hall hP hD hS hl
  obtain ⟨a1, ha1⟩ : ∃ v : Int32, xs (i + 1) = v := ⟨_, rfl⟩
  obtain ⟨a2, ha2⟩ : ∃ v : Int32, xs (i + 2) = v := ⟨_, rfl⟩
  refine lv_aload_n hx hb dL_law_217 rfl (lv_at hl 1 rfl) ?_
  refine lv_aload_n hx hb dL_law_218 rfl (lv_at hl 0 rfl) ?_
  refine lv_iload_n hx hb dL_law_219 rfl (lv_at hl 3 rfl) ?_
  refine lv_iconst (v := 1) hx hb dL_law_220 (by decide) ?_
  refine lv_iadd hx hb dL_law_221 ?_
  refine wk_eqi (y := nI (i + 1)) (nI_add i 1) ?_
  refine va_sld hx hb hX hbl hbA hS (vp_in_nI (by omega) (by omega)) dL_law_222 ?_
  refine wk_eqi (y := a1) (by rw [nI_cl (by omega)]; exact ha1) ?_
  refine lv_aload_n hx hb dL_law_223 rfl (lv_at hl 0 rfl) ?_
  refine lv_iload_n hx hb dL_law_224 rfl (lv_at hl 3 rfl) ?_
  refine lv_iconst (v := 2) hx hb dL_law_225 (by decide) ?_
  refine lv_iadd hx hb dL_law_226 ?_
  refine wk_eqi (y := nI (i + 2)) (nI_add i 2) ?_
  refine va_sld hx hb hX hbl hbA hS (vp_in_nI (by omega) (by omega)) dL_law_227 ?_
  refine wk_eqi (y := a2) (by rw [nI_cl (by omega)]; exact ha2) ?_
  refine wk_callRP (As := [.int a1, .int a2]) (rest := []) ⟨hx, hb, hml, hown, hts⟩ (c_X7_writer l D c x t p sp a b h g f o k π σ a1 a2 (hall.2.1.2.1.n) ((all_A hall).1)) (cwV 2 hts gL_law_X7_writer rfl rfl rfl hd_X7_writer ⟨Nat.le_of_ble_eq_true rfl, Nat.le_of_ble_eq_true rfl⟩) hK hP (wr := textW c t τ ++ pageW c sp ζ ++ affW c b β ++ histW c h η ++ rgW c h R 10 ++ albumW c g α ++ rgW c g I 2 ++ findW c f φ ++ courseW c o κ ++ modelW c n μ r) (wk_pm (fun y => by simp only [ct_app, lwA_ct]; omega)) 0 rfl rfl rfl hl.1 rfl (Nat.le_of_ble_eq_true rfl) dL_law_228 (Nat.le_of_ble_eq_true rfl) (Nat.le_of_ble_eq_true rfl) ?_
  refine lv_aload_n hx hb dL_law_231 rfl (lv_at hl 2 rfl) ?_
  refine lv_aload_n hx hb dL_law_232 rfl (lv_at hl 0 rfl) ?_
  refine lv_iload_n hx hb dL_law_233 rfl (lv_at hl 3 rfl) ?_
  refine lv_iconst (v := 1) hx hb dL_law_234 (by decide) ?_
  refine lv_iadd hx hb dL_law_235 ?_
  refine wk_eqi (y := nI (i + 1)) (nI_add i 1) ?_
  refine va_sld hx hb hX hbl hbA hS (vp_in_nI (by omega) (by omega)) dL_law_236 ?_
  refine wk_eqi (y := a1) (by rw [nI_cl (by omega)]; exact ha1) ?_
  refine lv_aload_n hx hb dL_law_237 rfl (lv_at hl 0 rfl) ?_
  refine lv_iload_n hx hb dL_law_238 rfl (lv_at hl 3 rfl) ?_
  refine lv_iconst (v := 2) hx hb dL_law_239 (by decide) ?_
  refine lv_iadd hx hb dL_law_240 ?_
  refine wk_eqi (y := nI (i + 2)) (nI_add i 2) ?_
  refine va_sld hx hb hX hbl hbA hS (vp_in_nI (by omega) (by omega)) dL_law_241 ?_
  refine wk_eqi (y := a2) (by rw [nI_cl (by omega)]; exact ha2) ?_
  refine wk_callRP (As := [.int a1, .int a2]) (rest := [.int (writerV π σ a1 a2)]) ⟨hx, hb, hml, hown, hts⟩ (c_X8_writer l D c n μ r a1 a2 ((all_G hall).1.1) ((all_G hall).2.1)) (cwV 2 hts gL_law_X8_writer rfl rfl rfl hd_X8_writer ⟨Nat.le_of_ble_eq_true rfl, Nat.le_of_ble_eq_true rfl⟩) hK hP (wr := lwA c x t p sp a b h g f o τ π ζ σ β η α φ κ R I k) List.perm_append_comm 0 rfl rfl rfl hl.1 rfl (Nat.le_of_ble_eq_true rfl) dL_law_242 (Nat.le_of_ble_eq_true rfl) (Nat.le_of_ble_eq_true rfl) ?_
  have he := e_writer hall a1 a2
  refine lv_icmp_eq (tgt := 949) hx hb dL_law_245 (by decide) (fun _ => ?_) (fun q => absurd (he) q)
  exact hB x t p sp a b h g f o n τ π ζ σ β η α φ κ R I k μ r H _ ls (hall) hP hD hS hl

set_option maxHeartbeats 4000000 in
set_option maxRecDepth 100000 in
theorem lc_4 {pr : Program} {l : Launch} {ev : Env} {ss : State} {mm : MethodId} {below : List Frame} {meth : Method} {cd : Code} {bs L : Nat} {xs : Nat → Int32} {D : va_G} {c : Nat → ClassId} (hL : L ≤ 320) (C0 : lw_At pr ss mm meth cd bs L xs) (hK : va_K D vwCl (tysL c) ss) {i : Nat} (hi : i + 5 ≤ L) (hB : LB pr l ev ss mm below meth cd D c bs 949 i) : LB pr l ev ss mm below meth cd D c bs 250 i := by
  obtain ⟨hx, hb, hr, hml, hown, hts0, hX, hbl, hlocks, -⟩ := C0
  have hts : ∀ w ∈ wsL_law, w.before #[Value.ref bs] ss = true := fun w h => hts0 w (wsL_law_in w h)
  have hown : ss.vm.findClass RL = some mm.cls := hown
  have hA : ∀ q : Nat, ss.heap.size ≤ q → (fun q : Nat => ss.heap.size ≤ q) q := fun _ h => h
  have hbA : ¬ (fun q : Nat => ss.heap.size ≤ q) bs := Nat.not_le.mpr hbl
  intro x t p sp a b h g f o n τ π ζ σ β η α φ κ R I k μ r H locs ls hall hP hD hS hl
  obtain ⟨a1, ha1⟩ : ∃ v : Int32, xs (i + 1) = v := ⟨_, rfl⟩
  obtain ⟨a2, ha2⟩ : ∃ v : Int32, xs (i + 2) = v := ⟨_, rfl⟩
  refine lv_aload_n hx hb dL_law_250 rfl (lv_at hl 1 rfl) ?_
  refine lv_aload_n hx hb dL_law_251 rfl (lv_at hl 0 rfl) ?_
  refine lv_iload_n hx hb dL_law_252 rfl (lv_at hl 3 rfl) ?_
  refine lv_iconst (v := 1) hx hb dL_law_253 (by decide) ?_
  refine lv_iadd hx hb dL_law_254 ?_
  refine wk_eqi (y := nI (i + 1)) (nI_add i 1) ?_
  refine va_sld hx hb hX hbl hbA hS (vp_in_nI (by omega) (by omega)) dL_law_255 ?_
  refine wk_eqi (y := a1) (by rw [nI_cl (by omega)]; exact ha1) ?_
  refine lv_aload_n hx hb dL_law_256 rfl (lv_at hl 0 rfl) ?_
  refine lv_iload_n hx hb dL_law_257 rfl (lv_at hl 3 rfl) ?_
  refine lv_iconst (v := 2) hx hb dL_law_258 (by decide) ?_
  refine lv_iadd hx hb dL_law_259 ?_
  refine wk_eqi (y := nI (i + 2)) (nI_add i 2) ?_
  refine va_sld hx hb hX hbl hbA hS (vp_in_nI (by omega) (by omega)) dL_law_260 ?_
  refine wk_eqi (y := a2) (by rw [nI_cl (by omega)]; exact ha2) ?_
  refine wk_callRP (As := [.int a1, .int a2]) (rest := []) ⟨hx, hb, hml, hown, hts⟩ (c_X7_quarrel l D c x t p sp a b h g f o k σ a1 a2 ((all_A hall).1)) (cwV 2 hts gL_law_X7_quarrel rfl rfl rfl hd_X7_quarrel ⟨Nat.le_of_ble_eq_true rfl, Nat.le_of_ble_eq_true rfl⟩) hK hP (wr := textW c t τ ++ pageW c p π ++ pageW c sp ζ ++ affW c b β ++ histW c h η ++ rgW c h R 10 ++ albumW c g α ++ rgW c g I 2 ++ findW c f φ ++ courseW c o κ ++ modelW c n μ r) (wk_pm (fun y => by simp only [ct_app, lwA_ct]; omega)) 0 rfl rfl rfl hl.1 rfl (Nat.le_of_ble_eq_true rfl) dL_law_261 (Nat.le_of_ble_eq_true rfl) (Nat.le_of_ble_eq_true rfl) ?_
  refine lv_aload_n hx hb dL_law_264 rfl (lv_at hl 2 rfl) ?_
  refine lv_aload_n hx hb dL_law_265 rfl (lv_at hl 0 rfl) ?_
  refine lv_iload_n hx hb dL_law_266 rfl (lv_at hl 3 rfl) ?_
  refine lv_iconst (v := 1) hx hb dL_law_267 (by decide) ?_
  refine lv_iadd hx hb dL_law_268 ?_
  refine wk_eqi (y := nI (i + 1)) (nI_add i 1) ?_
  refine va_sld hx hb hX hbl hbA hS (vp_in_nI (by omega) (by omega)) dL_law_269 ?_
  refine wk_eqi (y := a1) (by rw [nI_cl (by omega)]; exact ha1) ?_
  refine lv_aload_n hx hb dL_law_270 rfl (lv_at hl 0 rfl) ?_
  refine lv_iload_n hx hb dL_law_271 rfl (lv_at hl 3 rfl) ?_
  refine lv_iconst (v := 2) hx hb dL_law_272 (by decide) ?_
  refine lv_iadd hx hb dL_law_273 ?_
  refine wk_eqi (y := nI (i + 2)) (nI_add i 2) ?_
  refine va_sld hx hb hX hbl hbA hS (vp_in_nI (by omega) (by omega)) dL_law_274 ?_
  refine wk_eqi (y := a2) (by rw [nI_cl (by omega)]; exact ha2) ?_
  refine wk_callRP (As := [.int a1, .int a2]) (rest := [.int (quarrelV σ a1 a2)]) ⟨hx, hb, hml, hown, hts⟩ (c_X8_quarrel l D c n μ r a1 a2 ((all_G hall).2.1)) (cwV 2 hts gL_law_X8_quarrel rfl rfl rfl hd_X8_quarrel ⟨Nat.le_of_ble_eq_true rfl, Nat.le_of_ble_eq_true rfl⟩) hK hP (wr := lwA c x t p sp a b h g f o τ π ζ σ β η α φ κ R I k) List.perm_append_comm 0 rfl rfl rfl hl.1 rfl (Nat.le_of_ble_eq_true rfl) dL_law_275 (Nat.le_of_ble_eq_true rfl) (Nat.le_of_ble_eq_true rfl) ?_
  have he := e_quarrel hall a1 a2
  refine lv_icmp_eq (tgt := 949) hx hb dL_law_278 (by decide) (fun _ => ?_) (fun q => absurd (he) q)
  exact hB x t p sp a b h g f o n τ π ζ σ β η α φ κ R I k μ r H _ ls (hall) hP hD hS hl

set_option maxHeartbeats 4000000 in
set_option maxRecDepth 100000 in
theorem lc_5 {pr : Program} {l : Launch} {ev : Env} {ss : State} {mm : MethodId} {below : List Frame} {meth : Method} {cd : Code} {bs L : Nat} {xs : Nat → Int32} {D : va_G} {c : Nat → ClassId} (hL : L ≤ 320) (C0 : lw_At pr ss mm meth cd bs L xs) (hK : va_K D vwCl (tysL c) ss) {i : Nat} (hi : i + 5 ≤ L) (hB : LB pr l ev ss mm below meth cd D c bs 949 i) : LB pr l ev ss mm below meth cd D c bs 283 i := by
  obtain ⟨hx, hb, hr, hml, hown, hts0, hX, hbl, hlocks, -⟩ := C0
  have hts : ∀ w ∈ wsL_law, w.before #[Value.ref bs] ss = true := fun w h => hts0 w (wsL_law_in w h)
  have hown : ss.vm.findClass RL = some mm.cls := hown
  have hA : ∀ q : Nat, ss.heap.size ≤ q → (fun q : Nat => ss.heap.size ≤ q) q := fun _ h => h
  have hbA : ¬ (fun q : Nat => ss.heap.size ≤ q) bs := Nat.not_le.mpr hbl
  intro x t p sp a b h g f o n τ π ζ σ β η α φ κ R I k μ r H locs ls hall hP hD hS hl
  obtain ⟨a1, ha1⟩ : ∃ v : Int32, xs (i + 1) = v := ⟨_, rfl⟩
  obtain ⟨a2, ha2⟩ : ∃ v : Int32, xs (i + 2) = v := ⟨_, rfl⟩
  refine lv_aload_n hx hb dL_law_283 rfl (lv_at hl 1 rfl) ?_
  refine lv_aload_n hx hb dL_law_284 rfl (lv_at hl 0 rfl) ?_
  refine lv_iload_n hx hb dL_law_285 rfl (lv_at hl 3 rfl) ?_
  refine lv_iconst (v := 1) hx hb dL_law_286 (by decide) ?_
  refine lv_iadd hx hb dL_law_287 ?_
  refine wk_eqi (y := nI (i + 1)) (nI_add i 1) ?_
  refine va_sld hx hb hX hbl hbA hS (vp_in_nI (by omega) (by omega)) dL_law_288 ?_
  refine wk_eqi (y := a1) (by rw [nI_cl (by omega)]; exact ha1) ?_
  refine lv_aload_n hx hb dL_law_289 rfl (lv_at hl 0 rfl) ?_
  refine lv_iload_n hx hb dL_law_290 rfl (lv_at hl 3 rfl) ?_
  refine lv_iconst (v := 2) hx hb dL_law_291 (by decide) ?_
  refine lv_iadd hx hb dL_law_292 ?_
  refine wk_eqi (y := nI (i + 2)) (nI_add i 2) ?_
  refine va_sld hx hb hX hbl hbA hS (vp_in_nI (by omega) (by omega)) dL_law_293 ?_
  refine wk_eqi (y := a2) (by rw [nI_cl (by omega)]; exact ha2) ?_
  refine wk_callRP (As := [.int a1, .int a2]) (rest := []) ⟨hx, hb, hml, hown, hts⟩ (c_X7_meant l D c x t p sp a b h g f o k π σ a1 a2 (hall.2.1.2.1)) (cwV 2 hts gL_law_X7_meant rfl rfl rfl hd_X7_meant ⟨Nat.le_of_ble_eq_true rfl, Nat.le_of_ble_eq_true rfl⟩) hK hP (wr := textW c t τ ++ pageW c sp ζ ++ affW c b β ++ histW c h η ++ rgW c h R 10 ++ albumW c g α ++ rgW c g I 2 ++ findW c f φ ++ courseW c o κ ++ modelW c n μ r) (wk_pm (fun y => by simp only [ct_app, lwA_ct]; omega)) 0 rfl rfl rfl hl.1 rfl (Nat.le_of_ble_eq_true rfl) dL_law_294 (Nat.le_of_ble_eq_true rfl) (Nat.le_of_ble_eq_true rfl) ?_
  refine lv_aload_n hx hb dL_law_297 rfl (lv_at hl 2 rfl) ?_
  refine lv_aload_n hx hb dL_law_298 rfl (lv_at hl 0 rfl) ?_
  refine lv_iload_n hx hb dL_law_299 rfl (lv_at hl 3 rfl) ?_
  refine lv_iconst (v := 1) hx hb dL_law_300 (by decide) ?_
  refine lv_iadd hx hb dL_law_301 ?_
  refine wk_eqi (y := nI (i + 1)) (nI_add i 1) ?_
  refine va_sld hx hb hX hbl hbA hS (vp_in_nI (by omega) (by omega)) dL_law_302 ?_
  refine wk_eqi (y := a1) (by rw [nI_cl (by omega)]; exact ha1) ?_
  refine lv_aload_n hx hb dL_law_303 rfl (lv_at hl 0 rfl) ?_
  refine lv_iload_n hx hb dL_law_304 rfl (lv_at hl 3 rfl) ?_
  refine lv_iconst (v := 2) hx hb dL_law_305 (by decide) ?_
  refine lv_iadd hx hb dL_law_306 ?_
  refine wk_eqi (y := nI (i + 2)) (nI_add i 2) ?_
  refine va_sld hx hb hX hbl hbA hS (vp_in_nI (by omega) (by omega)) dL_law_307 ?_
  refine wk_eqi (y := a2) (by rw [nI_cl (by omega)]; exact ha2) ?_
  refine wk_callRP (As := [.int a1, .int a2]) (rest := [.int (meantV π σ a1 a2)]) ⟨hx, hb, hml, hown, hts⟩ (c_X8_meant l D c n μ r a1 a2 ((all_G hall).1.1)) (cwV 2 hts gL_law_X8_meant rfl rfl rfl hd_X8_meant ⟨Nat.le_of_ble_eq_true rfl, Nat.le_of_ble_eq_true rfl⟩) hK hP (wr := lwA c x t p sp a b h g f o τ π ζ σ β η α φ κ R I k) List.perm_append_comm 0 rfl rfl rfl hl.1 rfl (Nat.le_of_ble_eq_true rfl) dL_law_308 (Nat.le_of_ble_eq_true rfl) (Nat.le_of_ble_eq_true rfl) ?_
  have he := e_meant hall a1 a2
  refine lv_icmp_eq (tgt := 949) hx hb dL_law_311 (by decide) (fun _ => ?_) (fun q => absurd (he) q)
  exact hB x t p sp a b h g f o n τ π ζ σ β η α φ κ R I k μ r H _ ls (hall) hP hD hS hl

set_option maxHeartbeats 4000000 in
set_option maxRecDepth 100000 in
theorem lc_6 {pr : Program} {l : Launch} {ev : Env} {ss : State} {mm : MethodId} {below : List Frame} {meth : Method} {cd : Code} {bs L : Nat} {xs : Nat → Int32} {D : va_G} {c : Nat → ClassId} (hL : L ≤ 320) (C0 : lw_At pr ss mm meth cd bs L xs) (hK : va_K D vwCl (tysL c) ss) {i : Nat} (hi : i + 5 ≤ L) (hB : LB pr l ev ss mm below meth cd D c bs 949 i) : LB pr l ev ss mm below meth cd D c bs 316 i := by
  obtain ⟨hx, hb, hr, hml, hown, hts0, hX, hbl, hlocks, -⟩ := C0
  have hts : ∀ w ∈ wsL_law, w.before #[Value.ref bs] ss = true := fun w h => hts0 w (wsL_law_in w h)
  have hown : ss.vm.findClass RL = some mm.cls := hown
  have hA : ∀ q : Nat, ss.heap.size ≤ q → (fun q : Nat => ss.heap.size ≤ q) q := fun _ h => h
  have hbA : ¬ (fun q : Nat => ss.heap.size ≤ q) bs := Nat.not_le.mpr hbl
  intro x t p sp a b h g f o n τ π ζ σ β η α φ κ R I k μ r H locs ls hall hP hD hS hl
  obtain ⟨a1, ha1⟩ : ∃ v : Int32, xs (i + 1) = v := ⟨_, rfl⟩
  refine lv_aload_n hx hb dL_law_316 rfl (lv_at hl 1 rfl) ?_
  refine lv_aload_n hx hb dL_law_317 rfl (lv_at hl 0 rfl) ?_
  refine lv_iload_n hx hb dL_law_318 rfl (lv_at hl 3 rfl) ?_
  refine lv_iconst (v := 1) hx hb dL_law_319 (by decide) ?_
  refine lv_iadd hx hb dL_law_320 ?_
  refine wk_eqi (y := nI (i + 1)) (nI_add i 1) ?_
  refine va_sld hx hb hX hbl hbA hS (vp_in_nI (by omega) (by omega)) dL_law_321 ?_
  refine wk_eqi (y := a1) (by rw [nI_cl (by omega)]; exact ha1) ?_
  refine wk_callRP (As := [.int a1]) (rest := []) ⟨hx, hb, hml, hown, hts⟩ (c_X7_now l D c x t p sp a b h g f o k σ η a1 ((all_A hall).1)) (cwV 1 hts gL_law_X7_now rfl rfl rfl hd_X7_now ⟨Nat.le_of_ble_eq_true rfl, Nat.le_of_ble_eq_true rfl⟩) hK hP (wr := textW c t τ ++ pageW c p π ++ pageW c sp ζ ++ affW c b β ++ rgW c h R 10 ++ albumW c g α ++ rgW c g I 2 ++ findW c f φ ++ courseW c o κ ++ modelW c n μ r) (wk_pm (fun y => by simp only [ct_app, lwA_ct]; omega)) 0 rfl rfl rfl hl.1 rfl (Nat.le_of_ble_eq_true rfl) dL_law_322 (Nat.le_of_ble_eq_true rfl) (Nat.le_of_ble_eq_true rfl) ?_
  refine lv_aload_n hx hb dL_law_325 rfl (lv_at hl 2 rfl) ?_
  refine lv_aload_n hx hb dL_law_326 rfl (lv_at hl 0 rfl) ?_
  refine lv_iload_n hx hb dL_law_327 rfl (lv_at hl 3 rfl) ?_
  refine lv_iconst (v := 1) hx hb dL_law_328 (by decide) ?_
  refine lv_iadd hx hb dL_law_329 ?_
  refine wk_eqi (y := nI (i + 1)) (nI_add i 1) ?_
  refine va_sld hx hb hX hbl hbA hS (vp_in_nI (by omega) (by omega)) dL_law_330 ?_
  refine wk_eqi (y := a1) (by rw [nI_cl (by omega)]; exact ha1) ?_
  refine wk_callRP (As := [.int a1]) (rest := [.int (nowV σ η a1)]) ⟨hx, hb, hml, hown, hts⟩ (c_X8_now l D c n μ r a1 ((all_G hall).2.1)) (cwV 1 hts gL_law_X8_now rfl rfl rfl hd_X8_now ⟨Nat.le_of_ble_eq_true rfl, Nat.le_of_ble_eq_true rfl⟩) hK hP (wr := lwA c x t p sp a b h g f o τ π ζ σ β η α φ κ R I k) List.perm_append_comm 0 rfl rfl rfl hl.1 rfl (Nat.le_of_ble_eq_true rfl) dL_law_331 (Nat.le_of_ble_eq_true rfl) (Nat.le_of_ble_eq_true rfl) ?_
  have he := e_now hall a1
  refine lv_icmp_eq (tgt := 949) hx hb dL_law_334 (by decide) (fun _ => ?_) (fun q => absurd (he) q)
  exact hB x t p sp a b h g f o n τ π ζ σ β η α φ κ R I k μ r H _ ls (hall) hP hD hS hl

set_option maxHeartbeats 4000000 in
set_option maxRecDepth 100000 in
theorem lc_7 {pr : Program} {l : Launch} {ev : Env} {ss : State} {mm : MethodId} {below : List Frame} {meth : Method} {cd : Code} {bs L : Nat} {xs : Nat → Int32} {D : va_G} {c : Nat → ClassId} (hL : L ≤ 320) (C0 : lw_At pr ss mm meth cd bs L xs) (hK : va_K D vwCl (tysL c) ss) {i : Nat} (hi : i + 5 ≤ L) (hB : LB pr l ev ss mm below meth cd D c bs 949 i) : LB pr l ev ss mm below meth cd D c bs 339 i := by
  obtain ⟨hx, hb, hr, hml, hown, hts0, hX, hbl, hlocks, -⟩ := C0
  have hts : ∀ w ∈ wsL_law, w.before #[Value.ref bs] ss = true := fun w h => hts0 w (wsL_law_in w h)
  have hown : ss.vm.findClass RL = some mm.cls := hown
  have hA : ∀ q : Nat, ss.heap.size ≤ q → (fun q : Nat => ss.heap.size ≤ q) q := fun _ h => h
  have hbA : ¬ (fun q : Nat => ss.heap.size ≤ q) bs := Nat.not_le.mpr hbl
  intro x t p sp a b h g f o n τ π ζ σ β η α φ κ R I k μ r H locs ls hall hP hD hS hl
  obtain ⟨a1, ha1⟩ : ∃ v : Int32, xs (i + 1) = v := ⟨_, rfl⟩
  obtain ⟨a2, ha2⟩ : ∃ v : Int32, xs (i + 2) = v := ⟨_, rfl⟩
  have hnx := hall.2.2.2.1.1.2.2
  refine lv_aload_n hx hb dL_law_339 rfl (lv_at hl 1 rfl) ?_
  refine lv_aload_n hx hb dL_law_340 rfl (lv_at hl 0 rfl) ?_
  refine lv_iload_n hx hb dL_law_341 rfl (lv_at hl 3 rfl) ?_
  refine lv_iconst (v := 1) hx hb dL_law_342 (by decide) ?_
  refine lv_iadd hx hb dL_law_343 ?_
  refine wk_eqi (y := nI (i + 1)) (nI_add i 1) ?_
  refine va_sld hx hb hX hbl hbA hS (vp_in_nI (by omega) (by omega)) dL_law_344 ?_
  refine wk_eqi (y := a1) (by rw [nI_cl (by omega)]; exact ha1) ?_
  refine lv_aload_n hx hb dL_law_345 rfl (lv_at hl 0 rfl) ?_
  refine lv_iload_n hx hb dL_law_346 rfl (lv_at hl 3 rfl) ?_
  refine lv_iconst (v := 2) hx hb dL_law_347 (by decide) ?_
  refine lv_iadd hx hb dL_law_348 ?_
  refine wk_eqi (y := nI (i + 2)) (nI_add i 2) ?_
  refine va_sld hx hb hX hbl hbA hS (vp_in_nI (by omega) (by omega)) dL_law_349 ?_
  refine wk_eqi (y := a2) (by rw [nI_cl (by omega)]; exact ha2) ?_
  refine wk_callUP (As := [.int a1, .int a2]) (rest := []) ⟨hx, hb, hml, hown, hts⟩ (c_X7_writes l D c x t p sp a b h g f o k π σ η (R ((nX η))) a1 a2 (hall.2.1.2.1) (all_A hall) (hall.2.2.2.1.1)) (cwV 2 hts gL_law_X7_writes rfl rfl rfl hd_X7_writes ⟨Nat.le_of_ble_eq_true rfl, Nat.le_of_ble_eq_true rfl⟩) hK hP hD hS hA (wr := textW c t τ ++ pageW c sp ζ ++ affW c b β ++ rgX c h R ((nX η)) 10 ++ albumW c g α ++ rgW c g I 2 ++ findW c f φ ++ courseW c o κ ++ modelW c n μ r) (ws' := lwA c x t p sp a b h g f o τ π ζ (writesA π σ a1 a2) β (writesH π σ η a1 a2) α φ κ (va_up R ((nX η)) (writesR π σ (R ((nX η))) a1 a2)) I k ++ modelW c n μ r) (wk_pm (fun y => by have hr := rg_in c h R (j := (nX η)) (n := 10) (hnx) y; simp only [ct_app, lwA_ct]; omega)) (wk_pm (fun y => by have hr := rg_up c h R (writesR π σ (R ((nX η))) a1 a2) (j := (nX η)) (n := 10) hnx y; simp only [ct_app, lwA_ct]; omega)) rfl 0 rfl rfl rfl hl.1 rfl (Nat.le_of_ble_eq_true rfl) dL_law_350 (Nat.le_of_ble_eq_true rfl) (Nat.le_of_ble_eq_true rfl) (fun H locs hP hD hS => ?_)
  refine lv_aload_n hx hb dL_law_353 rfl (lv_at hl 2 rfl) ?_
  refine lv_aload_n hx hb dL_law_354 rfl (lv_at hl 0 rfl) ?_
  refine lv_iload_n hx hb dL_law_355 rfl (lv_at hl 3 rfl) ?_
  refine lv_iconst (v := 1) hx hb dL_law_356 (by decide) ?_
  refine lv_iadd hx hb dL_law_357 ?_
  refine wk_eqi (y := nI (i + 1)) (nI_add i 1) ?_
  refine va_sld hx hb hX hbl hbA hS (vp_in_nI (by omega) (by omega)) dL_law_358 ?_
  refine wk_eqi (y := a1) (by rw [nI_cl (by omega)]; exact ha1) ?_
  refine lv_aload_n hx hb dL_law_359 rfl (lv_at hl 0 rfl) ?_
  refine lv_iload_n hx hb dL_law_360 rfl (lv_at hl 3 rfl) ?_
  refine lv_iconst (v := 2) hx hb dL_law_361 (by decide) ?_
  refine lv_iadd hx hb dL_law_362 ?_
  refine wk_eqi (y := nI (i + 2)) (nI_add i 2) ?_
  refine va_sld hx hb hX hbl hbA hS (vp_in_nI (by omega) (by omega)) dL_law_363 ?_
  refine wk_eqi (y := a2) (by rw [nI_cl (by omega)]; exact ha2) ?_
  refine wk_callUP (As := [.int a1, .int a2]) (rest := [.int (writesV π σ a1 a2)]) ⟨hx, hb, hml, hown, hts⟩ (c_X8_writes l D c n μ r a1 a2 ((all_G hall).1.1) ((all_G hall).2.1) (all_U hall)) (cwV 2 hts gL_law_X8_writes rfl rfl rfl hd_X8_writes ⟨Nat.le_of_ble_eq_true rfl, Nat.le_of_ble_eq_true rfl⟩) hK hP hD hS hA (wr := lwA c x t p sp a b h g f o τ π ζ (writesA π σ a1 a2) β (writesH π σ η a1 a2) α φ κ (va_up R ((nX η)) (writesR π σ (R ((nX η))) a1 a2)) I k) (ws' := lwA c x t p sp a b h g f o τ π ζ (writesA π σ a1 a2) β (writesH π σ η a1 a2) α φ κ (va_up R ((nX η)) (writesR π σ (R ((nX η))) a1 a2)) I k ++ modelW c n (mwtF μ a1 a2) r) List.perm_append_comm List.perm_append_comm rfl 0 rfl rfl rfl hl.1 rfl (Nat.le_of_ble_eq_true rfl) dL_law_364 (Nat.le_of_ble_eq_true rfl) (Nat.le_of_ble_eq_true rfl) (fun H locs hP hD hS => ?_)
  have he := e_writes hall a1 a2
  refine lv_icmp_eq (tgt := 949) hx hb dL_law_367 (by decide) (fun _ => ?_) (fun q => absurd (he.1) q)
  exact hB x t p sp a b h g f o n τ π ζ (writesA π σ a1 a2) β (writesH π σ η a1 a2) α φ κ (va_up R ((nX η)) (writesR π σ (R ((nX η))) a1 a2)) I k (mwtF μ a1 a2) r H _ ls (he.2) hP hD hS hl

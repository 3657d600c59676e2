/-! ===== LastWord, made ===== -/
abbrev rmX7_init : Room := { frames := 3, cells := 143, slots := 1093, locals := 53 }
theorem hdi_X7 : yX7_init.cls ≠ "java/lang/invoke/MethodHandle" ∧ yX7_init.cls ≠ "java/lang/invoke/VarHandle" ∧ (parseMethodDescriptor yX7_init.desc).map (fun d => d.parameters.length) = some 0 := by decide +kernel
abbrev lw0 (c : Nat → ClassId) (x : Nat) (t p sp a b h g f o : Nat → Nat) : va_W := lwW x t p sp a b h g f o 0 ++ textW c t wz ++ pageW c p pz ++ pageW c sp pz ++ affW c a wz ++ affW c b wz ++ (histW c h wz ++ affW c (subA h 0) wz ++ affW c (subA h 1) wz ++ affW c (subA h 2) wz ++ affW c (subA h 3) wz ++ affW c (subA h 4) wz ++ affW c (subA h 5) wz ++ affW c (subA h 6) wz ++ affW c (subA h 7) wz ++ affW c (subA h 8) wz ++ affW c (subA h 9) wz) ++ (albumW c g wz ++ affW c (subA g 0) wz ++ affW c (subA g 1) wz) ++ findW c f wz ++ courseW c o wz
set_option maxHeartbeats 4000000 in
set_option maxRecDepth 100000 in
theorem c_X7_init (l : Launch) (D : va_G) (c : Nat → ClassId) (h0 : Nat) : wk_Ini l yX7_init wsX7_init rmX7_init D (tysL c) [.ref h0] [(h0, .inr (7, [.null, .null, .null, .null, .null, .null, .null, .null, .null, .long 0]))] eX7 (fun u : Nat × (Nat → Nat) × (Nat → Nat) × (Nat → Nat) × (Nat → Nat) × (Nat → Nat) × (Nat → Nat) × (Nat → Nat) × (Nat → Nat) × (Nat → Nat) => u.1 = h0) (fun u => lw0 c u.1 u.2.1 u.2.2.1 u.2.2.2.1 u.2.2.2.2.1 u.2.2.2.2.2.1 u.2.2.2.2.2.2.1 u.2.2.2.2.2.2.2.1 u.2.2.2.2.2.2.2.2.1 u.2.2.2.2.2.2.2.2.2) 143 1093 := by
  refine wk_mkI (cc := cX7_init) (maxL := 1) (by decide) rfl rfl (Nat.le_of_ble_eq_true rfl) ?_
  intro A pr ev ss mm args below meth cd ls Q hst hin hE hP hK hD hS hA hl ret
  obtain ⟨hx, hb, hml, hown, hts, -⟩ := hst
  have hown : ss.vm.findClass RX7 = some mm.cls := hown
  have hl : lv_has ls 1 [(0, .ref h0)] := hl
  have k1 := hts (.methodLink RX7 3 objectInit) (List.mem_of_getElem? (i := 1) rfl)
  have k2 := hts (.instanceMethod objectInit) (List.mem_of_getElem? (i := 2) rfl)
  have k3 := hts (.code objectInit ⟨#[0xb1]⟩ 1 none) (List.mem_of_getElem? (i := 3) rfl)
  have k4 := hts (.classLink RX7 9 RX6) (List.mem_of_getElem? (i := 4) rfl)
  have k5 := hts (.instantiable RX6 7) (List.mem_of_getElem? (i := 5) rfl)
  have k6 := hts (.initialized RX6) (List.mem_of_getElem? (i := 6) rfl)
  have k34 := hts (.instanceMethod yX6_init) (List.mem_of_getElem? (i := 34) rfl)
  have k7 := hts (.fieldLink RX7 12 "LastWord" "text" "LLastWord$Text;") (List.mem_of_getElem? (i := 7) rfl)
  have k8 := hts (.classLink RX7 16 RX5) (List.mem_of_getElem? (i := 8) rfl)
  have k9 := hts (.instantiable RX5 5) (List.mem_of_getElem? (i := 9) rfl)
  have k10 := hts (.initialized RX5) (List.mem_of_getElem? (i := 10) rfl)
  have k39 := hts (.instanceMethod yX5_init) (List.mem_of_getElem? (i := 39) rfl)
  have k11 := hts (.fieldLink RX7 19 "LastWord" "page" "LLastWord$Page;") (List.mem_of_getElem? (i := 11) rfl)
  have k12 := hts (.fieldLink RX7 23 "LastWord" "spare" "LLastWord$Page;") (List.mem_of_getElem? (i := 12) rfl)
  have k13 := hts (.classLink RX7 26 RX0) (List.mem_of_getElem? (i := 13) rfl)
  have k14 := hts (.instantiable RX0 11) (List.mem_of_getElem? (i := 14) rfl)
  have k15 := hts (.initialized RX0) (List.mem_of_getElem? (i := 15) rfl)
  have k47 := hts (.instanceMethod yX0_init) (List.mem_of_getElem? (i := 47) rfl)
  have k16 := hts (.fieldLink RX7 29 "LastWord" "affairs" "LLastWord$Affairs;") (List.mem_of_getElem? (i := 16) rfl)
  have k17 := hts (.fieldLink RX7 33 "LastWord" "ahead" "LLastWord$Affairs;") (List.mem_of_getElem? (i := 17) rfl)
  have k18 := hts (.classLink RX7 36 RX4) (List.mem_of_getElem? (i := 18) rfl)
  have k19 := hts (.instantiable RX4 3) (List.mem_of_getElem? (i := 19) rfl)
  have k20 := hts (.initialized RX4) (List.mem_of_getElem? (i := 20) rfl)
  have k58 := hts (.instanceMethod yX4_init) (List.mem_of_getElem? (i := 58) rfl)
  have k57 := hts (.methodLink RX7 38 yX4_init) (List.mem_of_getElem? (i := 57) rfl)
  have k21 := hts (.fieldLink RX7 39 "LastWord" "history" "LLastWord$History;") (List.mem_of_getElem? (i := 21) rfl)
  have k22 := hts (.classLink RX7 43 RX1) (List.mem_of_getElem? (i := 22) rfl)
  have k23 := hts (.instantiable RX1 2) (List.mem_of_getElem? (i := 23) rfl)
  have k24 := hts (.initialized RX1) (List.mem_of_getElem? (i := 24) rfl)
  have k64 := hts (.instanceMethod yX1_init) (List.mem_of_getElem? (i := 64) rfl)
  have k63 := hts (.methodLink RX7 45 yX1_init) (List.mem_of_getElem? (i := 63) rfl)
  have k25 := hts (.fieldLink RX7 46 "LastWord" "album" "LLastWord$Album;") (List.mem_of_getElem? (i := 25) rfl)
  have k26 := hts (.classLink RX7 50 RX3) (List.mem_of_getElem? (i := 26) rfl)
  have k27 := hts (.instantiable RX3 4) (List.mem_of_getElem? (i := 27) rfl)
  have k28 := hts (.initialized RX3) (List.mem_of_getElem? (i := 28) rfl)
  have k69 := hts (.instanceMethod yX3_init) (List.mem_of_getElem? (i := 69) rfl)
  have k29 := hts (.fieldLink RX7 53 "LastWord" "findings" "LLastWord$Findings;") (List.mem_of_getElem? (i := 29) rfl)
  have k30 := hts (.classLink RX7 57 RX2) (List.mem_of_getElem? (i := 30) rfl)
  have k31 := hts (.instantiable RX2 2) (List.mem_of_getElem? (i := 31) rfl)
  have k32 := hts (.initialized RX2) (List.mem_of_getElem? (i := 32) rfl)
  have k75 := hts (.instanceMethod yX2_init) (List.mem_of_getElem? (i := 75) rfl)
  have k33 := hts (.fieldLink RX7 60 "LastWord" "course" "LLastWord$Course;") (List.mem_of_getElem? (i := 33) rfl)
  have iX0 : ∀ w ∈ u_ws RX0 TX0 11, w ∈ wsX7_init := fun _ h => (List.mem_cons_of_mem _ (List.mem_append_left _ (List.mem_append_left _ (List.mem_append_left _ (List.mem_append_left _ (List.mem_append_right _ h))))))
  have iX1 : ∀ w ∈ u_ws RX1 TX1 2, w ∈ wsX7_init := fun _ h => (List.mem_cons_of_mem _ (List.mem_append_left _ (List.mem_append_left _ (List.mem_append_right _ h))))
  have iX2 : ∀ w ∈ u_ws RX2 TX2 2, w ∈ wsX7_init := fun _ h => (List.mem_cons_of_mem _ (List.mem_append_right _ h))
  have iX3 : ∀ w ∈ u_ws RX3 TX3 4, w ∈ wsX7_init := fun _ h => (List.mem_cons_of_mem _ (List.mem_append_left _ (List.mem_append_right _ h)))
  have iX4 : ∀ w ∈ u_ws RX4 TX4 3, w ∈ wsX7_init := fun _ h => (List.mem_cons_of_mem _ (List.mem_append_left _ (List.mem_append_left _ (List.mem_append_left _ (List.mem_append_right _ h)))))
  have iX5 : ∀ w ∈ u_ws RX5 TX5 5, w ∈ wsX7_init := fun _ h => (List.mem_cons_of_mem _ (List.mem_append_left _ (List.mem_append_left _ (List.mem_append_left _ (List.mem_append_left _ (List.mem_append_left _ (List.mem_append_right _ h)))))))
  have iX6 : ∀ w ∈ u_ws RX6 TX6 7, w ∈ wsX7_init := fun _ h => (List.mem_cons_of_mem _ (List.mem_append_left _ (List.mem_append_left _ (List.mem_append_left _ (List.mem_append_left _ (List.mem_append_left _ (List.mem_append_left _ (List.mem_append_left _ (List.mem_append_right _ h)))))))))
  have iX7 : ∀ w ∈ u_ws RX7 TX7 10, w ∈ wsX7_init := fun _ h => (List.mem_cons_of_mem _ (List.mem_append_left _ (List.mem_append_left _ (List.mem_append_left _ (List.mem_append_left _ (List.mem_append_left _ (List.mem_append_left _ (List.mem_append_right _ h))))))))
  refine lv_aload_n hx hb dX7_init_0 rfl (lv_at hl 0 rfl) ?_
  refine W.objInit hx hb hown k1 k2 k3 rfl (by rw [hml]; exact hl.1) rfl dX7_init_1 (Nat.le_of_ble_eq_true rfl) (Nat.le_of_ble_eq_true rfl) ?_
  refine W.eq (g2 := F0 mm 4 ls []) rfl ?_
  refine lv_aload_n hx hb dX7_init_4 rfl (lv_at hl 0 rfl) ?_
  refine va_new (D := D) (ci := 6) (fs := [.null, .int 0, .int 0, .int 0, .int 0, .int 0, .int 0]) (C := RX6) (T := TX6) (N := 7) hx hb hts iX6 tyX6 tyX6_ok hown k4 k5 k6 hK hP hD hS hA rfl (fun j hj => by rcases (show j = 0 ∨ j = 1 ∨ j = 2 ∨ j = 3 ∨ j = 4 ∨ j = 5 ∨ j = 6 by omega) with rfl | rfl | rfl | rfl | rfl | rfl | rfl <;> rfl) (Nat.le_of_ble_eq_true rfl) (Nat.le_of_ble_eq_true rfl) dX7_init_5 (fun q1 H hP hD hS => ?_)
  have hP : va_P D vwCl ([(h0, .inr (7, [.null, .null, .null, .null, .null, .null, .null, .null, .null, .long 0]))] ++ [(q1, .inr (6, [.null, .int 0, .int 0, .int 0, .int 0, .int 0, .int 0]))]) H := hP
  have hD : va_D A ([(h0, .inr (7, [.null, .null, .null, .null, .null, .null, .null, .null, .null, .long 0]))] ++ [(q1, .inr (6, [.null, .int 0, .int 0, .int 0, .int 0, .int 0, .int 0]))]) := hD
  refine W.widen (k := 1) (n := 7) (Nat.le_of_ble_eq_true rfl) (Nat.le_of_ble_eq_true rfl) ?_
  refine lv_dup hx hb dX7_init_8 rfl ?_
  refine wk_callIN (rest := [.ref q1, .ref h0]) ⟨hx, hb, hml, hown, hts⟩ (c_X6_init l D c q1) (⟨va_cnB 0 hts gX7_init_X6_init_n11 rfl rfl rfl hE.2.2.2.1 k6 hdi_X6 ⟨Nat.le_of_ble_eq_true rfl, Nat.le_of_ble_eq_true rfl⟩, rfl, k34⟩) eOK_T trivial hK hP hD hS hA hl.1 (Nat.le_of_ble_eq_true rfl) dX7_init_9 ⟨Nat.le_of_ble_eq_true rfl, Nat.le_of_ble_eq_true rfl⟩ (fun a2 H locs hu hP2 hD2 hS2 => ?_)
  subst hu
  have hP := hP2
  have hD := hD2
  have hS := hS2
  clear hP2 hD2 hS2
  have hP : va_P D vwCl ([(h0, .inr (7, [.null, .null, .null, .null, .null, .null, .null, .null, .null, .long 0]))] ++ textW c a2 wz) H := hP
  have hD : va_D A ([(h0, .inr (7, [.null, .null, .null, .null, .null, .null, .null, .null, .null, .long 0]))] ++ textW c a2 wz) := hD
  refine W.widen (k := 2) (n := 207) (Nat.le_of_ble_eq_true rfl) (Nat.le_of_ble_eq_true rfl) ?_
  refine va_putF (D := D) (ci := 7) (v := .ref (a2 0)) (ty := .object "LastWord$Text") (C := RX7) (T := TX7) (N := 10) hx hb hts iX7 tyX7 tyX7_ok nmX7 hown hK hP hD hS 0 rfl rfl 0 (by decide) k7 (fun _ h9 => h9) rfl hin rfl (tyX7_ok 0 (by decide)) rfl rfl (Nat.le_of_ble_eq_true rfl) dX7_init_12 (fun H locs hP hD hS => ?_)
  have hP : va_P D vwCl ([(h0, .inr (7, [.ref (a2 0), .null, .null, .null, .null, .null, .null, .null, .null, .long 0]))] ++ textW c a2 wz) H := hP
  have hD : va_D A ([(h0, .inr (7, [.ref (a2 0), .null, .null, .null, .null, .null, .null, .null, .null, .long 0]))] ++ textW c a2 wz) := hD
  refine lv_aload_n hx hb dX7_init_15 rfl (lv_at hl 0 rfl) ?_
  refine va_new (D := D) (ci := 5) (fs := [.int 0, .int 0, .null, .null, .null]) (C := RX5) (T := TX5) (N := 5) hx hb hts iX5 tyX5 tyX5_ok hown k8 k9 k10 hK hP hD hS hA rfl (fun j hj => by rcases (show j = 0 ∨ j = 1 ∨ j = 2 ∨ j = 3 ∨ j = 4 by omega) with rfl | rfl | rfl | rfl | rfl <;> rfl) (Nat.le_of_ble_eq_true rfl) (Nat.le_of_ble_eq_true rfl) dX7_init_16 (fun q3 H hP hD hS => ?_)
  have hP : va_P D vwCl ([(h0, .inr (7, [.ref (a2 0), .null, .null, .null, .null, .null, .null, .null, .null, .long 0]))] ++ textW c a2 wz ++ [(q3, .inr (5, [.int 0, .int 0, .null, .null, .null]))]) H := hP
  have hD : va_D A ([(h0, .inr (7, [.ref (a2 0), .null, .null, .null, .null, .null, .null, .null, .null, .long 0]))] ++ textW c a2 wz ++ [(q3, .inr (5, [.int 0, .int 0, .null, .null, .null]))]) := hD
  refine W.widen (k := 3) (n := 212) (Nat.le_of_ble_eq_true rfl) (Nat.le_of_ble_eq_true rfl) ?_
  refine lv_dup hx hb dX7_init_19 rfl ?_
  refine wk_callIN (rest := [.ref q3, .ref h0]) ⟨hx, hb, hml, hown, hts⟩ (c_X5_init l D c q3) (⟨va_cnB 0 hts gX7_init_X5_init_n18 rfl rfl rfl hE.2.2.2.2.1 k10 hdi_X5 ⟨Nat.le_of_ble_eq_true rfl, Nat.le_of_ble_eq_true rfl⟩, rfl, k39⟩) (eOK_A .int) hE.1 hK hP hD hS hA hl.1 (Nat.le_of_ble_eq_true rfl) dX7_init_20 ⟨Nat.le_of_ble_eq_true rfl, Nat.le_of_ble_eq_true rfl⟩ (fun a4 H locs hu hP2 hD2 hS2 => ?_)
  subst hu
  have hP := hP2
  have hD := hD2
  have hS := hS2
  clear hP2 hD2 hS2
  have hP : va_P D vwCl ([(h0, .inr (7, [.ref (a2 0), .null, .null, .null, .null, .null, .null, .null, .null, .long 0]))] ++ textW c a2 wz ++ pageW c a4 pz) H := hP
  have hD : va_D A ([(h0, .inr (7, [.ref (a2 0), .null, .null, .null, .null, .null, .null, .null, .null, .long 0]))] ++ textW c a2 wz ++ pageW c a4 pz) := hD
  refine W.widen (k := 12) (n := 260) (Nat.le_of_ble_eq_true rfl) (Nat.le_of_ble_eq_true rfl) ?_
  refine va_put (D := D) (ci := 7) (v := .ref (a4 0)) (ty := .object "LastWord$Page") (C := RX7) (T := TX7) (N := 10) hx hb hts iX7 tyX7 tyX7_ok nmX7 hown hK hP hD hS 0 rfl rfl 1 (by decide) k11 (fun _ h9 => h9) rfl (tyX7_ok 1 (by decide)) rfl rfl (Nat.le_of_ble_eq_true rfl) dX7_init_23 (fun H locs hP hD hS => ?_)
  have hP : va_P D vwCl ([(h0, .inr (7, [.ref (a2 0), .ref (a4 0), .null, .null, .null, .null, .null, .null, .null, .long 0]))] ++ textW c a2 wz ++ pageW c a4 pz) H := hP
  have hD : va_D A ([(h0, .inr (7, [.ref (a2 0), .ref (a4 0), .null, .null, .null, .null, .null, .null, .null, .long 0]))] ++ textW c a2 wz ++ pageW c a4 pz) := hD
  refine lv_aload_n hx hb dX7_init_26 rfl (lv_at hl 0 rfl) ?_
  refine va_new (D := D) (ci := 5) (fs := [.int 0, .int 0, .null, .null, .null]) (C := RX5) (T := TX5) (N := 5) hx hb hts iX5 tyX5 tyX5_ok hown k8 k9 k10 hK hP hD hS hA rfl (fun j hj => by rcases (show j = 0 ∨ j = 1 ∨ j = 2 ∨ j = 3 ∨ j = 4 by omega) with rfl | rfl | rfl | rfl | rfl <;> rfl) (Nat.le_of_ble_eq_true rfl) (Nat.le_of_ble_eq_true rfl) dX7_init_27 (fun q5 H hP hD hS => ?_)
  have hP : va_P D vwCl ([(h0, .inr (7, [.ref (a2 0), .ref (a4 0), .null, .null, .null, .null, .null, .null, .null, .long 0]))] ++ textW c a2 wz ++ pageW c a4 pz ++ [(q5, .inr (5, [.int 0, .int 0, .null, .null, .null]))]) H := hP
  have hD : va_D A ([(h0, .inr (7, [.ref (a2 0), .ref (a4 0), .null, .null, .null, .null, .null, .null, .null, .long 0]))] ++ textW c a2 wz ++ pageW c a4 pz ++ [(q5, .inr (5, [.int 0, .int 0, .null, .null, .null]))]) := hD
  refine W.widen (k := 13) (n := 265) (Nat.le_of_ble_eq_true rfl) (Nat.le_of_ble_eq_true rfl) ?_
  refine lv_dup hx hb dX7_init_30 rfl ?_
  refine wk_callIN (rest := [.ref q5, .ref h0]) ⟨hx, hb, hml, hown, hts⟩ (c_X5_init l D c q5) (⟨va_cnB 0 hts gX7_init_X5_init_n18 rfl rfl rfl hE.2.2.2.2.1 k10 hdi_X5 ⟨Nat.le_of_ble_eq_true rfl, Nat.le_of_ble_eq_true rfl⟩, rfl, k39⟩) (eOK_A .int) hE.1 hK hP hD hS hA hl.1 (Nat.le_of_ble_eq_true rfl) dX7_init_31 ⟨Nat.le_of_ble_eq_true rfl, Nat.le_of_ble_eq_true rfl⟩ (fun a6 H locs hu hP2 hD2 hS2 => ?_)
  subst hu
  have hP := hP2
  have hD := hD2
  have hS := hS2
  clear hP2 hD2 hS2
  have hP : va_P D vwCl ([(h0, .inr (7, [.ref (a2 0), .ref (a4 0), .null, .null, .null, .null, .null, .null, .null, .long 0]))] ++ textW c a2 wz ++ pageW c a4 pz ++ pageW c a6 pz) H := hP
  have hD : va_D A ([(h0, .inr (7, [.ref (a2 0), .ref (a4 0), .null, .null, .null, .null, .null, .null, .null, .long 0]))] ++ textW c a2 wz ++ pageW c a4 pz ++ pageW c a6 pz) := hD
  refine W.widen (k := 22) (n := 313) (Nat.le_of_ble_eq_true rfl) (Nat.le_of_ble_eq_true rfl) ?_
  refine va_put (D := D) (ci := 7) (v := .ref (a6 0)) (ty := .object "LastWord$Page") (C := RX7) (T := TX7) (N := 10) hx hb hts iX7 tyX7 tyX7_ok nmX7 hown hK hP hD hS 0 rfl rfl 2 (by decide) k12 (fun _ h9 => h9) rfl (tyX7_ok 2 (by decide)) rfl rfl (Nat.le_of_ble_eq_true rfl) dX7_init_34 (fun H locs hP hD hS => ?_)
  have hP : va_P D vwCl ([(h0, .inr (7, [.ref (a2 0), .ref (a4 0), .ref (a6 0), .null, .null, .null, .null, .null, .null, .long 0]))] ++ textW c a2 wz ++ pageW c a4 pz ++ pageW c a6 pz) H := hP
  have hD : va_D A ([(h0, .inr (7, [.ref (a2 0), .ref (a4 0), .ref (a6 0), .null, .null, .null, .null, .null, .null, .long 0]))] ++ textW c a2 wz ++ pageW c a4 pz ++ pageW c a6 pz) := hD
  refine lv_aload_n hx hb dX7_init_37 rfl (lv_at hl 0 rfl) ?_
  refine va_new (D := D) (ci := 0) (fs := [.int 0, .int 0, .int 0, .int 0, .null, .null, .null, .null, .null, .null, .null]) (C := RX0) (T := TX0) (N := 11) hx hb hts iX0 tyX0 tyX0_ok hown k13 k14 k15 hK hP hD hS hA rfl (fun j hj => by rcases (show j = 0 ∨ j = 1 ∨ j = 2 ∨ j = 3 ∨ j = 4 ∨ j = 5 ∨ j = 6 ∨ j = 7 ∨ j = 8 ∨ j = 9 ∨ j = 10 by omega) with rfl | rfl | rfl | rfl | rfl | rfl | rfl | rfl | rfl | rfl | rfl <;> rfl) (Nat.le_of_ble_eq_true rfl) (Nat.le_of_ble_eq_true rfl) dX7_init_38 (fun q7 H hP hD hS => ?_)
  have hP : va_P D vwCl ([(h0, .inr (7, [.ref (a2 0), .ref (a4 0), .ref (a6 0), .null, .null, .null, .null, .null, .null, .long 0]))] ++ textW c a2 wz ++ pageW c a4 pz ++ pageW c a6 pz ++ [(q7, .inr (0, [.int 0, .int 0, .int 0, .int 0, .null, .null, .null, .null, .null, .null, .null]))]) H := hP
  have hD : va_D A ([(h0, .inr (7, [.ref (a2 0), .ref (a4 0), .ref (a6 0), .null, .null, .null, .null, .null, .null, .long 0]))] ++ textW c a2 wz ++ pageW c a4 pz ++ pageW c a6 pz ++ [(q7, .inr (0, [.int 0, .int 0, .int 0, .int 0, .null, .null, .null, .null, .null, .null, .null]))]) := hD
  refine W.widen (k := 23) (n := 324) (Nat.le_of_ble_eq_true rfl) (Nat.le_of_ble_eq_true rfl) ?_
  refine lv_dup hx hb dX7_init_41 rfl ?_
  refine wk_callIN (rest := [.ref q7, .ref h0]) ⟨hx, hb, hml, hown, hts⟩ (c_X0_init l D c q7) (⟨va_cnB 0 hts gX7_init_X0_init_n28 rfl rfl rfl hE.2.2.2.2.2.1 k15 hdi_X0 ⟨Nat.le_of_ble_eq_true rfl, Nat.le_of_ble_eq_true rfl⟩, rfl, k47⟩) eOK_T trivial hK hP hD hS hA hl.1 (Nat.le_of_ble_eq_true rfl) dX7_init_42 ⟨Nat.le_of_ble_eq_true rfl, Nat.le_of_ble_eq_true rfl⟩ (fun a8 H locs hu hP2 hD2 hS2 => ?_)
  subst hu
  have hP := hP2
  have hD := hD2
  have hS := hS2
  clear hP2 hD2 hS2
  have hP : va_P D vwCl ([(h0, .inr (7, [.ref (a2 0), .ref (a4 0), .ref (a6 0), .null, .null, .null, .null, .null, .null, .long 0]))] ++ textW c a2 wz ++ pageW c a4 pz ++ pageW c a6 pz ++ affW c a8 wz) H := hP
  have hD : va_D A ([(h0, .inr (7, [.ref (a2 0), .ref (a4 0), .ref (a6 0), .null, .null, .null, .null, .null, .null, .long 0]))] ++ textW c a2 wz ++ pageW c a4 pz ++ pageW c a6 pz ++ affW c a8 wz) := hD
  refine W.widen (k := 30) (n := 366) (Nat.le_of_ble_eq_true rfl) (Nat.le_of_ble_eq_true rfl) ?_
  refine va_putF (D := D) (ci := 7) (v := .ref (a8 0)) (ty := .object "LastWord$Affairs") (C := RX7) (T := TX7) (N := 10) hx hb hts iX7 tyX7 tyX7_ok nmX7 hown hK hP hD hS 0 rfl rfl 3 (by decide) k16 (fun _ h9 => h9) rfl hin rfl (tyX7_ok 3 (by decide)) rfl rfl (Nat.le_of_ble_eq_true rfl) dX7_init_45 (fun H locs hP hD hS => ?_)
  have hP : va_P D vwCl ([(h0, .inr (7, [.ref (a2 0), .ref (a4 0), .ref (a6 0), .ref (a8 0), .null, .null, .null, .null, .null, .long 0]))] ++ textW c a2 wz ++ pageW c a4 pz ++ pageW c a6 pz ++ affW c a8 wz) H := hP
  have hD : va_D A ([(h0, .inr (7, [.ref (a2 0), .ref (a4 0), .ref (a6 0), .ref (a8 0), .null, .null, .null, .null, .null, .long 0]))] ++ textW c a2 wz ++ pageW c a4 pz ++ pageW c a6 pz ++ affW c a8 wz) := hD
  refine lv_aload_n hx hb dX7_init_48 rfl (lv_at hl 0 rfl) ?_
  refine va_new (D := D) (ci := 0) (fs := [.int 0, .int 0, .int 0, .int 0, .null, .null, .null, .null, .null, .null, .null]) (C := RX0) (T := TX0) (N := 11) hx hb hts iX0 tyX0 tyX0_ok hown k13 k14 k15 hK hP hD hS hA rfl (fun j hj => by rcases (show j = 0 ∨ j = 1 ∨ j = 2 ∨ j = 3 ∨ j = 4 ∨ j = 5 ∨ j = 6 ∨ j = 7 ∨ j = 8 ∨ j = 9 ∨ j = 10 by omega) with rfl | rfl | rfl | rfl | rfl | rfl | rfl | rfl | rfl | rfl | rfl <;> rfl) (Nat.le_of_ble_eq_true rfl) (Nat.le_of_ble_eq_true rfl) dX7_init_49 (fun q9 H hP hD hS => ?_)
  have hP : va_P D vwCl ([(h0, .inr (7, [.ref (a2 0), .ref (a4 0), .ref (a6 0), .ref (a8 0), .null, .null, .null, .null, .null, .long 0]))] ++ textW c a2 wz ++ pageW c a4 pz ++ pageW c a6 pz ++ affW c a8 wz ++ [(q9, .inr (0, [.int 0, .int 0, .int 0, .int 0, .null, .null, .null, .null, .null, .null, .null]))]) H := hP
  have hD : va_D A ([(h0, .inr (7, [.ref (a2 0), .ref (a4 0), .ref (a6 0), .ref (a8 0), .null, .null, .null, .null, .null, .long 0]))] ++ textW c a2 wz ++ pageW c a4 pz ++ pageW c a6 pz ++ affW c a8 wz ++ [(q9, .inr (0, [.int 0, .int 0, .int 0, .int 0, .null, .null, .null, .null, .null, .null, .null]))]) := hD
  refine W.widen (k := 31) (n := 377) (Nat.le_of_ble_eq_true rfl) (Nat.le_of_ble_eq_true rfl) ?_
  refine lv_dup hx hb dX7_init_52 rfl ?_
  refine wk_callIN (rest := [.ref q9, .ref h0]) ⟨hx, hb, hml, hown, hts⟩ (c_X0_init l D c q9) (⟨va_cnB 0 hts gX7_init_X0_init_n28 rfl rfl rfl hE.2.2.2.2.2.1 k15 hdi_X0 ⟨Nat.le_of_ble_eq_true rfl, Nat.le_of_ble_eq_true rfl⟩, rfl, k47⟩) eOK_T trivial hK hP hD hS hA hl.1 (Nat.le_of_ble_eq_true rfl) dX7_init_53 ⟨Nat.le_of_ble_eq_true rfl, Nat.le_of_ble_eq_true rfl⟩ (fun a10 H locs hu hP2 hD2 hS2 => ?_)
  subst hu
  have hP := hP2
  have hD := hD2
  have hS := hS2
  clear hP2 hD2 hS2
  have hP : va_P D vwCl ([(h0, .inr (7, [.ref (a2 0), .ref (a4 0), .ref (a6 0), .ref (a8 0), .null, .null, .null, .null, .null, .long 0]))] ++ textW c a2 wz ++ pageW c a4 pz ++ pageW c a6 pz ++ affW c a8 wz ++ affW c a10 wz) H := hP
  have hD : va_D A ([(h0, .inr (7, [.ref (a2 0), .ref (a4 0), .ref (a6 0), .ref (a8 0), .null, .null, .null, .null, .null, .long 0]))] ++ textW c a2 wz ++ pageW c a4 pz ++ pageW c a6 pz ++ affW c a8 wz ++ affW c a10 wz) := hD
  refine W.widen (k := 38) (n := 419) (Nat.le_of_ble_eq_true rfl) (Nat.le_of_ble_eq_true rfl) ?_
  refine va_putF (D := D) (ci := 7) (v := .ref (a10 0)) (ty := .object "LastWord$Affairs") (C := RX7) (T := TX7) (N := 10) hx hb hts iX7 tyX7 tyX7_ok nmX7 hown hK hP hD hS 0 rfl rfl 4 (by decide) k17 (fun _ h9 => h9) rfl hin rfl (tyX7_ok 4 (by decide)) rfl rfl (Nat.le_of_ble_eq_true rfl) dX7_init_56 (fun H locs hP hD hS => ?_)
  have hP : va_P D vwCl ([(h0, .inr (7, [.ref (a2 0), .ref (a4 0), .ref (a6 0), .ref (a8 0), .ref (a10 0), .null, .null, .null, .null, .long 0]))] ++ textW c a2 wz ++ pageW c a4 pz ++ pageW c a6 pz ++ affW c a8 wz ++ affW c a10 wz) H := hP
  have hD : va_D A ([(h0, .inr (7, [.ref (a2 0), .ref (a4 0), .ref (a6 0), .ref (a8 0), .ref (a10 0), .null, .null, .null, .null, .long 0]))] ++ textW c a2 wz ++ pageW c a4 pz ++ pageW c a6 pz ++ affW c a8 wz ++ affW c a10 wz) := hD
  refine lv_aload_n hx hb dX7_init_59 rfl (lv_at hl 0 rfl) ?_
  refine va_new (D := D) (ci := 4) (fs := [.null, .int 0, .int 0]) (C := RX4) (T := TX4) (N := 3) hx hb hts iX4 tyX4 tyX4_ok hown k18 k19 k20 hK hP hD hS hA rfl (fun j hj => by rcases (show j = 0 ∨ j = 1 ∨ j = 2 by omega) with rfl | rfl | rfl <;> rfl) (Nat.le_of_ble_eq_true rfl) (Nat.le_of_ble_eq_true rfl) dX7_init_60 (fun q11 H hP hD hS => ?_)
  have hP : va_P D vwCl ([(h0, .inr (7, [.ref (a2 0), .ref (a4 0), .ref (a6 0), .ref (a8 0), .ref (a10 0), .null, .null, .null, .null, .long 0]))] ++ textW c a2 wz ++ pageW c a4 pz ++ pageW c a6 pz ++ affW c a8 wz ++ affW c a10 wz ++ [(q11, .inr (4, [.null, .int 0, .int 0]))]) H := hP
  have hD : va_D A ([(h0, .inr (7, [.ref (a2 0), .ref (a4 0), .ref (a6 0), .ref (a8 0), .ref (a10 0), .null, .null, .null, .null, .long 0]))] ++ textW c a2 wz ++ pageW c a4 pz ++ pageW c a6 pz ++ affW c a8 wz ++ affW c a10 wz ++ [(q11, .inr (4, [.null, .int 0, .int 0]))]) := hD
  refine W.widen (k := 39) (n := 422) (Nat.le_of_ble_eq_true rfl) (Nat.le_of_ble_eq_true rfl) ?_
  refine lv_dup hx hb dX7_init_63 rfl ?_
  refine wk_callI (rest := [.ref q11, .ref h0]) ⟨hx, hb, hml, hown, hts⟩ (c_X4_init l D c q11) (cwI 0 hts gX7_init_X4_init rfl rfl rfl k20 k57 k58 rfl hdi_X4 ⟨Nat.le_of_ble_eq_true rfl, Nat.le_of_ble_eq_true rfl⟩) eX4_ok hE.2.1 hK hP hD hS hA hl.1 (Nat.le_of_ble_eq_true rfl) dX7_init_64 ⟨Nat.le_of_ble_eq_true rfl, Nat.le_of_ble_eq_true rfl⟩ (fun a12 H locs hu hP2 hD2 hS2 => ?_)
  subst hu
  have hP := hP2
  have hD := hD2
  have hS := hS2
  clear hP2 hD2 hS2
  have hP : va_P D vwCl ([(h0, .inr (7, [.ref (a2 0), .ref (a4 0), .ref (a6 0), .ref (a8 0), .ref (a10 0), .null, .null, .null, .null, .long 0]))] ++ textW c a2 wz ++ pageW c a4 pz ++ pageW c a6 pz ++ affW c a8 wz ++ affW c a10 wz ++ (histW c a12 wz ++ affW c (subA a12 0) wz ++ affW c (subA a12 1) wz ++ affW c (subA a12 2) wz ++ affW c (subA a12 3) wz ++ affW c (subA a12 4) wz ++ affW c (subA a12 5) wz ++ affW c (subA a12 6) wz ++ affW c (subA a12 7) wz ++ affW c (subA a12 8) wz ++ affW c (subA a12 9) wz)) H := hP
  have hD : va_D A ([(h0, .inr (7, [.ref (a2 0), .ref (a4 0), .ref (a6 0), .ref (a8 0), .ref (a10 0), .null, .null, .null, .null, .long 0]))] ++ textW c a2 wz ++ pageW c a4 pz ++ pageW c a6 pz ++ affW c a8 wz ++ affW c a10 wz ++ (histW c a12 wz ++ affW c (subA a12 0) wz ++ affW c (subA a12 1) wz ++ affW c (subA a12 2) wz ++ affW c (subA a12 3) wz ++ affW c (subA a12 4) wz ++ affW c (subA a12 5) wz ++ affW c (subA a12 6) wz ++ affW c (subA a12 7) wz ++ affW c (subA a12 8) wz ++ affW c (subA a12 9) wz)) := hD
  refine W.widen (k := 120) (n := 962) (Nat.le_of_ble_eq_true rfl) (Nat.le_of_ble_eq_true rfl) ?_
  refine va_putF (D := D) (ci := 7) (v := .ref (a12 0)) (ty := .object "LastWord$History") (C := RX7) (T := TX7) (N := 10) hx hb hts iX7 tyX7 tyX7_ok nmX7 hown hK hP hD hS 0 rfl rfl 5 (by decide) k21 (fun _ h9 => h9) rfl hin rfl (tyX7_ok 5 (by decide)) rfl rfl (Nat.le_of_ble_eq_true rfl) dX7_init_67 (fun H locs hP hD hS => ?_)
  have hP : va_P D vwCl ([(h0, .inr (7, [.ref (a2 0), .ref (a4 0), .ref (a6 0), .ref (a8 0), .ref (a10 0), .ref (a12 0), .null, .null, .null, .long 0]))] ++ textW c a2 wz ++ pageW c a4 pz ++ pageW c a6 pz ++ affW c a8 wz ++ affW c a10 wz ++ (histW c a12 wz ++ affW c (subA a12 0) wz ++ affW c (subA a12 1) wz ++ affW c (subA a12 2) wz ++ affW c (subA a12 3) wz ++ affW c (subA a12 4) wz ++ affW c (subA a12 5) wz ++ affW c (subA a12 6) wz ++ affW c (subA a12 7) wz ++ affW c (subA a12 8) wz ++ affW c (subA a12 9) wz)) H := hP
  have hD : va_D A ([(h0, .inr (7, [.ref (a2 0), .ref (a4 0), .ref (a6 0), .ref (a8 0), .ref (a10 0), .ref (a12 0), .null, .null, .null, .long 0]))] ++ textW c a2 wz ++ pageW c a4 pz ++ pageW c a6 pz ++ affW c a8 wz ++ affW c a10 wz ++ (histW c a12 wz ++ affW c (subA a12 0) wz ++ affW c (subA a12 1) wz ++ affW c (subA a12 2) wz ++ affW c (subA a12 3) wz ++ affW c (subA a12 4) wz ++ affW c (subA a12 5) wz ++ affW c (subA a12 6) wz ++ affW c (subA a12 7) wz ++ affW c (subA a12 8) wz ++ affW c (subA a12 9) wz)) := hD
  refine lv_aload_n hx hb dX7_init_70 rfl (lv_at hl 0 rfl) ?_
  refine va_new (D := D) (ci := 1) (fs := [.null, .int 0]) (C := RX1) (T := TX1) (N := 2) hx hb hts iX1 tyX1 tyX1_ok hown k22 k23 k24 hK hP hD hS hA rfl (fun j hj => by rcases (show j = 0 ∨ j = 1 by omega) with rfl | rfl <;> rfl) (Nat.le_of_ble_eq_true rfl) (Nat.le_of_ble_eq_true rfl) dX7_init_71 (fun q13 H hP hD hS => ?_)
  have hP : va_P D vwCl ([(h0, .inr (7, [.ref (a2 0), .ref (a4 0), .ref (a6 0), .ref (a8 0), .ref (a10 0), .ref (a12 0), .null, .null, .null, .long 0]))] ++ textW c a2 wz ++ pageW c a4 pz ++ pageW c a6 pz ++ affW c a8 wz ++ affW c a10 wz ++ (histW c a12 wz ++ affW c (subA a12 0) wz ++ affW c (subA a12 1) wz ++ affW c (subA a12 2) wz ++ affW c (subA a12 3) wz ++ affW c (subA a12 4) wz ++ affW c (subA a12 5) wz ++ affW c (subA a12 6) wz ++ affW c (subA a12 7) wz ++ affW c (subA a12 8) wz ++ affW c (subA a12 9) wz) ++ [(q13, .inr (1, [.null, .int 0]))]) H := hP
  have hD : va_D A ([(h0, .inr (7, [.ref (a2 0), .ref (a4 0), .ref (a6 0), .ref (a8 0), .ref (a10 0), .ref (a12 0), .null, .null, .null, .long 0]))] ++ textW c a2 wz ++ pageW c a4 pz ++ pageW c a6 pz ++ affW c a8 wz ++ affW c a10 wz ++ (histW c a12 wz ++ affW c (subA a12 0) wz ++ affW c (subA a12 1) wz ++ affW c (subA a12 2) wz ++ affW c (subA a12 3) wz ++ affW c (subA a12 4) wz ++ affW c (subA a12 5) wz ++ affW c (subA a12 6) wz ++ affW c (subA a12 7) wz ++ affW c (subA a12 8) wz ++ affW c (subA a12 9) wz) ++ [(q13, .inr (1, [.null, .int 0]))]) := hD
  refine W.widen (k := 121) (n := 964) (Nat.le_of_ble_eq_true rfl) (Nat.le_of_ble_eq_true rfl) ?_
  refine lv_dup hx hb dX7_init_74 rfl ?_
  refine wk_callI (rest := [.ref q13, .ref h0]) ⟨hx, hb, hml, hown, hts⟩ (c_X1_init l D c q13) (cwI 0 hts gX7_init_X1_init rfl rfl rfl k24 k63 k64 rfl hdi_X1 ⟨Nat.le_of_ble_eq_true rfl, Nat.le_of_ble_eq_true rfl⟩) eX1_ok hE.2.2.1 hK hP hD hS hA hl.1 (Nat.le_of_ble_eq_true rfl) dX7_init_75 ⟨Nat.le_of_ble_eq_true rfl, Nat.le_of_ble_eq_true rfl⟩ (fun a14 H locs hu hP2 hD2 hS2 => ?_)
  subst hu
  have hP := hP2
  have hD := hD2
  have hS := hS2
  clear hP2 hD2 hS2
  have hP : va_P D vwCl ([(h0, .inr (7, [.ref (a2 0), .ref (a4 0), .ref (a6 0), .ref (a8 0), .ref (a10 0), .ref (a12 0), .null, .null, .null, .long 0]))] ++ textW c a2 wz ++ pageW c a4 pz ++ pageW c a6 pz ++ affW c a8 wz ++ affW c a10 wz ++ (histW c a12 wz ++ affW c (subA a12 0) wz ++ affW c (subA a12 1) wz ++ affW c (subA a12 2) wz ++ affW c (subA a12 3) wz ++ affW c (subA a12 4) wz ++ affW c (subA a12 5) wz ++ affW c (subA a12 6) wz ++ affW c (subA a12 7) wz ++ affW c (subA a12 8) wz ++ affW c (subA a12 9) wz) ++ (albumW c a14 wz ++ affW c (subA a14 0) wz ++ affW c (subA a14 1) wz)) H := hP
  have hD : va_D A ([(h0, .inr (7, [.ref (a2 0), .ref (a4 0), .ref (a6 0), .ref (a8 0), .ref (a10 0), .ref (a12 0), .null, .null, .null, .long 0]))] ++ textW c a2 wz ++ pageW c a4 pz ++ pageW c a6 pz ++ affW c a8 wz ++ affW c a10 wz ++ (histW c a12 wz ++ affW c (subA a12 0) wz ++ affW c (subA a12 1) wz ++ affW c (subA a12 2) wz ++ affW c (subA a12 3) wz ++ affW c (subA a12 4) wz ++ affW c (subA a12 5) wz ++ affW c (subA a12 6) wz ++ affW c (subA a12 7) wz ++ affW c (subA a12 8) wz ++ affW c (subA a12 9) wz) ++ (albumW c a14 wz ++ affW c (subA a14 0) wz ++ affW c (subA a14 1) wz)) := hD
  refine W.widen (k := 138) (n := 1072) (Nat.le_of_ble_eq_true rfl) (Nat.le_of_ble_eq_true rfl) ?_
  refine va_putF (D := D) (ci := 7) (v := .ref (a14 0)) (ty := .object "LastWord$Album") (C := RX7) (T := TX7) (N := 10) hx hb hts iX7 tyX7 tyX7_ok nmX7 hown hK hP hD hS 0 rfl rfl 6 (by decide) k25 (fun _ h9 => h9) rfl hin rfl (tyX7_ok 6 (by decide)) rfl rfl (Nat.le_of_ble_eq_true rfl) dX7_init_78 (fun H locs hP hD hS => ?_)
  have hP : va_P D vwCl ([(h0, .inr (7, [.ref (a2 0), .ref (a4 0), .ref (a6 0), .ref (a8 0), .ref (a10 0), .ref (a12 0), .ref (a14 0), .null, .null, .long 0]))] ++ textW c a2 wz ++ pageW c a4 pz ++ pageW c a6 pz ++ affW c a8 wz ++ affW c a10 wz ++ (histW c a12 wz ++ affW c (subA a12 0) wz ++ affW c (subA a12 1) wz ++ affW c (subA a12 2) wz ++ affW c (subA a12 3) wz ++ affW c (subA a12 4) wz ++ affW c (subA a12 5) wz ++ affW c (subA a12 6) wz ++ affW c (subA a12 7) wz ++ affW c (subA a12 8) wz ++ affW c (subA a12 9) wz) ++ (albumW c a14 wz ++ affW c (subA a14 0) wz ++ affW c (subA a14 1) wz)) H := hP
  have hD : va_D A ([(h0, .inr (7, [.ref (a2 0), .ref (a4 0), .ref (a6 0), .ref (a8 0), .ref (a10 0), .ref (a12 0), .ref (a14 0), .null, .null, .long 0]))] ++ textW c a2 wz ++ pageW c a4 pz ++ pageW c a6 pz ++ affW c a8 wz ++ affW c a10 wz ++ (histW c a12 wz ++ affW c (subA a12 0) wz ++ affW c (subA a12 1) wz ++ affW c (subA a12 2) wz ++ affW c (subA a12 3) wz ++ affW c (subA a12 4) wz ++ affW c (subA a12 5) wz ++ affW c (subA a12 6) wz ++ affW c (subA a12 7) wz ++ affW c (subA a12 8) wz ++ affW c (subA a12 9) wz) ++ (albumW c a14 wz ++ affW c (subA a14 0) wz ++ affW c (subA a14 1) wz)) := hD
  refine lv_aload_n hx hb dX7_init_81 rfl (lv_at hl 0 rfl) ?_
  refine va_new (D := D) (ci := 3) (fs := [.int 0, .null, .null, .null]) (C := RX3) (T := TX3) (N := 4) hx hb hts iX3 tyX3 tyX3_ok hown k26 k27 k28 hK hP hD hS hA rfl (fun j hj => by rcases (show j = 0 ∨ j = 1 ∨ j = 2 ∨ j = 3 by omega) with rfl | rfl | rfl | rfl <;> rfl) (Nat.le_of_ble_eq_true rfl) (Nat.le_of_ble_eq_true rfl) dX7_init_82 (fun q15 H hP hD hS => ?_)
  have hP : va_P D vwCl ([(h0, .inr (7, [.ref (a2 0), .ref (a4 0), .ref (a6 0), .ref (a8 0), .ref (a10 0), .ref (a12 0), .ref (a14 0), .null, .null, .long 0]))] ++ textW c a2 wz ++ pageW c a4 pz ++ pageW c a6 pz ++ affW c a8 wz ++ affW c a10 wz ++ (histW c a12 wz ++ affW c (subA a12 0) wz ++ affW c (subA a12 1) wz ++ affW c (subA a12 2) wz ++ affW c (subA a12 3) wz ++ affW c (subA a12 4) wz ++ affW c (subA a12 5) wz ++ affW c (subA a12 6) wz ++ affW c (subA a12 7) wz ++ affW c (subA a12 8) wz ++ affW c (subA a12 9) wz) ++ (albumW c a14 wz ++ affW c (subA a14 0) wz ++ affW c (subA a14 1) wz) ++ [(q15, .inr (3, [.int 0, .null, .null, .null]))]) H := hP
  have hD : va_D A ([(h0, .inr (7, [.ref (a2 0), .ref (a4 0), .ref (a6 0), .ref (a8 0), .ref (a10 0), .ref (a12 0), .ref (a14 0), .null, .null, .long 0]))] ++ textW c a2 wz ++ pageW c a4 pz ++ pageW c a6 pz ++ affW c a8 wz ++ affW c a10 wz ++ (histW c a12 wz ++ affW c (subA a12 0) wz ++ affW c (subA a12 1) wz ++ affW c (subA a12 2) wz ++ affW c (subA a12 3) wz ++ affW c (subA a12 4) wz ++ affW c (subA a12 5) wz ++ affW c (subA a12 6) wz ++ affW c (subA a12 7) wz ++ affW c (subA a12 8) wz ++ affW c (subA a12 9) wz) ++ (albumW c a14 wz ++ affW c (subA a14 0) wz ++ affW c (subA a14 1) wz) ++ [(q15, .inr (3, [.int 0, .null, .null, .null]))]) := hD
  refine W.widen (k := 139) (n := 1076) (Nat.le_of_ble_eq_true rfl) (Nat.le_of_ble_eq_true rfl) ?_
  refine lv_dup hx hb dX7_init_85 rfl ?_
  refine wk_callIN (rest := [.ref q15, .ref h0]) ⟨hx, hb, hml, hown, hts⟩ (c_X3_init l D c q15) (⟨va_cnB 0 hts gX7_init_X3_init_n52 rfl rfl rfl hE.2.2.2.2.2.2.1 k28 hdi_X3 ⟨Nat.le_of_ble_eq_true rfl, Nat.le_of_ble_eq_true rfl⟩, rfl, k69⟩) eOK_T trivial hK hP hD hS hA hl.1 (Nat.le_of_ble_eq_true rfl) dX7_init_86 ⟨Nat.le_of_ble_eq_true rfl, Nat.le_of_ble_eq_true rfl⟩ (fun a16 H locs hu hP2 hD2 hS2 => ?_)
  subst hu
  have hP := hP2
  have hD := hD2
  have hS := hS2
  clear hP2 hD2 hS2
  have hP : va_P D vwCl ([(h0, .inr (7, [.ref (a2 0), .ref (a4 0), .ref (a6 0), .ref (a8 0), .ref (a10 0), .ref (a12 0), .ref (a14 0), .null, .null, .long 0]))] ++ textW c a2 wz ++ pageW c a4 pz ++ pageW c a6 pz ++ affW c a8 wz ++ affW c a10 wz ++ (histW c a12 wz ++ affW c (subA a12 0) wz ++ affW c (subA a12 1) wz ++ affW c (subA a12 2) wz ++ affW c (subA a12 3) wz ++ affW c (subA a12 4) wz ++ affW c (subA a12 5) wz ++ affW c (subA a12 6) wz ++ affW c (subA a12 7) wz ++ affW c (subA a12 8) wz ++ affW c (subA a12 9) wz) ++ (albumW c a14 wz ++ affW c (subA a14 0) wz ++ affW c (subA a14 1) wz) ++ findW c a16 wz) H := hP
  have hD : va_D A ([(h0, .inr (7, [.ref (a2 0), .ref (a4 0), .ref (a6 0), .ref (a8 0), .ref (a10 0), .ref (a12 0), .ref (a14 0), .null, .null, .long 0]))] ++ textW c a2 wz ++ pageW c a4 pz ++ pageW c a6 pz ++ affW c a8 wz ++ affW c a10 wz ++ (histW c a12 wz ++ affW c (subA a12 0) wz ++ affW c (subA a12 1) wz ++ affW c (subA a12 2) wz ++ affW c (subA a12 3) wz ++ affW c (subA a12 4) wz ++ affW c (subA a12 5) wz ++ affW c (subA a12 6) wz ++ affW c (subA a12 7) wz ++ affW c (subA a12 8) wz ++ affW c (subA a12 9) wz) ++ (albumW c a14 wz ++ affW c (subA a14 0) wz ++ affW c (subA a14 1) wz) ++ findW c a16 wz) := hD
  refine W.widen (k := 142) (n := 1091) (Nat.le_of_ble_eq_true rfl) (Nat.le_of_ble_eq_true rfl) ?_
  refine va_putF (D := D) (ci := 7) (v := .ref (a16 0)) (ty := .object "LastWord$Findings") (C := RX7) (T := TX7) (N := 10) hx hb hts iX7 tyX7 tyX7_ok nmX7 hown hK hP hD hS 0 rfl rfl 7 (by decide) k29 (fun _ h9 => h9) rfl hin rfl (tyX7_ok 7 (by decide)) rfl rfl (Nat.le_of_ble_eq_true rfl) dX7_init_89 (fun H locs hP hD hS => ?_)
  have hP : va_P D vwCl ([(h0, .inr (7, [.ref (a2 0), .ref (a4 0), .ref (a6 0), .ref (a8 0), .ref (a10 0), .ref (a12 0), .ref (a14 0), .ref (a16 0), .null, .long 0]))] ++ textW c a2 wz ++ pageW c a4 pz ++ pageW c a6 pz ++ affW c a8 wz ++ affW c a10 wz ++ (histW c a12 wz ++ affW c (subA a12 0) wz ++ affW c (subA a12 1) wz ++ affW c (subA a12 2) wz ++ affW c (subA a12 3) wz ++ affW c (subA a12 4) wz ++ affW c (subA a12 5) wz ++ affW c (subA a12 6) wz ++ affW c (subA a12 7) wz ++ affW c (subA a12 8) wz ++ affW c (subA a12 9) wz) ++ (albumW c a14 wz ++ affW c (subA a14 0) wz ++ affW c (subA a14 1) wz) ++ findW c a16 wz) H := hP
  have hD : va_D A ([(h0, .inr (7, [.ref (a2 0), .ref (a4 0), .ref (a6 0), .ref (a8 0), .ref (a10 0), .ref (a12 0), .ref (a14 0), .ref (a16 0), .null, .long 0]))] ++ textW c a2 wz ++ pageW c a4 pz ++ pageW c a6 pz ++ affW c a8 wz ++ affW c a10 wz ++ (histW c a12 wz ++ affW c (subA a12 0) wz ++ affW c (subA a12 1) wz ++ affW c (subA a12 2) wz ++ affW c (subA a12 3) wz ++ affW c (subA a12 4) wz ++ affW c (subA a12 5) wz ++ affW c (subA a12 6) wz ++ affW c (subA a12 7) wz ++ affW c (subA a12 8) wz ++ affW c (subA a12 9) wz) ++ (albumW c a14 wz ++ affW c (subA a14 0) wz ++ affW c (subA a14 1) wz) ++ findW c a16 wz) := hD
  refine lv_aload_n hx hb dX7_init_92 rfl (lv_at hl 0 rfl) ?_
  refine va_new (D := D) (ci := 2) (fs := [.int 0, .int 0]) (C := RX2) (T := TX2) (N := 2) hx hb hts iX2 tyX2 tyX2_ok hown k30 k31 k32 hK hP hD hS hA rfl (fun j hj => by rcases (show j = 0 ∨ j = 1 by omega) with rfl | rfl <;> rfl) (Nat.le_of_ble_eq_true rfl) (Nat.le_of_ble_eq_true rfl) dX7_init_93 (fun q17 H hP hD hS => ?_)
  have hP : va_P D vwCl ([(h0, .inr (7, [.ref (a2 0), .ref (a4 0), .ref (a6 0), .ref (a8 0), .ref (a10 0), .ref (a12 0), .ref (a14 0), .ref (a16 0), .null, .long 0]))] ++ textW c a2 wz ++ pageW c a4 pz ++ pageW c a6 pz ++ affW c a8 wz ++ affW c a10 wz ++ (histW c a12 wz ++ affW c (subA a12 0) wz ++ affW c (subA a12 1) wz ++ affW c (subA a12 2) wz ++ affW c (subA a12 3) wz ++ affW c (subA a12 4) wz ++ affW c (subA a12 5) wz ++ affW c (subA a12 6) wz ++ affW c (subA a12 7) wz ++ affW c (subA a12 8) wz ++ affW c (subA a12 9) wz) ++ (albumW c a14 wz ++ affW c (subA a14 0) wz ++ affW c (subA a14 1) wz) ++ findW c a16 wz ++ [(q17, .inr (2, [.int 0, .int 0]))]) H := hP
  have hD : va_D A ([(h0, .inr (7, [.ref (a2 0), .ref (a4 0), .ref (a6 0), .ref (a8 0), .ref (a10 0), .ref (a12 0), .ref (a14 0), .ref (a16 0), .null, .long 0]))] ++ textW c a2 wz ++ pageW c a4 pz ++ pageW c a6 pz ++ affW c a8 wz ++ affW c a10 wz ++ (histW c a12 wz ++ affW c (subA a12 0) wz ++ affW c (subA a12 1) wz ++ affW c (subA a12 2) wz ++ affW c (subA a12 3) wz ++ affW c (subA a12 4) wz ++ affW c (subA a12 5) wz ++ affW c (subA a12 6) wz ++ affW c (subA a12 7) wz ++ affW c (subA a12 8) wz ++ affW c (subA a12 9) wz) ++ (albumW c a14 wz ++ affW c (subA a14 0) wz ++ affW c (subA a14 1) wz) ++ findW c a16 wz ++ [(q17, .inr (2, [.int 0, .int 0]))]) := hD
  refine W.widen (k := 143) (n := 1093) (Nat.le_of_ble_eq_true rfl) (Nat.le_of_ble_eq_true rfl) ?_
  refine lv_dup hx hb dX7_init_96 rfl ?_
  refine wk_callIN (rest := [.ref q17, .ref h0]) ⟨hx, hb, hml, hown, hts⟩ (c_X2_init l D c q17) (⟨va_cnB 0 hts gX7_init_X2_init_n59 rfl rfl rfl hE.2.2.2.2.2.2.2 k32 hdi_X2 ⟨Nat.le_of_ble_eq_true rfl, Nat.le_of_ble_eq_true rfl⟩, rfl, k75⟩) eOK_T trivial hK hP hD hS hA hl.1 (Nat.le_of_ble_eq_true rfl) dX7_init_97 ⟨Nat.le_of_ble_eq_true rfl, Nat.le_of_ble_eq_true rfl⟩ (fun a18 H locs hu hP2 hD2 hS2 => ?_)
  subst hu
  have hP := hP2
  have hD := hD2
  have hS := hS2
  clear hP2 hD2 hS2
  have hP : va_P D vwCl ([(h0, .inr (7, [.ref (a2 0), .ref (a4 0), .ref (a6 0), .ref (a8 0), .ref (a10 0), .ref (a12 0), .ref (a14 0), .ref (a16 0), .null, .long 0]))] ++ textW c a2 wz ++ pageW c a4 pz ++ pageW c a6 pz ++ affW c a8 wz ++ affW c a10 wz ++ (histW c a12 wz ++ affW c (subA a12 0) wz ++ affW c (subA a12 1) wz ++ affW c (subA a12 2) wz ++ affW c (subA a12 3) wz ++ affW c (subA a12 4) wz ++ affW c (subA a12 5) wz ++ affW c (subA a12 6) wz ++ affW c (subA a12 7) wz ++ affW c (subA a12 8) wz ++ affW c (subA a12 9) wz) ++ (albumW c a14 wz ++ affW c (subA a14 0) wz ++ affW c (subA a14 1) wz) ++ findW c a16 wz ++ courseW c a18 wz) H := hP
  have hD : va_D A ([(h0, .inr (7, [.ref (a2 0), .ref (a4 0), .ref (a6 0), .ref (a8 0), .ref (a10 0), .ref (a12 0), .ref (a14 0), .ref (a16 0), .null, .long 0]))] ++ textW c a2 wz ++ pageW c a4 pz ++ pageW c a6 pz ++ affW c a8 wz ++ affW c a10 wz ++ (histW c a12 wz ++ affW c (subA a12 0) wz ++ affW c (subA a12 1) wz ++ affW c (subA a12 2) wz ++ affW c (subA a12 3) wz ++ affW c (subA a12 4) wz ++ affW c (subA a12 5) wz ++ affW c (subA a12 6) wz ++ affW c (subA a12 7) wz ++ affW c (subA a12 8) wz ++ affW c (subA a12 9) wz) ++ (albumW c a14 wz ++ affW c (subA a14 0) wz ++ affW c (subA a14 1) wz) ++ findW c a16 wz ++ courseW c a18 wz) := hD
  refine W.widen (k := 143) (n := 1093) (Nat.le_of_ble_eq_true rfl) (Nat.le_of_ble_eq_true rfl) ?_
  refine va_putF (D := D) (ci := 7) (v := .ref (a18 0)) (ty := .object "LastWord$Course") (C := RX7) (T := TX7) (N := 10) hx hb hts iX7 tyX7 tyX7_ok nmX7 hown hK hP hD hS 0 rfl rfl 8 (by decide) k33 (fun _ h9 => h9) rfl hin rfl (tyX7_ok 8 (by decide)) rfl rfl (Nat.le_of_ble_eq_true rfl) dX7_init_100 (fun H locs hP hD hS => ?_)
  have hP : va_P D vwCl ([(h0, .inr (7, [.ref (a2 0), .ref (a4 0), .ref (a6 0), .ref (a8 0), .ref (a10 0), .ref (a12 0), .ref (a14 0), .ref (a16 0), .ref (a18 0), .long 0]))] ++ textW c a2 wz ++ pageW c a4 pz ++ pageW c a6 pz ++ affW c a8 wz ++ affW c a10 wz ++ (histW c a12 wz ++ affW c (subA a12 0) wz ++ affW c (subA a12 1) wz ++ affW c (subA a12 2) wz ++ affW c (subA a12 3) wz ++ affW c (subA a12 4) wz ++ affW c (subA a12 5) wz ++ affW c (subA a12 6) wz ++ affW c (subA a12 7) wz ++ affW c (subA a12 8) wz ++ affW c (subA a12 9) wz) ++ (albumW c a14 wz ++ affW c (subA a14 0) wz ++ affW c (subA a14 1) wz) ++ findW c a16 wz ++ courseW c a18 wz) H := hP
  have hD : va_D A ([(h0, .inr (7, [.ref (a2 0), .ref (a4 0), .ref (a6 0), .ref (a8 0), .ref (a10 0), .ref (a12 0), .ref (a14 0), .ref (a16 0), .ref (a18 0), .long 0]))] ++ textW c a2 wz ++ pageW c a4 pz ++ pageW c a6 pz ++ affW c a8 wz ++ affW c a10 wz ++ (histW c a12 wz ++ affW c (subA a12 0) wz ++ affW c (subA a12 1) wz ++ affW c (subA a12 2) wz ++ affW c (subA a12 3) wz ++ affW c (subA a12 4) wz ++ affW c (subA a12 5) wz ++ affW c (subA a12 6) wz ++ affW c (subA a12 7) wz ++ affW c (subA a12 8) wz ++ affW c (subA a12 9) wz) ++ (albumW c a14 wz ++ affW c (subA a14 0) wz ++ affW c (subA a14 1) wz) ++ findW c a16 wz ++ courseW c a18 wz) := hD
  exact ret 103 ls H _ (h0, a2, a4, a6, a8, a10, a12, a14, a16, a18) rfl hP hD hS dX7_init_103

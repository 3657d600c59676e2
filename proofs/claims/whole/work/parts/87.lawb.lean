/-! ===== calls among many cells: by permutation ===== -/
noncomputable def cdec : DecidableEq (Nat × va_E) := fun a b => Classical.propDecidable (a = b)
noncomputable def ct (x : Nat × va_E) (l : va_W) : Nat := @List.count _ (@instBEqOfDecidableEq _ cdec) x l
theorem ct_app (x : Nat × va_E) (a b : va_W) : ct x (a ++ b) = ct x a + ct x b := by
  letI : DecidableEq (Nat × va_E) := cdec
  unfold ct
  exact List.count_append
theorem ct_nil (x : Nat × va_E) : ct x [] = 0 := rfl
theorem wk_pm {a b : va_W} (h : ∀ x, ct x a = ct x b) : a.Perm b := by
  letI : DecidableEq (Nat × va_E) := cdec
  exact List.perm_iff_count.mpr h
theorem wk_Dn {A : Nat → Prop} {ws : va_W} : va_D A ws ↔ (ws.map (fun q => q.1)).Nodup ∧ ∀ x, x ∈ ws → A x.1 := by
  constructor
  · intro h
    refine ⟨?_, fun x hx => ?_⟩
    · rw [List.Nodup, List.pairwise_iff_getElem]
      intro i j hi hj hij e
      simp only [List.getElem_map] at e
      rw [List.length_map] at hi hj
      have := h.1 i j ws[i] ws[j] (List.getElem?_eq_getElem hi) (List.getElem?_eq_getElem hj) e
      omega
    · obtain ⟨k, hk⟩ := List.getElem?_of_mem hx
      exact h.2 k x hk
  · intro h
    refine ⟨fun i j x y hi hj hxy => ?_, fun k q hq => h.2 q (List.mem_of_getElem? hq)⟩
    have h1 := h.1
    rw [List.Nodup, List.pairwise_iff_getElem] at h1
    obtain ⟨hi', e1⟩ := List.getElem?_eq_some_iff.mp hi
    obtain ⟨hj', e2⟩ := List.getElem?_eq_some_iff.mp hj
    rcases Nat.lt_trichotomy i j with z | z | z
    · have h3 := h1 i j (by rw [List.length_map]; exact hi') (by rw [List.length_map]; exact hj') z
      simp only [List.getElem_map] at h3
      exact absurd (by rw [e1, e2]; exact hxy) h3
    · exact z
    · have h3 := h1 j i (by rw [List.length_map]; exact hj') (by rw [List.length_map]; exact hi') z
      simp only [List.getElem_map] at h3
      exact absurd (by rw [e1, e2]; exact hxy.symm) h3
theorem wk_Pp {D : va_G} {cl : List vw_C} {a b : va_W} {H : Heap} (h : a.Perm b) (hP : va_P D cl a H) : va_P D cl b H := wk_Pm.mpr (fun x hx => wk_Pm.mp hP x (h.mem_iff.mpr hx))
theorem wk_Dp {A : Nat → Prop} {a b : va_W} (h : a.Perm b) (hD : va_D A a) : va_D A b := by
  rw [wk_Dn] at hD ⊢
  exact ⟨(h.map _).nodup hD.1, fun x hx => hD.2 x (h.mem_iff.mpr hx)⟩
theorem wk_Dl {A : Nat → Prop} {a b : va_W} (hD : va_D A (a ++ b)) : va_D A a := by
  rw [wk_Dn, List.map_append, List.nodup_append] at hD
  exact wk_Dn.mpr ⟨hD.1.1, fun x hx => hD.2 x (List.mem_append_left _ hx)⟩
theorem wk_Pl {D : va_G} {cl : List vw_C} {a b : va_W} {H : Heap} (hP : va_P D cl (a ++ b) H) : va_P D cl a H := wk_Pm.mpr (fun x hx => wk_Pm.mp hP x (List.mem_append_left _ hx))
theorem wk_joinP {A : Nat → Prop} {D : va_G} {cl : List vw_C} {ws ws' wc wc' wr : va_W} {H H1 : Heap} (hP : va_P D cl ws H) (hD : va_D A ws) (h1 : ws.Perm (wc ++ wr)) (h2 : ws'.Perm (wc' ++ wr)) (hf : wc'.map (fun q => q.1) = wc.map (fun q => q.1)) (hk : ∀ q : Nat, q < H.size → ¬ va_A wc H.size q → H1[q]? = H[q]?) (hP1 : va_P D cl wc' H1) : va_P D cl ws' H1 ∧ va_D A ws' := by
  rw [wk_Dn] at hD
  have hn : ((wc ++ wr).map (fun q => q.1)).Nodup := (h1.map _).nodup hD.1
  have hn2 := hn
  rw [List.map_append, List.nodup_append] at hn2
  have hm := h2.map (fun q => q.1)
  rw [List.map_append, hf, ← List.map_append] at hm
  refine ⟨wk_Pm.mpr (fun x hx => ?_), wk_Dn.mpr ⟨hm.symm.nodup hn, fun x hx => ?_⟩⟩
  · rcases List.mem_append.mp (h2.mem_iff.mp hx) with hx | hx
    · exact wk_Pm.mp hP1 x hx
    · have hx0 : x ∈ ws := h1.mem_iff.mpr (List.mem_append_right _ hx)
      have hat := wk_Pm.mp hP x hx0
      have hlt := hat.lt
      refine hat.kept (hk x.1 hlt (fun h => ?_))
      rcases h with ⟨k, e, h⟩ | h
      · exact hn2.2.2 x.1 (List.mem_map.mpr ⟨(x.1, e), List.mem_of_getElem? h, rfl⟩) x.1 (List.mem_map.mpr ⟨x, hx, rfl⟩) rfl
      · omega
  · have hx1 : x.1 ∈ (wc ++ wr).map (fun q => q.1) := hm.mem_iff.mp (List.mem_map.mpr ⟨x, hx, rfl⟩)
    obtain ⟨y, hy, e⟩ := List.mem_map.mp hx1
    rw [← e]
    exact hD.2 y (h1.mem_iff.mpr hy)
section WKP
variable {p : Program} {l : Launch} {e : Env} {R : Room} {s : State} {m : MethodId} {args : Array Value} {below : List Frame} {meth : Method} {c : Code} {H : Heap} {locs : List Loc} {cells slots : Nat} {Q : State → Prop}
variable {cc bytes : ByteArray} {pc : Nat} {ls : Array Slot} {rest st0 As : List Value} {D : va_G} {A : Nat → Prop} {tys : List (ClassId × FieldType)} {ws ws' wc wc' wr : va_W} {wj wsj : wRec → wRec → va_W} {H0 : Heap}
variable {y : MethodName} {nL maxL n index b q0 ci : Nat} {ret : Option FieldType} {wsy Ts : List Cond} {rm : Room} {own C : String} {T : u_T} {N : Nat} {fs : List Value} {v : Int32}
theorem wk_freeP (hD : va_D A ws) (hS : va_S A H0 H locs) (hA : ∀ q : Nat, H0.size ≤ q → A q) (h1 : ws.Perm (wc ++ wr)) : ∀ q, va_A wc H.size q → A q := by
  intro q h
  rcases h with ⟨k, e, h⟩ | h
  · exact (wk_Dn.mp hD).2 (q, e) (h1.mem_iff.mpr (List.mem_append_left _ (List.mem_of_getElem? h)))
  · exact hA q (Nat.le_trans hS.1 h)
theorem wk_callRP (S : CallFix p m c cc nL s args Ts own) (hM : wk_RdI l y wsy rm D tys (.ref b :: As) wc v) (cw : CallW R s args own C index y bytes maxL ret wsy rm 0 0 n) (hK : va_K D vwCl tys s) (hP : va_P D vwCl ws H) (h1 : ws.Perm (wc ++ wr)) (q0 : Nat) (he : wc[q0]? = some (b, .inr (ci, fs))) (hc : vwCl[ci]? = some (C, T, N))
    (hn : As.length = n) (hsize : ls.size = nL) (hstack : st0 = As.reverse ++ .ref b :: rest) (hW : (rest.map fun v => v.category).sum ≤ 8) (hdg : decode cc pc = .ok (.invokevirtual index, 3)) (hcl : cells ≤ R.cells) (hsl : slots ≤ R.slots)
    (kk : W p l e R s m args below meth c H locs cells slots Q (F0 m (pc + 3) ls (.int v :: rest))) : W p l e R s m args below meth c H locs cells slots Q (F0 m pc ls st0) := by
  have hPc : va_P D vwCl wc H := wk_Pl (wk_Pp h1 hP)
  refine vp_callSi (W.runV (As := As) (rest := rest) (b := b) S hM cw ⟨wk_blindR, va_recv hK hPc hc he, fun U hU hW => ⟨rfl, by rw [hU]; exact hPc, va_K.moved hW.alike hK⟩⟩ rfl hn hsize hstack (lv_room hW) hdg ⟨hcl, hsl⟩) (fun r hr => ?_)
  subst hr
  exact kk
theorem wk_callLP {v : Int64} (S : CallFix p m c cc nL s args Ts own) (hM : wk_RdL l y wsy rm D tys (.ref b :: As) wc v) (cw : CallW R s args own C index y bytes maxL ret wsy rm 0 0 n) (hK : va_K D vwCl tys s) (hP : va_P D vwCl ws H) (h1 : ws.Perm (wc ++ wr)) (q0 : Nat) (he : wc[q0]? = some (b, .inr (ci, fs))) (hc : vwCl[ci]? = some (C, T, N))
    (hn : As.length = n) (hsize : ls.size = nL) (hstack : st0 = As.reverse ++ .ref b :: rest) (hW : (rest.map fun v => v.category).sum ≤ 8) (hdg : decode cc pc = .ok (.invokevirtual index, 3)) (hcl : cells ≤ R.cells) (hsl : slots ≤ R.slots)
    (kk : W p l e R s m args below meth c H locs cells slots Q (F0 m (pc + 3) ls (.long v :: rest))) : W p l e R s m args below meth c H locs cells slots Q (F0 m pc ls st0) := by
  have hPc : va_P D vwCl wc H := wk_Pl (wk_Pp h1 hP)
  refine vp_callSl (W.runV (As := As) (rest := rest) (b := b) S hM cw ⟨wk_blindR, va_recv hK hPc hc he, fun U hU hW => ⟨rfl, by rw [hU]; exact hPc, va_K.moved hW.alike hK⟩⟩ rfl hn hsize hstack (lv_room hW) hdg ⟨hcl, hsl⟩) (fun r hr => ?_)
  subst hr
  exact kk
theorem wk_callUP (S : CallFix p m c cc nL s args Ts own) (hM : wk_UpI l y wsy rm D tys (.ref b :: As) wc wc' v) (cw : CallW R s args own C index y bytes maxL ret wsy rm 0 0 n) (hK : va_K D vwCl tys s) (hP : va_P D vwCl ws H) (hD : va_D A ws) (hS : va_S A H0 H locs) (hA : ∀ q : Nat, H0.size ≤ q → A q) (h1 : ws.Perm (wc ++ wr)) (h2 : ws'.Perm (wc' ++ wr)) (hf : wc'.map (fun q => q.1) = wc.map (fun q => q.1)) (q0 : Nat) (he : wc[q0]? = some (b, .inr (ci, fs))) (hc : vwCl[ci]? = some (C, T, N))
    (hn : As.length = n) (hsize : ls.size = nL) (hstack : st0 = As.reverse ++ .ref b :: rest) (hW : (rest.map fun v => v.category).sum ≤ 8) (hdg : decode cc pc = .ok (.invokevirtual index, 3)) (hcl : cells ≤ R.cells) (hsl : slots ≤ R.slots)
    (kk : ∀ (H1 : Heap) (locs1 : List Loc), va_P D vwCl ws' H1 → va_D A ws' → va_S A H0 H1 locs1 → W p l e R s m args below meth c H1 locs1 cells slots Q (F0 m (pc + 3) ls (.int v :: rest))) : W p l e R s m args below meth c H locs cells slots Q (F0 m pc ls st0) := by
  have hDc : va_D A wc := wk_Dl (wk_Dp h1 hD)
  have hPc : va_P D vwCl wc H := wk_Pl (wk_Pp h1 hP)
  have hFc := wk_freeP hD hS hA h1
  refine va_calli (va_runV (As := As) (rest := rest) (b := b) S (hM H.size) cw ⟨wk_blindU, va_recv hK hPc hc he, fun U hU hW => ⟨rfl, by rw [hU], by rw [hU]; exact hPc, va_K.moved hW.alike hK, hDc.weaken (fun _ _ _ _ => trivial)⟩⟩ rfl hn hsize hstack (lv_room hW) hdg ⟨hcl, hsl⟩) hS (fun q _ h => hFc q h) hFc (fun r u t H1 locs1 ht hvm hw hB hz1 hk1 hS1 => ?_)
  rw [ht] at hB
  obtain ⟨hP1, hD1⟩ := wk_joinP hP hD h1 h2 hf hk1 hB
  subst hw
  exact kk H1 locs1 hP1 hD1 hS1
theorem wk_callJP (S : CallFix p m c cc nL s args Ts own) (hM : wk_UpJ l y wsy rm D tys (.ref b :: As) wc wj v) (cw : CallW R s args own C index y bytes maxL ret wsy rm 0 0 n) (hK : va_K D vwCl tys s) (hP : va_P D vwCl ws H) (hD : va_D A ws) (hS : va_S A H0 H locs) (hA : ∀ q : Nat, H0.size ≤ q → A q) (h1 : ws.Perm (wc ++ wr)) (h2 : ∀ j1 j2, (wsj j1 j2).Perm (wj j1 j2 ++ wr)) (hf : ∀ j1 j2, (wj j1 j2).map (fun q => q.1) = wc.map (fun q => q.1)) (q0 : Nat) (he : wc[q0]? = some (b, .inr (ci, fs))) (hc : vwCl[ci]? = some (C, T, N))
    (hn : As.length = n) (hsize : ls.size = nL) (hstack : st0 = As.reverse ++ .ref b :: rest) (hW : (rest.map fun v => v.category).sum ≤ 8) (hdg : decode cc pc = .ok (.invokevirtual index, 3)) (hcl : cells ≤ R.cells) (hsl : slots ≤ R.slots)
    (kk : ∀ (j1 j2 : wRec) (H1 : Heap) (locs1 : List Loc), va_P D vwCl (wsj j1 j2) H1 → va_D A (wsj j1 j2) → va_S A H0 H1 locs1 → W p l e R s m args below meth c H1 locs1 cells slots Q (F0 m (pc + 3) ls (.int v :: rest))) : W p l e R s m args below meth c H locs cells slots Q (F0 m pc ls st0) := by
  have hDc : va_D A wc := wk_Dl (wk_Dp h1 hD)
  have hPc : va_P D vwCl wc H := wk_Pl (wk_Pp h1 hP)
  have hFc := wk_freeP hD hS hA h1
  refine va_calli (va_runV (As := As) (rest := rest) (b := b) S (hM H.size) cw ⟨wk_blindU, va_recv hK hPc hc he, fun U hU hW => ⟨rfl, by rw [hU], by rw [hU]; exact hPc, va_K.moved hW.alike hK, hDc.weaken (fun _ _ _ _ => trivial)⟩⟩ rfl hn hsize hstack (lv_room hW) hdg ⟨hcl, hsl⟩) hS (fun q _ h => hFc q h) hFc (fun r u t H1 locs1 ht hvm hw hB hz1 hk1 hS1 => ?_)
  obtain ⟨j1, j2⟩ := u
  have hB : va_P D vwCl (wj j1 j2) t.heap := hB
  rw [ht] at hB
  obtain ⟨hP1, hD1⟩ := wk_joinP hP hD h1 (h2 j1 j2) (hf j1 j2) hk1 hB
  subst hw
  exact kk j1 j2 H1 locs1 hP1 hD1 hS1
end WKP
/-! ===== the whole object among its cells ===== -/
def rgW (c : Nat → ClassId) (h : Nat → Nat) (R : Nat → wRec) : Nat → va_W
  | 0 => []
  | n + 1 => rgW c h R n ++ affW c (subA h n) (R n)
def rgX (c : Nat → ClassId) (h : Nat → Nat) (R : Nat → wRec) (j : Nat) : Nat → va_W
  | 0 => []
  | n + 1 => rgX c h R j n ++ (if n = j then [] else affW c (subA h n) (R n))
theorem rg_ct (c : Nat → ClassId) (h : Nat → Nat) (R : Nat → wRec) (j : Nat) (x : Nat × va_E) : ∀ n, ct x (rgW c h R n) = ct x (rgX c h R j n) + (if j < n then ct x (affW c (subA h j) (R j)) else 0)
  | 0 => by rw [if_neg (Nat.not_lt_zero j)]; rfl
  | n + 1 => by
    rw [rgW, rgX, ct_app, ct_app, rg_ct c h R j x n]
    by_cases e : n = j
    · subst e
      rw [if_neg (Nat.lt_irrefl n), if_pos rfl, if_pos (Nat.lt_succ_self n), ct_nil]
    · rw [if_neg e]
      by_cases z : j < n
      · rw [if_pos z, if_pos (by omega)]
        omega
      · rw [if_neg z, if_neg (by omega)]
        omega
theorem rgX_up (c : Nat → ClassId) (h : Nat → Nat) (R : Nat → wRec) (j : Nat) (ρ : wRec) : ∀ n, rgX c h (va_up R j ρ) j n = rgX c h R j n
  | 0 => rfl
  | n + 1 => by
    rw [rgX, rgX, rgX_up c h R j ρ n]
    by_cases e : n = j
    · rw [if_pos e, if_pos e]
    · rw [if_neg e, if_neg e, va_up_ne _ _ e]
theorem rg_in (c : Nat → ClassId) (h : Nat → Nat) (R : Nat → wRec) {j n : Nat} (hj : j < n) (x : Nat × va_E) : ct x (rgW c h R n) = ct x (affW c (subA h j) (R j)) + ct x (rgX c h R j n) := by
  rw [rg_ct c h R j x n, if_pos hj]
  omega
theorem rg_up (c : Nat → ClassId) (h : Nat → Nat) (R : Nat → wRec) (ρ : wRec) {j n : Nat} (hj : j < n) (x : Nat × va_E) : ct x (rgW c h (va_up R j ρ) n) = ct x (affW c (subA h j) ρ) + ct x (rgX c h R j n) := by
  rw [rg_in c h (va_up R j ρ) hj x, rgX_up, va_up_self]
def lwA (c : Nat → ClassId) (x : Nat) (t p sp a b h g f o : Nat → Nat) (τ π ζ σ β η α φ κ : wRec) (R I : Nat → wRec) (k : Int64) : va_W := lwW x t p sp a b h g f o k ++ textW c t τ ++ pageW c p π ++ pageW c sp ζ ++ affW c a σ ++ affW c b β ++ histW c h η ++ rgW c h R 10 ++ albumW c g α ++ rgW c g I 2 ++ findW c f φ ++ courseW c o κ
theorem lwA_ct (c : Nat → ClassId) (x : Nat) (t p sp a b h g f o : Nat → Nat) (τ π ζ σ β η α φ κ : wRec) (R I : Nat → wRec) (k : Int64) (y : Nat × va_E) : ct y (lwA c x t p sp a b h g f o τ π ζ σ β η α φ κ R I k) = ct y (lwW x t p sp a b h g f o k) + ct y (textW c t τ) + ct y (pageW c p π) + ct y (pageW c sp ζ) + ct y (affW c a σ) + ct y (affW c b β) + ct y (histW c h η) + ct y (rgW c h R 10) + ct y (albumW c g α) + ct y (rgW c g I 2) + ct y (findW c f φ) + ct y (courseW c o κ) := by
  rw [lwA, ct_app, ct_app, ct_app, ct_app, ct_app, ct_app, ct_app, ct_app, ct_app, ct_app, ct_app]
theorem all_kr {τ π σ η α φ : wRec} {R I : Nat → wRec} {k : Int64} {μ : wRec} {r : Int64} (h : allR τ π σ η α φ R I k μ r) {k' r' : Int64} (e : k' = r') : allR τ π σ η α φ R I k' μ r' := ⟨h.1, h.2.1, h.2.2.1, h.2.2.2.1, h.2.2.2.2.1, h.2.2.2.2.2.1, e⟩

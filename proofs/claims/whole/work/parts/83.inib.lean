/-! ===== constructors: rows of my own ===== -/
abbrev wz : wRec := fun _ _ => 0
theorem va_AOA.moved {ty : FieldType} {u U : State} (hvm : u.vm.Alike U.vm) (h : va_AOA ty u) : va_AOA ty U := by
  have e := Cond.arrayOver_setVmC (args := #[]) (s := u) hvm (.array ty)
  have e2 : (Cond.arrayOver (.array ty)).before #[] (u.setVm U.vm) = true := e.trans h
  exact e2
def eOK (E : State → Prop) : Prop := (∀ (U : State) (g : JFrame) (mk : MethodId) (a : Array Value), E U → E (U.calling g mk a)) ∧ ∀ (u U : State), u.WarmedH U.vm → E u → E U
abbrev wk_IniP (D : va_G) (tys : List (ClassId × FieldType)) (av : List Value) (wc : va_W) (sz : Nat) (E : State → Prop) : Array Value → State → Prop := va_Pc av (fun U => U.heap.size = sz ∧ va_P D vwCl wc U.heap ∧ va_K D vwCl tys U ∧ va_D (fun _ => True) wc ∧ E U)
abbrev wk_Ini {S : Type} (l : Launch) (y : MethodName) (wsy : List Cond) (rm : Room) (D : va_G) (tys : List (ClassId × FieldType)) (av : List Value) (wc : va_W) (E : State → Prop) (post : S → Prop) (Wf : S → va_W) (mc ms : Nat) : Prop := ∀ sz : Nat, Met l y wsy rm (wk_IniP D tys av wc sz E) (va_Qv post (fun u t => va_P D vwCl (Wf u) t.heap ∧ va_D (va_A wc sz) (Wf u)) (va_A wc sz)) mc ms (va_A wc sz)
theorem wk_blindI {D : va_G} {tys : List (ClassId × FieldType)} {av : List Value} {wc : va_W} {sz : Nat} {E : State → Prop} (hE : eOK E) : FrameBlind (wk_IniP D tys av wc sz E) := fun a U g mk q => by
  obtain ⟨q0, q1, qP, qK, qD, qE⟩ := q
  exact ⟨q0, q1, qP, va_K.moved (u := U) (U := U.calling g mk a) (Vm.Alike.refl U.vm) qK, qD, hE.1 U g mk a qE⟩
theorem eOK_T : eOK (fun _ => True) := ⟨fun _ _ _ _ _ => trivial, fun _ _ _ _ => trivial⟩
theorem eOK_and {E F : State → Prop} (h1 : eOK E) (h2 : eOK F) : eOK (fun U => E U ∧ F U) := ⟨fun U g mk a q => ⟨h1.1 U g mk a q.1, h2.1 U g mk a q.2⟩, fun u U hW q => ⟨h1.2 u U hW q.1, h2.2 u U hW q.2⟩⟩
theorem eOK_M (a : String) (i : Nat) (x : MethodName) (h : String) : eOK (fun U => va_Nw (.methodLinkNest a i x h) U) := ⟨fun _ _ _ _ q => va_Nw.same rfl rfl q, fun _ _ hW q => va_Nw.warmM hW q⟩
theorem eOK_O (C : String) : eOK (fun U => va_AO C U) := ⟨fun U g mk a q => va_AO.moved (u := U) (U := U.calling g mk a) (Vm.Alike.refl U.vm) q, fun _ _ hW q => va_AO.moved hW.alike q⟩
theorem eOK_A (ty : FieldType) : eOK (fun U => va_AOA ty U) := ⟨fun U g mk a q => va_AOA.moved (u := U) (U := U.calling g mk a) (Vm.Alike.refl U.vm) q, fun _ _ hW q => va_AOA.moved hW.alike q⟩
section WKI
variable {l : Launch} {y : MethodName} {wsy ws' : List Cond} {rm : Room} {D : va_G} {tys : List (ClassId × FieldType)} {av : List Value} {wc : va_W} {cc : ByteArray} {maxL mc ms : Nat} {E : State → Prop}
theorem wk_mkI {S : Type} {post : S → Prop} {Wf : S → va_W} (hy : plainName y.cls = true) (hyn : y.name = "<init>") (hw : wsy = Cond.code y cc maxL none :: ws') (hsl : (lg_sl av).length ≤ maxL)
    (body : ∀ (A : Nat → Prop) (pr : Program) (e : Env) (s : State) (m : MethodId) (args : Array Value) (below : List Frame) (meth : Method) (cd : Code) (ls : Array Slot) (Q : State → Prop), wk_St pr s m args meth cd cc maxL y wsy → meth.name = "<init>" → E s → va_P D vwCl wc s.heap → va_K D vwCl tys s → va_D A wc → va_S A s.heap s.heap [] → (∀ q : Nat, s.heap.size ≤ q → A q) → lv_has ls maxL (lv_args 0 av) →
      (∀ (pc : Nat) (ls : Array Slot) (H : Heap) (locs : List Loc) (u : S), post u → va_P D vwCl (Wf u) H → va_D A (Wf u) → va_S A s.heap H locs → decode cc pc = .ok (.return_, 1) → W pr l e rm s m args below meth cd H locs mc ms Q (F0 m pc ls [])) →
      W pr l e rm s m args below meth cd s.heap [] 0 0 Q (F0 m 0 ls [])) : wk_Ini l y wsy rm D tys av wc E post Wf mc ms := by
  intro sz
  refine Met.ofW (cc := cc) (maxL := maxL) (ret := none) hy hw ?_
  intro pr e s m args below meth cd s₁ B hml hv
  obtain ⟨rfl, hsz, hP, hK, hD0, hE⟩ := hv
  subst hsz
  have hl := lv_entry av (n := maxL) hsl
  rw [lg_entry_eq]
  refine body (va_A wc s.heap.size) pr e s m av.toArray below meth cd _ _ ⟨B.exec, B.bytes, hml, findClass_of_methodNamed B.named, atoms_spec (ws := wsy) B.pre, (name_of_methodNamed B.named B.method).1⟩ ((name_of_methodNamed B.named B.method).1.trans hyn) hE hP hK hD0.self va_S.rf (fun q h => Or.inr h) hl ?_
  intro pc ls H locs u hu hP hD hS hdg
  exact W.vret B.exec B.bytes B.returns (fun t ht hW => ⟨⟨u, rfl, hu, by rw [ht]; exact hP, hD⟩, hS.F ht⟩) hS.2.2 hdg B.notSynchronized
end WKI
theorem wk_rng (wr : va_W) (x : Nat × va_E) : (List.range wr.length).map (fun i => (wr ++ [x])[i]?) = wr.map some := by
  apply List.ext_getElem?
  intro i
  rw [List.getElem?_map, List.getElem?_map]
  by_cases h : i < wr.length
  · rw [List.getElem?_range h]
    show some ((wr ++ [x])[i]?) = Option.map some wr[i]?
    rw [List.getElem?_append_left h, List.getElem?_eq_getElem h]
    rfl
  · rw [List.getElem?_eq_none (by rw [List.length_range]; omega), List.getElem?_eq_none (by omega)]
    rfl
theorem wk_ndr : ∀ l : List Nat, l.Nodup → va_nd l = true
  | [], _ => rfl
  | a :: l, h => by
    rw [List.nodup_cons] at h
    simp only [va_nd, Bool.and_eq_true, decide_eq_true_eq]
    exact ⟨h.1, wk_ndr l h.2⟩
theorem wk_lastC (wr : va_W) (x : Nat × va_E) : [wr.length].map (fun i => (wr ++ [x])[i]?) = [x].map some := by
  show [(wr ++ [x])[wr.length]?] = [some x]
  rw [List.getElem?_append_right (Nat.le_refl _), Nat.sub_self]
  rfl
section WKJ
variable {p : Program} {l : Launch} {e : Env} {R : Room} {s : State} {m : MethodId} {args : Array Value} {below : List Frame} {meth : Method} {c : Code} {H : Heap} {locs : List Loc} {cells slots : Nat} {Q : State → Prop}
variable {cc bytes : ByteArray} {pc : Nat} {ls : Array Slot} {rest st0 As : List Value} {D : va_G} {A : Nat → Prop} {tys : List (ClassId × FieldType)} {wr : va_W} {H0 : Heap}
variable {y : MethodName} {nL maxL mc ms index b : Nat} {wsy Ts : List Cond} {rm : Room} {own host : String} {e0 : va_E} {E : State → Prop}
theorem wk_goI {S : Type} {post : S → Prop} {Wf : S → va_W} (hr : va_Run p l e R s m args below meth c H locs cells slots mc ms (F0 m pc ls st0) rest ((va_Qv post (fun u t => va_P D vwCl (Wf u) t.heap ∧ va_D (va_A [(b, e0)] H.size) (Wf u)) (va_A [(b, e0)] H.size)) (Value.ref b :: As).toArray) (va_A [(b, e0)] H.size)) (hP : va_P D vwCl (wr ++ [(b, e0)]) H) (hD : va_D A (wr ++ [(b, e0)])) (hS : va_S A H0 H locs) (hA : ∀ q : Nat, H0.size ≤ q → A q)
    (kk : ∀ (u : S) (H1 : Heap) (locs1 : List Loc), post u → va_P D vwCl (wr ++ Wf u) H1 → va_D A (wr ++ Wf u) → va_S A H0 H1 locs1 → W p l e R s m args below meth c H1 locs1 (cells + mc) (slots + ms) Q (F0 m (pc + 3) ls rest)) : W p l e R s m args below meth c H locs cells slots Q (F0 m pc ls st0) := by
  have hFc := va_free (wc := [(b, e0)]) hD hS hA [wr.length] (wk_lastC wr (b, e0))
  refine va_callv hr hS (fun q _ h => hFc q h) hFc (fun u t H1 locs1 ht hvm hw hB hz1 hk1 hS1 => ?_)
  obtain ⟨hP1, hD1⟩ := hB
  rw [ht] at hP1
  obtain ⟨hP2, hD2⟩ := va_join (wr := wr) (w1 := Wf u) hP hD [wr.length] (List.range wr.length) (wk_lastC wr (b, e0)) (wk_rng wr (b, e0)) (wk_ndr _ List.nodup_range) (fun i hi h => by
    have h1 := List.mem_range.mp hi
    have h2 := List.mem_singleton.mp h
    omega) hk1 hFc hP1 hD1
  exact kk u H1 locs1 hw hP2 hD2 hS1
theorem wk_callI {S : Type} {post : S → Prop} {Wf : S → va_W} (C : CallFix p m c cc nL s args Ts own) (hM : wk_Ini l y wsy rm D tys [.ref b] [(b, e0)] E post Wf mc ms) (cw : CallB R s args own index y bytes maxL none wsy rm mc ms 0 ∧ y.name = "<init>" ∧ (Cond.instanceMethod y).before args s = true) (hEk : eOK E) (hE : E s) (hK : va_K D vwCl tys s) (hP : va_P D vwCl (wr ++ [(b, e0)]) H) (hD : va_D A (wr ++ [(b, e0)])) (hS : va_S A H0 H locs) (hA : ∀ q : Nat, H0.size ≤ q → A q)
    (hsize : ls.size = nL) (hW : (rest.map fun v => v.category).sum ≤ 8) (hdg : decode cc pc = .ok (.invokespecial index, 3)) (hf : cells + mc ≤ R.cells ∧ slots + ms ≤ R.slots)
    (kk : ∀ (u : S) (H1 : Heap) (locs1 : List Loc), post u → va_P D vwCl (wr ++ Wf u) H1 → va_D A (wr ++ Wf u) → va_S A H0 H1 locs1 → W p l e R s m args below meth c H1 locs1 (cells + mc) (slots + ms) Q (F0 m (pc + 3) ls rest)) : W p l e R s m args below meth c H locs cells slots Q (F0 m pc ls (.ref b :: rest)) := by
  have hDc := hD.sub (ws' := [(b, e0)]) [wr.length] (by rfl) (wk_lastC wr (b, e0))
  have hPc : va_P D vwCl [(b, e0)] H := fun k q hq => by
    obtain ⟨i, -, h2⟩ := wk_map_at' (wk_lastC wr (b, e0)) hq
    exact hP i q h2
  exact wk_goI (As := []) (va_runI (As := []) (rest := rest) C (hM H.size) cw ⟨wk_blindI hEk, fun U hU hW => ⟨rfl, by rw [hU], by rw [hU]; exact hPc, va_K.moved hW.alike hK, hDc.weaken (fun _ _ _ _ => trivial), hEk.2 s U hW hE⟩⟩ rfl rfl hsize rfl (lv_room hW) hdg hf) hP hD hS hA kk
theorem wk_callIN {S : Type} {post : S → Prop} {Wf : S → va_W} (C : CallFix p m c cc nL s args Ts own) (hM : wk_Ini l y wsy rm D tys [.ref b] [(b, e0)] E post Wf mc ms) (cw : va_CN R s args own index y host bytes maxL none wsy rm mc ms 0 ∧ y.name = "<init>" ∧ (Cond.instanceMethod y).before args s = true) (hEk : eOK E) (hE : E s) (hK : va_K D vwCl tys s) (hP : va_P D vwCl (wr ++ [(b, e0)]) H) (hD : va_D A (wr ++ [(b, e0)])) (hS : va_S A H0 H locs) (hA : ∀ q : Nat, H0.size ≤ q → A q)
    (hsize : ls.size = nL) (hW : (rest.map fun v => v.category).sum ≤ 8) (hdg : decode cc pc = .ok (.invokespecial index, 3)) (hf : cells + mc ≤ R.cells ∧ slots + ms ≤ R.slots)
    (kk : ∀ (u : S) (H1 : Heap) (locs1 : List Loc), post u → va_P D vwCl (wr ++ Wf u) H1 → va_D A (wr ++ Wf u) → va_S A H0 H1 locs1 → W p l e R s m args below meth c H1 locs1 (cells + mc) (slots + ms) Q (F0 m (pc + 3) ls rest)) : W p l e R s m args below meth c H locs cells slots Q (F0 m pc ls (.ref b :: rest)) := by
  have hDc := hD.sub (ws' := [(b, e0)]) [wr.length] (by rfl) (wk_lastC wr (b, e0))
  have hPc : va_P D vwCl [(b, e0)] H := fun k q hq => by
    obtain ⟨i, -, h2⟩ := wk_map_at' (wk_lastC wr (b, e0)) hq
    exact hP i q h2
  exact wk_goI (As := []) (va_runIN (As := []) (rest := rest) C (hM H.size) cw ⟨wk_blindI hEk, fun U hU hW => ⟨rfl, by rw [hU], by rw [hU]; exact hPc, va_K.moved hW.alike hK, hDc.weaken (fun _ _ _ _ => trivial), hEk.2 s U hW hE⟩⟩ rfl rfl hsize rfl (lv_room hW) hdg hf) hP hD hS hA kk
theorem wk_newa {cl : Nat → ClassId} {ws : va_W} (hexec : p.tables.exec = Jvm.exec) (hb : c.code = cc) (harr : (Cond.arrayClass .int).before args s = true) (hK : va_K D vwCl (tysL cl) s) (hP : va_P D vwCl ws H) (hD : va_D A ws) (hS : va_S A H0 H locs) (hA : ∀ q : Nat, H0.size ≤ q → A q) (N' : Nat) (hN : N' < 1000) {n : Int32} (hn : n = nI N') (hcells : cells + 1 ≤ R.cells) (hslots : slots + N' ≤ R.slots) (hdg : decode cc pc = .ok (.newarray .int, 2))
    (kk : ∀ (q : Nat) (H1 : Heap), va_P D vwCl (ws ++ [(q, .inl (cl 0, N', .inl (fun _ => 0)))]) H1 → va_D A (ws ++ [(q, .inl (cl 0, N', .inl (fun _ => 0)))]) → va_S A H0 H1 locs → W p l e R s m args below meth c H1 locs (cells + 1) (slots + N') Q (F0 m (pc + 2) ls (.ref q :: rest))) : W p l e R s m args below meth c H locs cells slots Q (F0 m pc ls (.int n :: rest)) := by
  subst hn
  refine va_newa (atype := .int) hexec hb harr (ty := .int) rfl hK hP hD hS hA (a0 := (N', .inl (fun _ => 0))) (fun cA => by rw [vp_cell_i]; rfl) (nI_pos (by omega)) (nI_cl hN) (by show N' * 4 ≤ _; omega) hcells hslots hdg (fun q cA H1 hK1 hP1 hD1 hS1 => ?_)
  have h1 : s.vm.findClass ("[" ++ FieldType.int.toString) = some cA := (hK1.2 3 (cA, .int) rfl).2
  have h0 : s.vm.findClass ("[" ++ FieldType.int.toString) = some (cl 0) := (hK.2 0 (cl 0, .int) rfl).2
  have e : cA = cl 0 := Option.some.inj (h1.symm.trans h0)
  subst e
  exact kk q H1 hP1 hD1 hS1
theorem wk_newq {cl : Nat → ClassId} {ws : va_W} (hexec : p.tables.exec = Jvm.exec) (hb : c.code = cc) (hown : s.vm.findClass own = some m.cls) (hclink : (Cond.classLink own index RX0).before args s = true) (hover : va_AO RX0 s) (hK : va_K D vwCl (tysL cl) s) (hP : va_P D vwCl ws H) (hD : va_D A ws) (hS : va_S A H0 H locs) (hA : ∀ q : Nat, H0.size ≤ q → A q) (N' : Nat) (hN : N' < 1000) {n : Int32} (hn : n = nI N') (hcells : cells + 1 ≤ R.cells) (hslots : slots + N' ≤ R.slots) (hdg : decode cc pc = .ok (.anewarray index, 3))
    (kk : ∀ (q : Nat) (H1 : Heap), va_P D vwCl (ws ++ [(q, .inl (cl 1, N', .inr (.inr (.inr (.inr (fun _ => none))))))]) H1 → va_D A (ws ++ [(q, .inl (cl 1, N', .inr (.inr (.inr (.inr (fun _ => none))))))]) → va_S A H0 H1 locs → W p l e R s m args below meth c H1 locs (cells + 1) (slots + N') Q (F0 m (pc + 3) ls (.ref q :: rest))) : W p l e R s m args below meth c H locs cells slots Q (F0 m pc ls (.int n :: rest)) := by
  subst hn
  refine va_newq (C := RX0) hexec hb hown hclink hover hK hP hD hS hA (nI_pos (by omega)) (nI_cl hN) (by omega) hcells hslots hdg (fun q cA H1 hK1 hP1 hD1 hS1 => ?_)
  obtain ⟨k1, c1, -, -, -, h1⟩ : ∃ (kA : Class) (comp : ClassId), s.vm.classes[cA]? = some kA ∧ kA.kind = .array comp (.object RX0) ∧ s.vm.findClass RX0 = some comp ∧ s.vm.findClass ("[" ++ (FieldType.object RX0).toString) = some cA := (hK1.2 3 (cA, .object RX0) rfl).2
  obtain ⟨k0, c0, -, -, -, h0⟩ : ∃ (kA : Class) (comp : ClassId), s.vm.classes[cl 1]? = some kA ∧ kA.kind = .array comp (.object RX0) ∧ s.vm.findClass RX0 = some comp ∧ s.vm.findClass ("[" ++ (FieldType.object RX0).toString) = some (cl 1) := (hK.2 1 (cl 1, .object RX0) rfl).2
  have e : cA = cl 1 := Option.some.inj (h1.symm.trans h0)
  subst e
  exact kk q H1 hP1 hD1 hS1
end WKJ
theorem wk_qext {D : va_G} {cl : List vw_C} {a : Nat} {cA : ClassId} {n : Nat} {f g : Nat → Option Nat} {H : Heap} (h : ∀ j, j < n → f j = g j) (hp : va_at D cl (a, .inl (cA, n, .inr (.inr (.inr (.inr f))))) H) : va_at D cl (a, .inl (cA, n, .inr (.inr (.inr (.inr g))))) H := by
  have e : vp_cell cA (n, .inr (.inr (.inr (.inr f)))) = vp_cell cA (n, .inr (.inr (.inr (.inr g)))) := by
    rw [vp_cell_q, vp_cell_q, arrV, arrV]
    congr 2
    funext j
    rw [h j.val j.isLt]
  show H[a]? = some (vp_cell cA (n, .inr (.inr (.inr (.inr g)))))
  rw [← e]
  exact hp
theorem wk_Pm {D : va_G} {cl : List vw_C} {ws : va_W} {H : Heap} : va_P D cl ws H ↔ ∀ x, x ∈ ws → va_at D cl x H := by
  constructor
  · intro h x hx
    obtain ⟨k, hk⟩ := List.getElem?_of_mem hx
    exact h k x hk
  · intro h k x hx
    exact h x (List.mem_of_getElem? hx)
theorem wk_Pmid {D : va_G} {cl : List vw_C} {X Y : va_W} {x1 x2 : Nat × va_E} {H : Heap} (h : va_at D cl x1 H → va_at D cl x2 H) (hP : va_P D cl (X ++ [x1] ++ Y) H) : va_P D cl (X ++ [x2] ++ Y) H := by
  rw [wk_Pm] at hP ⊢
  intro x hx
  rcases List.mem_append.mp hx with hx | hx
  · rcases List.mem_append.mp hx with hx | hx
    · exact hP x (List.mem_append_left _ (List.mem_append_left _ hx))
    · rw [List.mem_singleton.mp hx]
      exact h (hP x1 (List.mem_append_left _ (List.mem_append_right _ (List.mem_singleton.mpr rfl))))
  · exact hP x (List.mem_append_right _ hx)
theorem wk_Dmid {A : Nat → Prop} {X Y : va_W} {a : Nat} {e1 e2 : va_E} (hD : va_D A (X ++ [(a, e1)] ++ Y)) : va_D A (X ++ [(a, e2)] ++ Y) := by
  refine wk_D_fst ?_ hD
  rw [List.map_append, List.map_append, List.map_append, List.map_append]
  rfl
section WKM
variable {p : Program} {l : Launch} {e : Env} {R : Room} {s : State} {m : MethodId} {args : Array Value} {below : List Frame} {meth : Method} {c : Code} {H : Heap} {locs : List Loc} {cells slots : Nat} {Q : State → Prop}
variable {cc : ByteArray} {pc : Nat} {ls : Array Slot} {rest : List Value} {D : va_G} {A : Nat → Prop} {H0 : Heap} {own : String} {index : Nat}
theorem wk_mna {cl : Nat → ClassId} {X : va_W} (hexec : p.tables.exec = Jvm.exec) (hb : c.code = cc) (hown : s.vm.findClass own = some m.cls) (hclink : (Cond.classLink own index ("[" ++ (FieldType.array .int).toString)).before args s = true) (hover : va_AOA .int s) (harr : (Cond.arrayClass .int).before args s = true) (hK : va_K D vwCl (tysL cl) s) (hP : va_P D vwCl X H) (hD : va_D A X) (hS : va_S A H0 H locs) (hA : ∀ q : Nat, H0.size ≤ q → A q) (hcells : cells + 7 ≤ R.cells) (hslots : slots + 36 ≤ R.slots) (hdg : decode cc pc = .ok (.multianewarray index 2, 4))
    (kk : ∀ (q : Nat) (r : Nat → Nat) (H1 : Heap), va_P D vwCl (X ++ [(q, .inl (cl 2, 6, .inr (.inr (.inr (.inr (fun i => some (r i)))))))] ++ [(r 0, .inl (cl 0, 5, .inl (fun _ => 0))), (r 1, .inl (cl 0, 5, .inl (fun _ => 0))), (r 2, .inl (cl 0, 5, .inl (fun _ => 0))), (r 3, .inl (cl 0, 5, .inl (fun _ => 0))), (r 4, .inl (cl 0, 5, .inl (fun _ => 0))), (r 5, .inl (cl 0, 5, .inl (fun _ => 0)))]) H1 → va_D A (X ++ [(q, .inl (cl 2, 6, .inr (.inr (.inr (.inr (fun i => some (r i)))))))] ++ [(r 0, .inl (cl 0, 5, .inl (fun _ => 0))), (r 1, .inl (cl 0, 5, .inl (fun _ => 0))), (r 2, .inl (cl 0, 5, .inl (fun _ => 0))), (r 3, .inl (cl 0, 5, .inl (fun _ => 0))), (r 4, .inl (cl 0, 5, .inl (fun _ => 0))), (r 5, .inl (cl 0, 5, .inl (fun _ => 0)))]) → va_S A H0 H1 locs →
      W p l e R s m args below meth c H1 locs (cells + 7) (slots + 36) Q (F0 m (pc + 4) ls (.ref q :: rest))) : W p l e R s m args below meth c H locs cells slots Q (F0 m pc ls (.int 5 :: .int 6 :: rest)) := by
  have hcy : s.vm.findClass (FieldType.array .int).toString = some (cl 0) := (hK.2 0 (cl 0, .int) rfl).2
  have hP0 : va_P D vwCl (X ++ va_pl [] (fun _ => .inl (cl 0, 0, .inl (fun _ => 0)))) H := by
    show va_P D vwCl (X ++ []) H
    rw [List.append_nil]
    exact hP
  have hD0 : va_D A (X ++ va_pl [] (fun _ => .inl (cl 0, 0, .inl (fun _ => 0)))) := by
    show va_D A (X ++ [])
    rw [List.append_nil]
    exact hD
  refine va_mna (X := X) (L := []) (f := fun _ => .inl (cl 0, 0, .inl (fun _ => 0))) (ty := .int) (cy := cl 0) (N' := 6) (K' := 5) (z := (5, .inl (fun _ => 0))) hexec hb hown hclink hover harr hcy hK hP0 hD0 hS hA (by decide) (by decide) (by decide) (by decide) (by decide) (by decide) (by decide) rfl rfl hcells hslots (fun cA => by rw [vp_cell_i]; exact arrV_new cA 5 (.int 0)) hdg (fun q r cA H1 hinj hnl hK1 hP1 hD1 hS1 => ?_)
  have h1 : s.vm.findClass ("[" ++ (FieldType.array .int).toString) = some cA := (hK1.2 3 (cA, .array .int) rfl).2
  have h0 : s.vm.findClass ("[" ++ (FieldType.array .int).toString) = some (cl 2) := (hK.2 2 (cl 2, .array .int) rfl).2
  have e : cA = cl 2 := Option.some.inj (h1.symm.trans h0)
  subst e
  rw [← vr_rows (fun a _ h => by cases h)] at hP1 hD1
  have hP2 : va_P D vwCl (X ++ [(q, .inl (cl 2, 6, .inr (.inr (.inr (.inr (fun i => if i < 6 then some (r i) else none))))))] ++ [(r 0, .inl (cl 0, 5, .inl (fun _ => 0))), (r 1, .inl (cl 0, 5, .inl (fun _ => 0))), (r 2, .inl (cl 0, 5, .inl (fun _ => 0))), (r 3, .inl (cl 0, 5, .inl (fun _ => 0))), (r 4, .inl (cl 0, 5, .inl (fun _ => 0))), (r 5, .inl (cl 0, 5, .inl (fun _ => 0)))]) H1 := hP1
  have hD2 : va_D A (X ++ [(q, .inl (cl 2, 6, .inr (.inr (.inr (.inr (fun i => if i < 6 then some (r i) else none))))))] ++ [(r 0, .inl (cl 0, 5, .inl (fun _ => 0))), (r 1, .inl (cl 0, 5, .inl (fun _ => 0))), (r 2, .inl (cl 0, 5, .inl (fun _ => 0))), (r 3, .inl (cl 0, 5, .inl (fun _ => 0))), (r 4, .inl (cl 0, 5, .inl (fun _ => 0))), (r 5, .inl (cl 0, 5, .inl (fun _ => 0)))]) := hD1
  exact kk q r H1 (wk_Pmid (wk_qext (fun j hj => if_pos hj)) hP2) (wk_Dmid hD2) hS1
end WKM

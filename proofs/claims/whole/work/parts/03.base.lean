/-! ===== base: rows of my own over the kit's: indices as naturals, booleans as conditions, contracts of readers and of writers in place ===== -/
theorem wk_map_at {is : List Nat} {ws w : va_W} (hs : is.map (fun i => ws[i]?) = w.map some) {k i : Nat} (h : is[k]? = some i) : ∃ q, w[k]? = some q ∧ ws[i]? = some q := by
  have h1 : (is.map (fun i => ws[i]?))[k]? = some ws[i]? := by rw [List.getElem?_map, h]; rfl
  rw [hs, List.getElem?_map] at h1
  cases hq : w[k]? with
  | none => rw [hq] at h1; cases h1
  | some q => rw [hq] at h1; exact ⟨q, rfl, (Option.some.inj h1).symm⟩
theorem wk_map_at' {is : List Nat} {ws w : va_W} (hs : is.map (fun i => ws[i]?) = w.map some) {k : Nat} {q : Nat × va_E} (h : w[k]? = some q) : ∃ i, is[k]? = some i ∧ ws[i]? = some q := by
  have h1 : (is.map (fun i => ws[i]?))[k]? = some (some q) := by rw [hs, List.getElem?_map, h]; rfl
  rw [List.getElem?_map] at h1
  cases hi : is[k]? with
  | none => rw [hi] at h1; cases h1
  | some i => rw [hi] at h1; exact ⟨i, rfl, Option.some.inj h1⟩
theorem wk_fst_at {w w1 : va_W} (hf : w1.map (fun q => q.1) = w.map (fun q => q.1)) {k : Nat} {q : Nat × va_E} (h : w1[k]? = some q) : ∃ q0, w[k]? = some q0 ∧ q0.1 = q.1 := by
  have h1 : (w1.map (fun q => q.1))[k]? = some q.1 := by rw [List.getElem?_map, h]; rfl
  rw [hf, List.getElem?_map] at h1
  cases hq : w[k]? with
  | none => rw [hq] at h1; cases h1
  | some q0 => rw [hq] at h1; exact ⟨q0, rfl, Option.some.inj h1⟩
/-- addresses alone decide that cells are apart -/
theorem wk_D_fst {A : Nat → Prop} {w w1 : va_W} (hf : w1.map (fun q => q.1) = w.map (fun q => q.1)) (hD : va_D A w) : va_D A w1 := by
  refine ⟨fun i j x y hi hj hxy => ?_, fun k q hk => ?_⟩
  · obtain ⟨x0, h1, h2⟩ := wk_fst_at hf hi
    obtain ⟨y0, h3, h4⟩ := wk_fst_at hf hj
    exact hD.1 i j x0 y0 h1 h3 (h2.trans (hxy.trans h4.symm))
  · obtain ⟨q0, h1, h2⟩ := wk_fst_at hf hk
    rw [← h2]
    exact hD.2 k q0 h1
def wk_nd : List Nat → Bool
  | [] => true
  | a :: l => !(l.contains a) && wk_nd l
def wk_cov (n : Nat) (isC isR : List Nat) : Bool := (List.range n).all (fun k => isC.contains k || isR.contains k) && isR.all (fun k => !(isC.contains k))
theorem wk_nd_va : ∀ l : List Nat, wk_nd l = true → va_nd l = true
  | [], _ => rfl
  | a :: l, h => by
    simp only [wk_nd, Bool.and_eq_true, Bool.not_eq_true', List.contains_eq_mem, decide_eq_false_iff_not] at h
    simp only [va_nd, Bool.and_eq_true, decide_eq_true_eq]
    exact ⟨h.1, wk_nd_va l h.2⟩
theorem wk_D_ad {A : Nat → Prop} {w w1 : va_W} (hD : va_D A w) (ads : List Nat) (h0 : w.map (fun q => q.1) = ads) (h1 : w1.map (fun q => q.1) = ads) : va_D A w1 := wk_D_fst (h1.trans h0.symm) hD
/-- behind a call: the callee's cells in their places, the others as they were -/
theorem wk_join {A0 : Nat → Prop} {D : va_G} {cl : List vw_C} {ws ws' wc w1 : va_W} {H H1 : Heap} (hP : va_P D cl ws H) (hD : va_D A0 ws) (isC isR : List Nat) (n : Nat) (hC : isC.map (fun i => ws[i]?) = wc.map some) (hf : w1.map (fun q => q.1) = wc.map (fun q => q.1)) (h1 : isC.map (fun i => ws'[i]?) = w1.map some) (h2 : isR.map (fun i => ws'[i]?) = isR.map (fun i => ws[i]?)) (h3 : ws'.length = n) (h4 : wk_cov n isC isR = true)
    (hk : ∀ q : Nat, q < H.size → ¬ va_A wc H.size q → H1[q]? = H[q]?) (hP1 : va_P D cl w1 H1) : va_P D cl ws' H1 ∧ va_D A0 ws' := by
  simp only [wk_cov, Bool.and_eq_true, List.all_eq_true, List.mem_range, Bool.or_eq_true, List.contains_eq_mem, decide_eq_true_eq, Bool.not_eq_true', decide_eq_false_iff_not] at h4
  have key : ∀ (k : Nat) (q : Nat × va_E), ws'[k]? = some q → (∃ j : Nat, isC[j]? = some k ∧ w1[j]? = some q) ∨ (k ∉ isC ∧ ws[k]? = some q) := by
    intro k q hq
    rcases h4.1 k (by rw [← h3]; exact (List.getElem?_eq_some_iff.mp hq).1) with h | h
    · obtain ⟨j, hj⟩ := List.getElem?_of_mem h
      obtain ⟨q1, e1, e2⟩ := wk_map_at h1 hj
      rw [hq] at e2
      cases e2
      exact Or.inl ⟨j, hj, e1⟩
    · obtain ⟨j, hj⟩ := List.getElem?_of_mem h
      have e1 : (isR.map (fun i => ws'[i]?))[j]? = some ws'[k]? := by rw [List.getElem?_map, hj]; rfl
      rw [h2, List.getElem?_map, hj] at e1
      exact Or.inr ⟨h4.2 k h, by rw [← hq]; exact Option.some.inj e1⟩
  have old : ∀ (k : Nat) (q : Nat × va_E), ws'[k]? = some q → ∃ q0, ws[k]? = some q0 ∧ q0.1 = q.1 := fun k q hq => by
    rcases key k q hq with ⟨j, h1, h2⟩ | ⟨-, h2⟩
    · obtain ⟨q1, h3, h4⟩ := wk_map_at hC h1
      obtain ⟨q0, h5, h6⟩ := wk_fst_at hf h2
      rw [h3] at h5
      cases h5
      exact ⟨q1, h4, h6⟩
    · exact ⟨q, h2, rfl⟩
  refine ⟨fun k q hq => ?_, fun i j x y hi hj hxy => ?_, fun k q hq => ?_⟩
  · rcases key k q hq with ⟨j, -, h2⟩ | ⟨h1, h2⟩
    · exact hP1 j q h2
    · have hlt := (hP k q h2).lt
      refine (hP k q h2).kept (hk q.1 hlt (fun h => ?_))
      rcases h with ⟨j, e, h⟩ | h
      · obtain ⟨i, h3, h4⟩ := wk_map_at' hC h
        have := hD.1 k i q (q.1, e) h2 h4 rfl
        subst this
        exact h1 (List.mem_of_getElem? h3)
      · omega
  · obtain ⟨x0, h1, h2⟩ := old i x hi
    obtain ⟨y0, h3, h4⟩ := old j y hj
    exact hD.1 i j x0 y0 h1 h3 (h2.trans (hxy.trans h4.symm))
  · obtain ⟨q0, h1, h2⟩ := old k q hq
    rw [← h2]
    exact hD.2 k q0 h1
/-- what readers and writers promise -/
abbrev wk_RdP (D : va_G) (tys : List (ClassId × FieldType)) (av : List Value) (wc : va_W) : Array Value → State → Prop := va_Pc av (fun U => va_P D vwCl wc U.heap ∧ va_K D vwCl tys U)
abbrev wk_RdI (l : Launch) (y : MethodName) (wsy : List Cond) (rm : Room) (D : va_G) (tys : List (ClassId × FieldType)) (av : List Value) (wc : va_W) (v : Int32) : Prop := Met l y wsy rm (wk_RdP D tys av wc) (vp_Si (fun r => r = v)) 0 0 (fun _ => False)
abbrev wk_RdL (l : Launch) (y : MethodName) (wsy : List Cond) (rm : Room) (D : va_G) (tys : List (ClassId × FieldType)) (av : List Value) (wc : va_W) (v : Int64) : Prop := Met l y wsy rm (wk_RdP D tys av wc) (vp_Sl (fun r => r = v)) 0 0 (fun _ => False)
abbrev wk_UpP (D : va_G) (tys : List (ClassId × FieldType)) (av : List Value) (wc : va_W) (sz : Nat) : Array Value → State → Prop := va_Pc av (fun U => U.heap.size = sz ∧ va_P D vwCl wc U.heap ∧ va_K D vwCl tys U ∧ va_D (fun _ => True) wc)
abbrev wk_UpI (l : Launch) (y : MethodName) (wsy : List Cond) (rm : Room) (D : va_G) (tys : List (ClassId × FieldType)) (av : List Value) (wc wc' : va_W) (v : Int32) : Prop := ∀ sz : Nat, Met l y wsy rm (wk_UpP D tys av wc sz) (va_Qi (fun r (_ : Unit) => r = v) (fun _ t => va_P D vwCl wc' t.heap) (va_A wc sz)) 0 0 (va_A wc sz)
abbrev wk_UpV (l : Launch) (y : MethodName) (wsy : List Cond) (rm : Room) (D : va_G) (tys : List (ClassId × FieldType)) (av : List Value) (wc wc' : va_W) : Prop := ∀ sz : Nat, Met l y wsy rm (wk_UpP D tys av wc sz) (va_Qv (fun (_ : Unit) => True) (fun _ t => va_P D vwCl wc' t.heap) (va_A wc sz)) 0 0 (va_A wc sz)
theorem wk_blindR {D : va_G} {tys : List (ClassId × FieldType)} {av : List Value} {wc : va_W} : FrameBlind (wk_RdP D tys av wc) := fun a U g mk q => by
  obtain ⟨q0, qP, qK⟩ := q
  exact ⟨q0, qP, va_K.moved (u := U) (U := U.calling g mk a) (Vm.Alike.refl U.vm) qK⟩
theorem wk_blindU {D : va_G} {tys : List (ClassId × FieldType)} {av : List Value} {wc : va_W} {sz : Nat} : FrameBlind (wk_UpP D tys av wc sz) := fun a U g mk q => by
  obtain ⟨q0, q1, qP, qK, qD⟩ := q
  exact ⟨q0, q1, qP, va_K.moved (u := U) (U := U.calling g mk a) (Vm.Alike.refl U.vm) qK, qD⟩
/-- what a method's body starts from -/
def wk_St (pr : Program) (s : State) (m : MethodId) (args : Array Value) (meth : Method) (cd : Code) (cc : ByteArray) (maxL : Nat) (y : MethodName) (wsy : List Cond) : Prop :=
  pr.tables.exec = Jvm.exec ∧ cd.code = cc ∧ cd.maxLocals = maxL ∧ s.vm.findClass y.cls = some m.cls ∧ (∀ w ∈ wsy, w.before args s = true) ∧ meth.name = y.name
section WKE
variable {l : Launch} {y : MethodName} {wsy ws' : List Cond} {rm : Room} {D : va_G} {tys : List (ClassId × FieldType)} {av : List Value} {wc wc' : va_W} {cc : ByteArray} {maxL : Nat} {ret : Option FieldType}
theorem wk_enterR {Qc : Array Value → State → Outcome → State → Prop} (hy : plainName y.cls = true) (hw : wsy = Cond.code y cc maxL ret :: ws') (hsl : (lg_sl av).length ≤ maxL)
    (body : ∀ (pr : Program) (e : Env) (s : State) (m : MethodId) (below : List Frame) (meth : Method) (cd : Code) (ls : Array Slot), wk_St pr s m av.toArray meth cd cc maxL y wsy → meth.sig.returnType = ret → meth.locks = false → va_P D vwCl wc s.heap → va_K D vwCl tys s → lv_has ls maxL (lv_args 0 av) →
      W pr l e rm s m av.toArray below meth cd s.heap [] 0 0 (MQ below Qc av.toArray s 0 0 (fun _ => False)) (F0 m 0 ls [])) :
    Met l y wsy rm (wk_RdP D tys av wc) Qc 0 0 (fun _ => False) := by
  refine Met.ofW (cc := cc) (maxL := maxL) (ret := ret) hy hw ?_
  intro pr e s m args below meth cd s₁ B hml hv
  obtain ⟨rfl, hP, hK⟩ := hv
  have hl := lv_entry av (n := maxL) hsl
  rw [lg_entry_eq]
  exact body pr e s m below meth cd _ ⟨B.exec, B.bytes, hml, findClass_of_methodNamed B.named, atoms_spec (ws := wsy) B.pre, (name_of_methodNamed B.named B.method).1⟩ B.returns B.notSynchronized hP hK hl
theorem wk_enterU {sz : Nat} {Qc : (Nat → Prop) → Array Value → State → Outcome → State → Prop} (hy : plainName y.cls = true) (hw : wsy = Cond.code y cc maxL ret :: ws') (hsl : (lg_sl av).length ≤ maxL)
    (body : ∀ (A : Nat → Prop) (pr : Program) (e : Env) (s : State) (m : MethodId) (below : List Frame) (meth : Method) (cd : Code) (ls : Array Slot), wk_St pr s m av.toArray meth cd cc maxL y wsy → meth.sig.returnType = ret → meth.locks = false → va_P D vwCl wc s.heap → va_K D vwCl tys s → va_D A wc → va_S A s.heap s.heap [] → (∀ q : Nat, s.heap.size ≤ q → A q) → lv_has ls maxL (lv_args 0 av) →
      W pr l e rm s m av.toArray below meth cd s.heap [] 0 0 (MQ below (Qc A) av.toArray s 0 0 A) (F0 m 0 ls [])) :
    Met l y wsy rm (wk_UpP D tys av wc sz) (Qc (va_A wc sz)) 0 0 (va_A wc sz) := by
  refine Met.ofW (cc := cc) (maxL := maxL) (ret := ret) hy hw ?_
  intro pr e s m args below meth cd s₁ B hml hv
  obtain ⟨rfl, hsz, hP, hK, hD0⟩ := hv
  subst hsz
  have hl := lv_entry av (n := maxL) hsl
  rw [lg_entry_eq]
  exact body _ pr e s m below meth cd _ ⟨B.exec, B.bytes, hml, findClass_of_methodNamed B.named, atoms_spec (ws := wsy) B.pre, (name_of_methodNamed B.named B.method).1⟩ B.returns B.notSynchronized hP hK hD0.self va_S.rf (fun q h => Or.inr h) hl
/-- a reader of an int (or a boolean), from its entry; its ends are 'ret' -/
theorem wk_mkR {v : Int32} (hy : plainName y.cls = true) {rt : FieldType} (hw : wsy = Cond.code y cc maxL (some rt) :: ws') (hsl : (lg_sl av).length ≤ maxL) (hn : narrow rt (.int v) = .int v)
    (body : ∀ (pr : Program) (e : Env) (s : State) (m : MethodId) (args : Array Value) (below : List Frame) (meth : Method) (cd : Code) (ls : Array Slot) (H : Heap) (Q : State → Prop), wk_St pr s m args meth cd cc maxL y wsy → va_P D vwCl wc H → va_K D vwCl tys s → lv_has ls maxL (lv_args 0 av) →
      (∀ (pc : Nat) (ls : Array Slot) (w : Int32), w = v → decode cc pc = .ok (.ireturn, 1) → W pr l e rm s m args below meth cd H [] 0 0 Q (F0 m pc ls [.int w])) →
      W pr l e rm s m args below meth cd H [] 0 0 Q (F0 m 0 ls [])) : wk_RdI l y wsy rm D tys av wc v := by
  refine wk_enterR hy hw hsl ?_
  intro pr e s m below meth cd ls hst hr hlocks hP hK hl
  refine body pr e s m av.toArray below meth cd ls s.heap _ hst hP hK hl ?_
  intro pc ls w hwv hdg
  subst hwv
  exact W.zret hst.1 hst.2.1 hr hn (fun t ht _ => ⟨w, rfl, rfl, ht⟩) (fun _ h => by cases h) hdg hlocks
theorem wk_mkRl {v : Int64} (hy : plainName y.cls = true) (hw : wsy = Cond.code y cc maxL (some .long) :: ws') (hsl : (lg_sl av).length ≤ maxL)
    (body : ∀ (pr : Program) (e : Env) (s : State) (m : MethodId) (args : Array Value) (below : List Frame) (meth : Method) (cd : Code) (ls : Array Slot) (H : Heap) (Q : State → Prop), wk_St pr s m args meth cd cc maxL y wsy → va_P D vwCl wc H → va_K D vwCl tys s → lv_has ls maxL (lv_args 0 av) →
      (∀ (pc : Nat) (ls : Array Slot) (w : Int64), w = v → decode cc pc = .ok (.lreturn, 1) → W pr l e rm s m args below meth cd H [] 0 0 Q (F0 m pc ls [.long w])) →
      W pr l e rm s m args below meth cd H [] 0 0 Q (F0 m 0 ls [])) : wk_RdL l y wsy rm D tys av wc v := by
  refine wk_enterR hy hw hsl ?_
  intro pr e s m below meth cd ls hst hr hlocks hP hK hl
  refine body pr e s m av.toArray below meth cd ls s.heap _ hst hP hK hl ?_
  intro pc ls w hwv hdg
  subst hwv
  exact W.lret hst.1 hst.2.1 hr (fun t ht _ => ⟨w, rfl, rfl, ht⟩) (fun _ h => by cases h) hdg hlocks
/-- a writer that answers an int (or a boolean) -/
theorem wk_mkU {v : Int32} (hy : plainName y.cls = true) {rt : FieldType} (hw : wsy = Cond.code y cc maxL (some rt) :: ws') (hsl : (lg_sl av).length ≤ maxL) (hn : narrow rt (.int v) = .int v)
    (body : ∀ (A : Nat → Prop) (pr : Program) (e : Env) (s : State) (m : MethodId) (args : Array Value) (below : List Frame) (meth : Method) (cd : Code) (ls : Array Slot) (H H0 : Heap) (locs : List Loc) (Q : State → Prop), wk_St pr s m args meth cd cc maxL y wsy → va_P D vwCl wc H → va_K D vwCl tys s → va_D A wc → va_S A H0 H locs → (∀ q : Nat, H0.size ≤ q → A q) → lv_has ls maxL (lv_args 0 av) →
      (∀ (pc : Nat) (ls : Array Slot) (H : Heap) (locs : List Loc) (w : Int32), w = v → va_P D vwCl wc' H → va_S A H0 H locs → decode cc pc = .ok (.ireturn, 1) → W pr l e rm s m args below meth cd H locs 0 0 Q (F0 m pc ls [.int w])) →
      W pr l e rm s m args below meth cd H locs 0 0 Q (F0 m 0 ls [])) : wk_UpI l y wsy rm D tys av wc wc' v := by
  intro sz
  refine wk_enterU (Qc := fun A => va_Qi (fun r (_ : Unit) => r = v) (fun _ t => va_P D vwCl wc' t.heap) A) hy hw hsl ?_
  intro A pr e s m below meth cd ls hst hr hlocks hP hK hD hS hA hl
  refine body A pr e s m av.toArray below meth cd ls s.heap s.heap [] _ hst hP hK hD hS hA hl ?_
  intro pc ls H locs w hwv hP hS hdg
  subst hwv
  exact W.zret hst.1 hst.2.1 hr hn (fun t ht _ => ⟨⟨w, (), rfl, rfl, by show va_P D vwCl wc' t.heap; rw [ht]; exact hP⟩, hS.F ht⟩) hS.2.2 hdg hlocks
theorem wk_mkV (hy : plainName y.cls = true) (hw : wsy = Cond.code y cc maxL none :: ws') (hsl : (lg_sl av).length ≤ maxL)
    (body : ∀ (A : Nat → Prop) (pr : Program) (e : Env) (s : State) (m : MethodId) (args : Array Value) (below : List Frame) (meth : Method) (cd : Code) (ls : Array Slot) (H H0 : Heap) (locs : List Loc) (Q : State → Prop), wk_St pr s m args meth cd cc maxL y wsy → va_P D vwCl wc H → va_K D vwCl tys s → va_D A wc → va_S A H0 H locs → (∀ q : Nat, H0.size ≤ q → A q) → lv_has ls maxL (lv_args 0 av) →
      (∀ (pc : Nat) (ls : Array Slot) (H : Heap) (locs : List Loc), va_P D vwCl wc' H → va_S A H0 H locs → decode cc pc = .ok (.return_, 1) → W pr l e rm s m args below meth cd H locs 0 0 Q (F0 m pc ls [])) →
      W pr l e rm s m args below meth cd H locs 0 0 Q (F0 m 0 ls [])) : wk_UpV l y wsy rm D tys av wc wc' := by
  intro sz
  refine wk_enterU (Qc := fun A => va_Qv (fun (_ : Unit) => True) (fun _ t => va_P D vwCl wc' t.heap) A) hy hw hsl ?_
  intro A pr e s m below meth cd ls hst hr hlocks hP hK hD hS hA hl
  refine body A pr e s m av.toArray below meth cd ls s.heap s.heap [] _ hst hP hK hD hS hA hl ?_
  intro pc ls H locs hP hS hdg
  exact W.vret hst.1 hst.2.1 hr (fun t ht _ => ⟨⟨(), rfl, trivial, by show va_P D vwCl wc' t.heap; rw [ht]; exact hP⟩, hS.F ht⟩) hS.2.2 hdg hlocks
end WKE
theorem lv_re {ls : Array Slot} {n : Nat} {l l' : List (Nat × Value)} (h : lv_has ls n l) (e : l = l') : lv_has ls n l' := e ▸ h
theorem wk_narZ {c : Prop} [Decidable c] : narrow .boolean (.int (if c then 1 else 0)) = .int (if c then 1 else 0) := by split <;> decide
section WKR
variable {p : Program} {l : Launch} {e : Env} {R : Room} {s : State} {m : MethodId} {args : Array Value} {below : List Frame} {meth : Method} {c : Code} {H : Heap} {locs : List Loc} {cells slots : Nat} {Q : State → Prop}
variable {cc : ByteArray} {pc : Nat} {ls : Array Slot} {rest st0 : List Value} {D : va_G} {cl : List vw_C} {A : Nat → Prop} {a : Nat} {tys : List (ClassId × FieldType)} {ws : va_W} {H0 : Heap}
theorem wk_eqi {x y : Int32} (h : x = y) (k : W p l e R s m args below meth c H locs cells slots Q (F0 m pc ls (.int y :: rest))) : W p l e R s m args below meth c H locs cells slots Q (F0 m pc ls (.int x :: rest)) := by
  subst h
  exact k
/-- arrays, by a natural index -/
theorem wk_ald (hexec : p.tables.exec = Jvm.exec) (hb : c.code = cc) (hK : va_K D cl tys s) (hP : va_P D cl ws H) (q0 t0 : Nat) {cA : ClassId} {n : Nat} {f : Nat → Int32} (ha : ws[q0]? = some (a, .inl (cA, n, .inl f))) (ht : tys[t0]? = some (cA, .int)) (k : Nat) {i : Int32} (hi : i = nI k) (hk : k < n) (hn : n < 2 ^ 31) (hdg : decode cc pc = .ok (.iaload, 1))
    (kk : W p l e R s m args below meth c H locs cells slots Q (F0 m (pc + 1) ls (.int (f k) :: rest))) : W p l e R s m args below meth c H locs cells slots Q (F0 m pc ls (.int i :: .ref a :: rest)) := by
  subst hi
  refine va_iald hexec hb hK hP q0 t0 ha ht (vp_in_nI hk hn) hdg ?_
  rw [nI_clamp (Nat.lt_trans hk hn)]
  exact kk
theorem wk_ast (hexec : p.tables.exec = Jvm.exec) (hb : c.code = cc) (hK : va_K D cl tys s) (hP : va_P D cl ws H) (hD : va_D A ws) (hS : va_S A H0 H locs) (q0 t0 : Nat) {cA : ClassId} {n : Nat} {f : Nat → Int32} (ha : ws[q0]? = some (a, .inl (cA, n, .inl f))) (ht : tys[t0]? = some (cA, .int)) (k : Nat) {i : Int32} {x : Int32} (hi : i = nI k) (hk : k < n) (hn : n < 2 ^ 31) (hdg : decode cc pc = .ok (.iastore, 1)) {ws' : va_W} (hws : ws.set q0 (a, .inl (cA, n, .inl (upd f k x))) = ws')
    (kk : ∀ (H1 : Heap) (locs1 : List Loc), va_P D cl ws' H1 → va_D A ws' → va_S A H0 H1 locs1 → W p l e R s m args below meth c H1 locs1 cells slots Q (F0 m (pc + 1) ls rest)) : W p l e R s m args below meth c H locs cells slots Q (F0 m pc ls (.int x :: .int i :: .ref a :: rest)) := by
  subst hi
  subst hws
  refine va_iast hexec hb hK hP hD hS q0 t0 ha ht (vp_in_nI hk hn) hdg ?_
  rw [nI_clamp (Nat.lt_trans hk hn)]
  exact kk
theorem wk_aald (hexec : p.tables.exec = Jvm.exec) (hb : c.code = cc) (hK : va_K D cl tys s) (hP : va_P D cl ws H) (q0 t0 : Nat) {cA : ClassId} {ty : FieldType} (hrk : refKind ty = true) {n : Nat} {f : Nat → Option Nat} (ha : ws[q0]? = some (a, .inl (cA, n, .inr (.inr (.inr (.inr f)))))) (ht : tys[t0]? = some (cA, ty)) (k : Nat) {i : Int32} (hi : i = nI k) (hk : k < n) (hn : n < 2 ^ 31) {r : Nat} (hr : f k = some r) (hdg : decode cc pc = .ok (.aaload, 1))
    (kk : W p l e R s m args below meth c H locs cells slots Q (F0 m (pc + 1) ls (.ref r :: rest))) : W p l e R s m args below meth c H locs cells slots Q (F0 m pc ls (.int i :: .ref a :: rest)) := by
  subst hi
  have hc : (nI k).toNatClampNeg = k := nI_clamp (Nat.lt_trans hk hn)
  have hin : vp_in (nI k) n := vp_in_nI hk hn
  have hlt : (nI k).toNatClampNeg < n := by rw [hc]; exact hk
  refine W.aald (v := .ref r) (ty := ty) hexec hb (hP q0 _ ha) ((hK.2 t0 _ ht).1 n (fun j => va_rf (f j))) hrk (fun q => by cases q) (by show ¬ (nI k < 0 ∨ (arrV _ _ _).slots.size ≤ _); rw [arrV_size]; exact hin) (by show (arrV _ _ _).slots[_]? = _; rw [arrV_read _ _ hlt, hc, hr]; rfl) rfl rfl hdg kk
/-- branches on naturals -/
theorem wk_ge (hexec : p.tables.exec = Jvm.exec) (hb : c.code = cc) {x y : Int32} {off : Int} {tgt : Nat} (u v : Nat) (hxu : x = nI u) (hyv : y = nI v) (hu : u < 2 ^ 31) (hv : v < 2 ^ 31) (hdg : decode cc pc = .ok (.if_icmp .ge off, 3)) (ht : (pc : Int) + off = (tgt : Int))
    (kt : v ≤ u → W p l e R s m args below meth c H locs cells slots Q (F0 m tgt ls rest)) (kf : u < v → W p l e R s m args below meth c H locs cells slots Q (F0 m (pc + 3) ls rest)) : W p l e R s m args below meth c H locs cells slots Q (F0 m pc ls (.int y :: .int x :: rest)) := by
  subst hxu; subst hyv
  exact lv_icmp_ge hexec hb hdg ht (fun h => kt ((nI_leI hv hu).mp h)) (fun h => kf (Nat.lt_of_not_le (fun q => h ((nI_leI hv hu).mpr q))))
theorem wk_gt (hexec : p.tables.exec = Jvm.exec) (hb : c.code = cc) {x y : Int32} {off : Int} {tgt : Nat} (u v : Nat) (hxu : x = nI u) (hyv : y = nI v) (hu : u < 2 ^ 31) (hv : v < 2 ^ 31) (hdg : decode cc pc = .ok (.if_icmp .gt off, 3)) (ht : (pc : Int) + off = (tgt : Int))
    (kt : v < u → W p l e R s m args below meth c H locs cells slots Q (F0 m tgt ls rest)) (kf : u ≤ v → W p l e R s m args below meth c H locs cells slots Q (F0 m (pc + 3) ls rest)) : W p l e R s m args below meth c H locs cells slots Q (F0 m pc ls (.int y :: .int x :: rest)) := by
  subst hxu; subst hyv
  exact lv_icmp_gt hexec hb hdg ht (fun h => kt ((nI_ltI hv hu).mp h)) (fun h => kf (Nat.le_of_not_lt (fun q => h ((nI_ltI hv hu).mpr q))))
theorem wk_lt (hexec : p.tables.exec = Jvm.exec) (hb : c.code = cc) {x y : Int32} {off : Int} {tgt : Nat} (u v : Nat) (hxu : x = nI u) (hyv : y = nI v) (hu : u < 2 ^ 31) (hv : v < 2 ^ 31) (hdg : decode cc pc = .ok (.if_icmp .lt off, 3)) (ht : (pc : Int) + off = (tgt : Int))
    (kt : u < v → W p l e R s m args below meth c H locs cells slots Q (F0 m tgt ls rest)) (kf : v ≤ u → W p l e R s m args below meth c H locs cells slots Q (F0 m (pc + 3) ls rest)) : W p l e R s m args below meth c H locs cells slots Q (F0 m pc ls (.int y :: .int x :: rest)) := by
  subst hxu; subst hyv
  exact lv_icmp_lt hexec hb hdg ht (fun h => kt ((nI_ltI hu hv).mp h)) (fun h => kf (Nat.le_of_not_lt (fun q => h ((nI_ltI hu hv).mpr q))))
theorem wk_le (hexec : p.tables.exec = Jvm.exec) (hb : c.code = cc) {x y : Int32} {off : Int} {tgt : Nat} (u v : Nat) (hxu : x = nI u) (hyv : y = nI v) (hu : u < 2 ^ 31) (hv : v < 2 ^ 31) (hdg : decode cc pc = .ok (.if_icmp .le off, 3)) (ht : (pc : Int) + off = (tgt : Int))
    (kt : u ≤ v → W p l e R s m args below meth c H locs cells slots Q (F0 m tgt ls rest)) (kf : v < u → W p l e R s m args below meth c H locs cells slots Q (F0 m (pc + 3) ls rest)) : W p l e R s m args below meth c H locs cells slots Q (F0 m pc ls (.int y :: .int x :: rest)) := by
  subst hxu; subst hyv
  exact lv_icmp_le hexec hb hdg ht (fun h => kt ((nI_leI hu hv).mp h)) (fun h => kf (Nat.lt_of_not_le (fun q => h ((nI_leI hu hv).mpr q))))
theorem wk_eq (hexec : p.tables.exec = Jvm.exec) (hb : c.code = cc) {x y : Int32} {off : Int} {tgt : Nat} (u v : Nat) (hxu : x = nI u) (hyv : y = nI v) (hu : u < 2 ^ 31) (hv : v < 2 ^ 31) (hdg : decode cc pc = .ok (.if_icmp .eq off, 3)) (ht : (pc : Int) + off = (tgt : Int))
    (kt : u = v → W p l e R s m args below meth c H locs cells slots Q (F0 m tgt ls rest)) (kf : u ≠ v → W p l e R s m args below meth c H locs cells slots Q (F0 m (pc + 3) ls rest)) : W p l e R s m args below meth c H locs cells slots Q (F0 m pc ls (.int y :: .int x :: rest)) := by
  subst hxu; subst hyv
  exact lv_icmp_eq hexec hb hdg ht (fun h => kt ((nI_eq hu hv).mp h)) (fun h => kf (fun q => h ((nI_eq hu hv).mpr q)))
theorem wk_ne (hexec : p.tables.exec = Jvm.exec) (hb : c.code = cc) {x y : Int32} {off : Int} {tgt : Nat} (u v : Nat) (hxu : x = nI u) (hyv : y = nI v) (hu : u < 2 ^ 31) (hv : v < 2 ^ 31) (hdg : decode cc pc = .ok (.if_icmp .ne off, 3)) (ht : (pc : Int) + off = (tgt : Int))
    (kt : u ≠ v → W p l e R s m args below meth c H locs cells slots Q (F0 m tgt ls rest)) (kf : u = v → W p l e R s m args below meth c H locs cells slots Q (F0 m (pc + 3) ls rest)) : W p l e R s m args below meth c H locs cells slots Q (F0 m pc ls (.int y :: .int x :: rest)) := by
  subst hxu; subst hyv
  exact lv_icmp_ne hexec hb hdg ht (fun h => kt (fun q => h ((nI_eq hu hv).mpr q))) (fun h => kf ((nI_eq hu hv).mp h))
/-- branches on conditions -/
theorem wk_bz (hexec : p.tables.exec = Jvm.exec) (hb : c.code = cc) {k : Prop} [Decidable k] {off : Int} {tgt : Nat} (hdg : decode cc pc = .ok (.ifCond .eq off, 3)) (ht : (pc : Int) + off = (tgt : Int))
    (kt : ¬ k → W p l e R s m args below meth c H locs cells slots Q (F0 m tgt ls rest)) (kf : k → W p l e R s m args below meth c H locs cells slots Q (F0 m (pc + 3) ls rest)) : W p l e R s m args below meth c H locs cells slots Q (F0 m pc ls (.int (if k then 1 else 0) :: rest)) := by
  by_cases h : k
  · rw [if_pos h]
    exact lv_if_eq hexec hb hdg ht (fun q => absurd q (by decide)) (fun _ => kf h)
  · rw [if_neg h]
    exact lv_if_eq hexec hb hdg ht (fun _ => kt h) (fun q => absurd rfl q)
theorem wk_bnz (hexec : p.tables.exec = Jvm.exec) (hb : c.code = cc) {k : Prop} [Decidable k] {off : Int} {tgt : Nat} (hdg : decode cc pc = .ok (.ifCond .ne off, 3)) (ht : (pc : Int) + off = (tgt : Int))
    (kt : k → W p l e R s m args below meth c H locs cells slots Q (F0 m tgt ls rest)) (kf : ¬ k → W p l e R s m args below meth c H locs cells slots Q (F0 m (pc + 3) ls rest)) : W p l e R s m args below meth c H locs cells slots Q (F0 m pc ls (.int (if k then 1 else 0) :: rest)) := by
  by_cases h : k
  · rw [if_pos h]
    exact lv_if_ne hexec hb hdg ht (fun _ => kt h) (fun q => absurd q (by decide))
  · rw [if_neg h]
    exact lv_if_ne hexec hb hdg ht (fun q => absurd rfl q) (fun _ => kf h)
end WKR
section WKC
variable {p : Program} {l : Launch} {e : Env} {R : Room} {s : State} {m : MethodId} {args : Array Value} {below : List Frame} {meth : Method} {c : Code} {H : Heap} {locs : List Loc} {cells slots : Nat} {Q : State → Prop}
variable {cc bytes : ByteArray} {pc : Nat} {ls : Array Slot} {rest st0 As : List Value} {D : va_G} {A : Nat → Prop} {tys : List (ClassId × FieldType)} {ws ws' wc wc' : va_W} {H0 : Heap}
variable {y : MethodName} {nL maxL n index b q0 ci : Nat} {ret : Option FieldType} {wsy Ts : List Cond} {rm : Room} {own C : String} {T : u_T} {N : Nat} {fs : List Value} {v : Int32}
/-- calls of readers -/
theorem wk_callRV (S : CallFix p m c cc nL s args Ts own) (hM : wk_RdI l y wsy rm D tys (.ref b :: As) wc v) (cw : CallW R s args own C index y bytes maxL ret wsy rm 0 0 n) (hK : va_K D vwCl tys s) (hP : va_P D vwCl ws H) (isC : List Nat) (hC : isC.filterMap (fun i => ws[i]?) = wc) (q0 : Nat) (he : wc[q0]? = some (b, .inr (ci, fs))) (hc : vwCl[ci]? = some (C, T, N))
    (hn : As.length = n) (hsize : ls.size = nL) (hstack : st0 = As.reverse ++ .ref b :: rest) (hW : (rest.map fun v => v.category).sum ≤ 8) (hdg : decode cc pc = .ok (.invokevirtual index, 3)) (hcl : cells ≤ R.cells) (hsl : slots ≤ R.slots)
    (kk : W p l e R s m args below meth c H locs cells slots Q (F0 m (pc + 3) ls (.int v :: rest))) : W p l e R s m args below meth c H locs cells slots Q (F0 m pc ls st0) := by
  have hPc := hP.sub (ws' := wc) isC hC
  refine vp_callSi (W.runV (As := As) (rest := rest) (b := b) S hM cw ⟨wk_blindR, va_recv hK hPc hc he, fun U hU hW => ⟨rfl, by rw [hU]; exact hPc, va_K.moved hW.alike hK⟩⟩ rfl hn hsize hstack (lv_room hW) hdg ⟨hcl, hsl⟩) (fun r hr => ?_)
  subst hr
  exact kk
theorem wk_callRS (S : CallFix p m c cc nL s args Ts own) (hM : wk_RdI l y wsy rm D tys As wc v) (cw : CallB R s args own index y bytes maxL ret wsy rm 0 0 n ∧ (Cond.static y).before args s = true) (hK : va_K D vwCl tys s) (hP : va_P D vwCl ws H) (isC : List Nat) (hC : isC.filterMap (fun i => ws[i]?) = wc)
    (hn : As.length = n) (hsize : ls.size = nL) (hstack : st0 = As.reverse ++ rest) (hW : (rest.map fun v => v.category).sum ≤ 8) (hdg : decode cc pc = .ok (.invokestatic index, 3)) (hcl : cells ≤ R.cells) (hsl : slots ≤ R.slots)
    (kk : W p l e R s m args below meth c H locs cells slots Q (F0 m (pc + 3) ls (.int v :: rest))) : W p l e R s m args below meth c H locs cells slots Q (F0 m pc ls st0) := by
  have hPc := hP.sub (ws' := wc) isC hC
  refine vp_callSi (W.runS (As := As) (rest := rest) S hM cw ⟨wk_blindR, fun U hU hW => ⟨rfl, by rw [hU]; exact hPc, va_K.moved hW.alike hK⟩⟩ rfl hn hsize hstack (lv_room hW) hdg ⟨hcl, hsl⟩) (fun r hr => ?_)
  subst hr
  exact kk
/-- calls of writers -/
theorem wk_callUV (S : CallFix p m c cc nL s args Ts own) (hM : wk_UpI l y wsy rm D tys (.ref b :: As) wc wc' v) (cw : CallW R s args own C index y bytes maxL ret wsy rm 0 0 n) (hK : va_K D vwCl tys s) (hP : va_P D vwCl ws H) (hD : va_D A ws) (hS : va_S A H0 H locs) (hA : ∀ q : Nat, H0.size ≤ q → A q) (isC isR : List Nat) (N' : Nat) (hC : isC.map (fun i => ws[i]?) = wc.map some) (hnd : wk_nd isC = true) (ads : List Nat) (hf0 : wc.map (fun q => q.1) = ads) (hf1 : wc'.map (fun q => q.1) = ads) (hw1 : isC.map (fun i => ws'[i]?) = wc'.map some) {wr : va_W} (hw2 : isR.map (fun i => ws[i]?) = wr.map some) (hw5 : isR.map (fun i => ws'[i]?) = wr.map some) (hw3 : ws'.length = N') (hw4 : wk_cov N' isC isR = true) (q0 : Nat) (he : wc[q0]? = some (b, .inr (ci, fs))) (hc : vwCl[ci]? = some (C, T, N))
    (hn : As.length = n) (hsize : ls.size = nL) (hstack : st0 = As.reverse ++ .ref b :: rest) (hW : (rest.map fun v => v.category).sum ≤ 8) (hdg : decode cc pc = .ok (.invokevirtual index, 3)) (hcl : cells ≤ R.cells) (hsl : slots ≤ R.slots)
    (kk : ∀ (H1 : Heap) (locs1 : List Loc), va_P D vwCl ws' H1 → va_D A ws' → va_S A H0 H1 locs1 → W p l e R s m args below meth c H1 locs1 cells slots Q (F0 m (pc + 3) ls (.int v :: rest))) : W p l e R s m args below meth c H locs cells slots Q (F0 m pc ls st0) := by
  have hDc := hD.sub (ws' := wc) isC (wk_nd_va isC hnd) hC
  have hPc : va_P D vwCl wc H := fun k q hq => by
    obtain ⟨i, -, h2⟩ := wk_map_at' hC hq
    exact hP i q h2
  have hFc := va_free (wc := wc) hD hS hA isC hC
  refine va_calli (va_runV (As := As) (rest := rest) (b := b) S (hM H.size) cw ⟨wk_blindU, va_recv hK hPc hc he, fun U hU hW => ⟨rfl, by rw [hU], by rw [hU]; exact hPc, va_K.moved hW.alike hK, hDc.weaken (fun _ _ _ _ => trivial)⟩⟩ rfl hn hsize hstack (lv_room hW) hdg ⟨hcl, hsl⟩) hS (fun q _ h => hFc q h) hFc (fun r u t H1 locs1 ht hvm hw hB hz1 hk1 hS1 => ?_)
  rw [ht] at hB
  obtain ⟨hP1, hD1⟩ := wk_join hP hD isC isR N' hC (hf1.trans hf0.symm) hw1 (hw5.trans hw2.symm) hw3 hw4 hk1 hB
  subst hw
  exact kk H1 locs1 hP1 hD1 hS1
theorem wk_callVV (S : CallFix p m c cc nL s args Ts own) (hM : wk_UpV l y wsy rm D tys (.ref b :: As) wc wc') (cw : CallW R s args own C index y bytes maxL ret wsy rm 0 0 n) (hK : va_K D vwCl tys s) (hP : va_P D vwCl ws H) (hD : va_D A ws) (hS : va_S A H0 H locs) (hA : ∀ q : Nat, H0.size ≤ q → A q) (isC isR : List Nat) (N' : Nat) (hC : isC.map (fun i => ws[i]?) = wc.map some) (hnd : wk_nd isC = true) (ads : List Nat) (hf0 : wc.map (fun q => q.1) = ads) (hf1 : wc'.map (fun q => q.1) = ads) (hw1 : isC.map (fun i => ws'[i]?) = wc'.map some) {wr : va_W} (hw2 : isR.map (fun i => ws[i]?) = wr.map some) (hw5 : isR.map (fun i => ws'[i]?) = wr.map some) (hw3 : ws'.length = N') (hw4 : wk_cov N' isC isR = true) (q0 : Nat) (he : wc[q0]? = some (b, .inr (ci, fs))) (hc : vwCl[ci]? = some (C, T, N))
    (hn : As.length = n) (hsize : ls.size = nL) (hstack : st0 = As.reverse ++ .ref b :: rest) (hW : (rest.map fun v => v.category).sum ≤ 8) (hdg : decode cc pc = .ok (.invokevirtual index, 3)) (hcl : cells ≤ R.cells) (hsl : slots ≤ R.slots)
    (kk : ∀ (H1 : Heap) (locs1 : List Loc), va_P D vwCl ws' H1 → va_D A ws' → va_S A H0 H1 locs1 → W p l e R s m args below meth c H1 locs1 cells slots Q (F0 m (pc + 3) ls rest)) : W p l e R s m args below meth c H locs cells slots Q (F0 m pc ls st0) := by
  have hDc := hD.sub (ws' := wc) isC (wk_nd_va isC hnd) hC
  have hPc : va_P D vwCl wc H := fun k q hq => by
    obtain ⟨i, -, h2⟩ := wk_map_at' hC hq
    exact hP i q h2
  have hFc := va_free (wc := wc) hD hS hA isC hC
  refine va_callv (va_runV (As := As) (rest := rest) (b := b) S (hM H.size) cw ⟨wk_blindU, va_recv hK hPc hc he, fun U hU hW => ⟨rfl, by rw [hU], by rw [hU]; exact hPc, va_K.moved hW.alike hK, hDc.weaken (fun _ _ _ _ => trivial)⟩⟩ rfl hn hsize hstack (lv_room hW) hdg ⟨hcl, hsl⟩) hS (fun q _ h => hFc q h) hFc (fun u t H1 locs1 ht hvm hw hB hz1 hk1 hS1 => ?_)
  rw [ht] at hB
  obtain ⟨hP1, hD1⟩ := wk_join hP hD isC isR N' hC (hf1.trans hf0.symm) hw1 (hw5.trans hw2.symm) hw3 hw4 hk1 hB
  exact kk H1 locs1 hP1 hD1 hS1
end WKC

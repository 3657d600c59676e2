/-! ===== writers that leave something that nobody reads: two records, whatever they are ===== -/
abbrev wk_UpJ (l : Launch) (y : MethodName) (wsy : List Cond) (rm : Room) (D : va_G) (tys : List (ClassId × FieldType)) (av : List Value) (wc : va_W) (wj : wRec → wRec → va_W) (v : Int32) : Prop := ∀ sz : Nat, Met l y wsy rm (wk_UpP D tys av wc sz) (va_Qi (fun r (_ : wRec × wRec) => r = v) (fun u t => va_P D vwCl (wj u.1 u.2) t.heap) (va_A wc sz)) 0 0 (va_A wc sz)
theorem wk_mkJ {l : Launch} {y : MethodName} {wsy ws' : List Cond} {rm : Room} {D : va_G} {tys : List (ClassId × FieldType)} {av : List Value} {wc : va_W} {wj : wRec → wRec → va_W} {cc : ByteArray} {maxL : Nat} {v : Int32} (hy : plainName y.cls = true) {rt : FieldType} (hw : wsy = Cond.code y cc maxL (some rt) :: ws') (hsl : (lg_sl av).length ≤ maxL) (hn : narrow rt (.int v) = .int v)
    (body : ∀ (A : Nat → Prop) (pr : Program) (e : Env) (s : State) (m : MethodId) (args : Array Value) (below : List Frame) (meth : Method) (cd : Code) (ls : Array Slot) (H H0 : Heap) (locs : List Loc) (Q : State → Prop), wk_St pr s m args meth cd cc maxL y wsy → va_P D vwCl wc H → va_K D vwCl tys s → va_D A wc → va_S A H0 H locs → (∀ q : Nat, H0.size ≤ q → A q) → lv_has ls maxL (lv_args 0 av) →
      (∀ (pc : Nat) (ls : Array Slot) (H : Heap) (locs : List Loc) (w : Int32) (j1 j2 : wRec), w = v → va_P D vwCl (wj j1 j2) H → va_S A H0 H locs → decode cc pc = .ok (.ireturn, 1) → W pr l e rm s m args below meth cd H locs 0 0 Q (F0 m pc ls [.int w])) →
      W pr l e rm s m args below meth cd H locs 0 0 Q (F0 m 0 ls [])) : wk_UpJ l y wsy rm D tys av wc wj v := by
  intro sz
  refine wk_enterU (Qc := fun A => va_Qi (fun r (_ : wRec × wRec) => r = v) (fun u t => va_P D vwCl (wj u.1 u.2) t.heap) A) hy hw hsl ?_
  intro A pr e s m below meth cd ls hst hr hlocks hP hK hD hS hA hl
  refine body A pr e s m av.toArray below meth cd ls s.heap s.heap [] _ hst hP hK hD hS hA hl ?_
  intro pc ls H locs w j1 j2 hwv hP hS hdg
  subst hwv
  exact W.zret hst.1 hst.2.1 hr hn (fun t ht _ => ⟨⟨w, (j1, j2), rfl, rfl, by show va_P D vwCl (wj j1 j2) t.heap; rw [ht]; exact hP⟩, hS.F ht⟩) hS.2.2 hdg hlocks
section WKJ
variable {p : Program} {l : Launch} {e : Env} {R : Room} {s : State} {m : MethodId} {args : Array Value} {below : List Frame} {meth : Method} {c : Code} {H : Heap} {locs : List Loc} {cells slots : Nat} {Q : State → Prop}
variable {cc bytes : ByteArray} {pc : Nat} {ls : Array Slot} {rest st0 As : List Value} {D : va_G} {A : Nat → Prop} {tys : List (ClassId × FieldType)} {ws wc : va_W} {wj ws' : wRec → wRec → va_W} {H0 : Heap}
variable {y : MethodName} {nL maxL n index b q0 ci : Nat} {ret : Option FieldType} {wsy Ts : List Cond} {rm : Room} {own C : String} {T : u_T} {N : Nat} {fs : List Value} {v : Int32}
theorem wk_callJV (S : CallFix p m c cc nL s args Ts own) (hM : wk_UpJ l y wsy rm D tys (.ref b :: As) wc wj v) (cw : CallW R s args own C index y bytes maxL ret wsy rm 0 0 n) (hK : va_K D vwCl tys s) (hP : va_P D vwCl ws H) (hD : va_D A ws) (hS : va_S A H0 H locs) (hA : ∀ q : Nat, H0.size ≤ q → A q) (isC isR : List Nat) (N' : Nat) (hC : isC.map (fun i => ws[i]?) = wc.map some) (hnd : wk_nd isC = true) (ads : List Nat) (hf0 : wc.map (fun q => q.1) = ads) (hf1 : ∀ j1 j2, (wj j1 j2).map (fun q => q.1) = ads) (hw1 : ∀ j1 j2, isC.map (fun i => (ws' j1 j2)[i]?) = (wj j1 j2).map some) {wr : va_W} (hw2 : isR.map (fun i => ws[i]?) = wr.map some) (hw5 : ∀ j1 j2, isR.map (fun i => (ws' j1 j2)[i]?) = wr.map some) (hw3 : ∀ j1 j2, (ws' j1 j2).length = N') (hw4 : wk_cov N' isC isR = true) (q0 : Nat) (he : wc[q0]? = some (b, .inr (ci, fs))) (hc : vwCl[ci]? = some (C, T, N))
    (hn : As.length = n) (hsize : ls.size = nL) (hstack : st0 = As.reverse ++ .ref b :: rest) (hW : (rest.map fun v => v.category).sum ≤ 8) (hdg : decode cc pc = .ok (.invokevirtual index, 3)) (hcl : cells ≤ R.cells) (hsl : slots ≤ R.slots)
    (kk : ∀ (j1 j2 : wRec) (H1 : Heap) (locs1 : List Loc), va_P D vwCl (ws' j1 j2) H1 → va_D A (ws' j1 j2) → va_S A H0 H1 locs1 → W p l e R s m args below meth c H1 locs1 cells slots Q (F0 m (pc + 3) ls (.int v :: rest))) : W p l e R s m args below meth c H locs cells slots Q (F0 m pc ls st0) := by
  have hDc := hD.sub (ws' := wc) isC (wk_nd_va isC hnd) hC
  have hPc : va_P D vwCl wc H := fun k q hq => by
    obtain ⟨i, -, h2⟩ := wk_map_at' hC hq
    exact hP i q h2
  have hFc := va_free (wc := wc) hD hS hA isC hC
  refine va_calli (va_runV (As := As) (rest := rest) (b := b) S (hM H.size) cw ⟨wk_blindU, va_recv hK hPc hc he, fun U hU hW => ⟨rfl, by rw [hU], by rw [hU]; exact hPc, va_K.moved hW.alike hK, hDc.weaken (fun _ _ _ _ => trivial)⟩⟩ rfl hn hsize hstack (lv_room hW) hdg ⟨hcl, hsl⟩) hS (fun q _ h => hFc q h) hFc (fun r u t H1 locs1 ht hvm hw hB hz1 hk1 hS1 => ?_)
  obtain ⟨j1, j2⟩ := u
  have hB : va_P D vwCl (wj j1 j2) t.heap := hB
  rw [ht] at hB
  obtain ⟨hP1, hD1⟩ := wk_join hP hD isC isR N' hC ((hf1 j1 j2).trans hf0.symm) (hw1 j1 j2) ((hw5 j1 j2).trans hw2.symm) (hw3 j1 j2) hw4 hk1 hB
  subst hw
  exact kk j1 j2 H1 locs1 hP1 hD1 hS1
end WKJ

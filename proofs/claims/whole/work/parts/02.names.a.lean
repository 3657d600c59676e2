/-! ===== BEGIN words of one list among another's, by their places ===== -/
theorem goodIn_r {big : List Cond} (ws : List Cond) (ps : List Nat) (hp : ws = ps.filterMap (fun i => big[i]?)) (h : ws.all goodWord = true) : GoodIn big ws := by
  intro w hw
  have h1 := List.all_eq_true.mp h w hw
  rw [hp] at hw
  obtain ⟨i, -, hi⟩ := List.mem_filterMap.mp hw
  have hm : w ∈ big := by first | exact List.mem_of_getElem? hi | exact List.getElem?_mem hi
  exact ⟨hm, good_of_word h1⟩
theorem goodIn_app {big a b : List Cond} (ha : GoodIn big a) (hb : GoodIn big b) : GoodIn big (a ++ b) := fun w h => (List.mem_append.mp h).elim (ha w) (hb w)
theorem goodIn_ca {big a b : List Cond} {c : Cond} (ha : GoodIn big (c :: a)) (hb : GoodIn big b) : GoodIn big (c :: (a ++ b)) := fun w h => (List.mem_cons.mp h).elim (fun e => ha w (List.mem_cons.mpr (Or.inl e))) (fun h => (List.mem_append.mp h).elim (fun h => ha w (List.mem_cons.mpr (Or.inr h))) (hb w))
theorem goodIn_sub {big ws : List Cond} (hm : ∀ w ∈ ws, w ∈ big) (h : ws.all goodWord = true) : GoodIn big ws := fun w hw => ⟨hm w hw, good_of_word (List.all_eq_true.mp h w hw)⟩
/-! ===== END ===== -/

/-! ===== BEGIN new T[n][m]: the outer array a place, the inner ones among the pooled ===== -/
/-- f, but v at every address of l -/
def vr_up {α : Type} (f : Nat → α) (l : List Nat) (v : α) : Nat → α := fun a => if a ∈ l then v else f a
theorem vr_up_in {α : Type} {f : Nat → α} {l : List Nat} {v : α} {a : Nat} (h : a ∈ l) : vr_up f l v a = v := if_pos h
theorem vr_up_ne {α : Type} {f : Nat → α} {l : List Nat} {v : α} {a : Nat} (h : a ∉ l) : vr_up f l v a = f a := if_neg h
theorem vr_rows {L l : List Nat} {f : Nat → va_E} {e : va_E} (h : ∀ a, a ∈ l → a ∉ L) : va_pl L f ++ l.map (fun a => (a, e)) = va_pl (L ++ l) (vr_up f l e) := by
  unfold va_pl
  rw [List.map_append]
  congr 1
  · apply List.map_congr_left
    intro a ha
    rw [vr_up_ne (fun q => h a q ha)]
  · apply List.map_congr_left
    intro a ha
    rw [vr_up_in ha]
theorem vr_lay {X rows : va_W} {x : Nat × va_E} {pl : va_W} {D : va_G} {cl : List vw_C} {H : Heap} (hP : va_P D cl (((X ++ pl) ++ [x]) ++ rows) H) : va_P D cl ((X ++ [x]) ++ (pl ++ rows)) H := by
  rw [List.append_assoc (X ++ pl)] at hP
  have h := va_P.swap hP
  rw [← List.append_assoc X] at h
  have h2 := va_P.swap h
  rw [List.append_assoc (X ++ [x])] at h2
  exact h2
theorem vr_layD {X rows : va_W} {x : Nat × va_E} {pl : va_W} {A : Nat → Prop} (hD : va_D A (((X ++ pl) ++ [x]) ++ rows)) : va_D A ((X ++ [x]) ++ (pl ++ rows)) := by
  rw [List.append_assoc (X ++ pl)] at hD
  have h := va_D.swap hD
  rw [← List.append_assoc X] at h
  have h2 := va_D.swap h
  rw [List.append_assoc (X ++ [x])] at h2
  exact h2
theorem vr_outer (c : ClassId) (N h0 : Nat) : ∀ i : Nat, Jvm.Free.Multi.outerC c N h0 i = arrV c N (fun j => va_rf (if j < i then some (h0 + 1 + j) else none))
  | 0 => by
    show ({ cls := c, slots := Array.replicate N .null, vm := .none } : Cell) = _
    rw [arrV_new]
    refine congrArg (arrV c N) (funext fun j => ?_)
    simp [va_rf]
  | i + 1 => by
    show (Jvm.Free.Multi.outerC c N h0 i).setSlot i (.ref (h0 + 1 + i)) = _
    rw [vr_outer c N h0 i, arrV_store]
    refine congrArg (arrV c N) (funext fun j => ?_)
    by_cases e : j = i
    · subst e
      simp [updV, va_rf]
    · by_cases h : j < i
      · simp [updV, e, h, Nat.lt_succ_of_lt h]
      · simp [updV, e, h, show ¬ j < i + 1 by omega]
def va_AOA (ty : FieldType) (U : State) : Prop := (Cond.arrayOver (.array ty)).before #[] U = true
theorem va_AOA.of {ty : FieldType} {A : Array Value} {U : State} (h : (Cond.arrayOver (.array ty)).before A U = true) : va_AOA ty U := h
theorem va_AOA.use {ty : FieldType} {A : Array Value} {U : State} (h : va_AOA ty U) : (Cond.arrayOver (.array ty)).before A U = true := h
section VGM
variable {p : Program} {l : Launch} {e : Env} {R : Room} {s : State} {m : MethodId} {args : Array Value} {below : List Frame} {meth : Method} {c : Code} {H : Heap} {locs : List Loc} {cells slots : Nat} {Q : State → Prop}
variable {cc : ByteArray} {pc : Nat} {ls : Array Slot} {rest : List Value} {D : va_G} {cl : List vw_C} {A : Nat → Prop} {a : Nat} {tys : List (ClassId × FieldType)} {ws : va_W} {H0 : Heap}
theorem va_mna {X : va_W} {L : List Nat} {f : Nat → va_E} {cc : ByteArray} (hexec : p.tables.exec = Jvm.exec) (hb : c.code = cc) {own : String} {index : Nat} {ty : FieldType} {cy : ClassId} (hown : s.vm.findClass own = some m.cls) (hclink : (Cond.classLink own index ("[" ++ (FieldType.array ty).toString)).before args s = true) (hover : va_AOA ty s) (harr : (Cond.arrayClass ty).before args s = true) (hcy : s.vm.findClass (FieldType.array ty).toString = some cy)
    (hK : va_K D cl tys s) (hP : va_P D cl (X ++ va_pl L f) H) (hD : va_D A (X ++ va_pl L f)) (hS : va_S A H0 H locs) (hA : ∀ q, H0.size ≤ q → A q) {n k : Int32} {N' K' : Nat} {z : vp_A} (hn : ¬ n < 0) (hk : ¬ k < 0) (hN : n.toNatClampNeg = N') (hM : k.toNatClampNeg = K')
    (hb1 : N' * 4 ≤ 536870912) (hb2 : K' * componentBytes ty ≤ 536870912) (hb3 : K' ≤ 536870912) (hdf : fits ty (defaultValue ty) = true) (hdd : (defaultValue ty).isDefault = true) (hcells : cells + (1 + N') ≤ R.cells) (hslots : slots + (N' + N' * K') ≤ R.slots) (hz : ∀ c : ClassId, Jvm.Free.Multi.innerC c K' (defaultValue ty) = vp_cell c z) (hdg : decode cc pc = .ok (.multianewarray index 2, 4))
    (kk : ∀ (q : Nat) (r : Nat → Nat) (cA : ClassId) (H1 : Heap), (∀ i j : Nat, i < N' → j < N' → r i = r j → i = j) → (∀ i : Nat, i < N' → r i ∉ L) → va_K D cl (tys ++ [(cA, .array ty)]) s →
      va_P D cl ((X ++ [(q, .inl (cA, N', .inr (.inr (.inr (.inr (fun i => if i < N' then some (r i) else none))))))]) ++ va_pl (L ++ (List.range N').map r) (vr_up f ((List.range N').map r) (.inl (cy, z)))) H1 → va_D A ((X ++ [(q, .inl (cA, N', .inr (.inr (.inr (.inr (fun i => if i < N' then some (r i) else none))))))]) ++ va_pl (L ++ (List.range N').map r) (vr_up f ((List.range N').map r) (.inl (cy, z)))) → va_S A H0 H1 locs →
      W p l e R s m args below meth c H1 locs (cells + 1 + N') (slots + N' + N' * K') Q (F0 m (pc + 4) ls (.ref q :: rest))) : W p l e R s m args below meth c H locs cells slots Q (F0 m pc ls (.int k :: .int n :: rest)) := by
  subst hN
  subst hM
  intro T hT Xs
  obtain ⟨vm₁, cA, comp, -, fA, fC, hO, -, X', step⟩ := Xs.multianewarray2F hexec hown hclink (va_AOA.use hover) harr (g := F0 m pc ls (.int k :: .int n :: rest)) rfl (by rw [hb]; exact hdg) rfl hn hk hb1 hb2 hb3 hdf hdd hcells hslots
  have ec : some cy = some comp := hcy.symm.trans fC
  cases ec
  generalize hF : Jvm.Free.Multi.fill (T.setVm vm₁) cA cy n.toNatClampNeg k.toNatClampNeg (defaultValue ty) n.toNatClampNeg = F at X' step
  have hTh : (T.setVm vm₁).heap = H := hT
  obtain ⟨f1, f2, -, -⟩ := Jvm.Free.Multi.fill_facts (T.setVm vm₁) cA cy n.toNatClampNeg k.toNatClampNeg (defaultValue ty) n.toNatClampNeg
  rw [hF, hTh] at f1 f2
  have hold : ∀ x : Nat, x < H.size → F.heap[x]? = H[x]? := fun x hx => by
    have := Jvm.Free.Multi.fill_old (T.setVm vm₁) cA cy n.toNatClampNeg k.toNatClampNeg (defaultValue ty) (a := x) (by rw [hTh]; exact hx) n.toNatClampNeg
    rw [hF, hTh] at this
    exact this
  have hrow : ∀ j : Nat, j < n.toNatClampNeg → F.heap[H.size + 1 + j]? = some (vp_cell cy z) := fun j hj => by
    have := Jvm.Free.Multi.fill_inner (T.setVm vm₁) cA cy n.toNatClampNeg k.toNatClampNeg (defaultValue ty) n.toNatClampNeg j hj
    rw [hF, hTh, hz] at this
    exact this
  have hout : Jvm.Free.Multi.outerC cA n.toNatClampNeg H.size n.toNatClampNeg = vp_cell cA (n.toNatClampNeg, .inr (.inr (.inr (.inr (fun i => if i < n.toNatClampNeg then some (H.size + 1 + i) else none))))) := by
    rw [vp_cell_q]
    exact vr_outer cA n.toNatClampNeg H.size n.toNatClampNeg
  rw [hout] at f2
  have hlt : ∀ a, a ∈ L → a < H.size := fun a ha => by
    obtain ⟨k9, hk9⟩ := va_pl_get (X := X) (f := f) ha
    exact (hP k9 _ hk9).lt
  have hnl : ∀ i : Nat, i < n.toNatClampNeg → H.size + 1 + i ∉ L := fun i _ h => by
    have := hlt _ h
    omega
  have hnm : ∀ a, a ∈ (List.range n.toNatClampNeg).map (fun i => H.size + 1 + i) → a ∉ L := fun a ha h => by
    obtain ⟨i, -, rfl⟩ := List.mem_map.mp ha
    have := hlt _ h
    omega
  have hP0 : va_P D cl (X ++ va_pl L f) F.heap := hP.kept (fun k9 x hx => hold x.1 ((hP k9 x hx).lt))
  have hP1 : va_P D cl ((X ++ va_pl L f) ++ [(H.size, .inl (cA, n.toNatClampNeg, .inr (.inr (.inr (.inr (fun i => if i < n.toNatClampNeg then some (H.size + 1 + i) else none))))))]) F.heap := hP0.app (fun k9 x hx => by
    have h0 : k9 < 1 := (List.getElem?_eq_some_iff.mp hx).1
    rw [show k9 = 0 by omega] at hx
    cases hx
    exact f2)
  have hP2 : va_P D cl (((X ++ va_pl L f) ++ [(H.size, .inl (cA, n.toNatClampNeg, .inr (.inr (.inr (.inr (fun i => if i < n.toNatClampNeg then some (H.size + 1 + i) else none))))))]) ++ ((List.range n.toNatClampNeg).map (fun i => H.size + 1 + i)).map (fun a => (a, .inl (cy, z)))) F.heap := hP1.app (fun k9 x hx => by
    obtain ⟨a, ha, rfl⟩ := List.mem_map.mp (List.mem_of_getElem? hx)
    obtain ⟨i, hi, rfl⟩ := List.mem_map.mp ha
    exact hrow i (List.mem_range.mp hi))
  have hD2 : va_D A (((X ++ va_pl L f) ++ [(H.size, .inl (cA, n.toNatClampNeg, .inr (.inr (.inr (.inr (fun i => if i < n.toNatClampNeg then some (H.size + 1 + i) else none))))))]) ++ ((List.range n.toNatClampNeg).map (fun i => H.size + 1 + i)).map (fun a => (a, .inl (cy, z)))) := by
    have hD1 := hD.push (e := .inl (cA, n.toNatClampNeg, .inr (.inr (.inr (.inr (fun i => if i < n.toNatClampNeg then some (H.size + 1 + i) else none)))))) hP rfl (hA _ hS.1)
    generalize hW1 : (X ++ va_pl L f) ++ [(H.size, .inl (cA, n.toNatClampNeg, .inr (.inr (.inr (.inr (fun i => if i < n.toNatClampNeg then some (H.size + 1 + i) else none))))))] = W1 at hD1 hP1 ⊢
    have hle : ∀ (k9 : Nat) (x : Nat × va_E), W1[k9]? = some x → x.1 ≤ H.size := fun k9 x hx => by
      rw [← hW1] at hx
      by_cases hl : k9 < (X ++ va_pl L f).length
      · rw [List.getElem?_append_left hl] at hx
        exact Nat.le_of_lt ((hP k9 x hx).lt)
      · rw [List.getElem?_append_right (by omega)] at hx
        have h0 : k9 - (X ++ va_pl L f).length < 1 := (List.getElem?_eq_some_iff.mp hx).1
        rw [show k9 - (X ++ va_pl L f).length = 0 by omega] at hx
        cases hx
        exact Nat.le_refl _
    have hr : ∀ (k9 : Nat) (x : Nat × va_E), (((List.range n.toNatClampNeg).map (fun i => H.size + 1 + i)).map (fun a => ((a, .inl (cy, z)) : Nat × va_E)))[k9]? = some x → x.1 = H.size + 1 + k9 := fun k9 x hx => by
      rw [List.getElem?_map, List.getElem?_map] at hx
      by_cases h9 : k9 < n.toNatClampNeg
      · rw [List.getElem?_range h9] at hx
        cases hx
        rfl
      · have hn0 : (List.range n.toNatClampNeg)[k9]? = none := List.getElem?_eq_none (by rw [List.length_range]; omega)
        rw [hn0] at hx
        cases hx
    refine ⟨fun i j x y hi hj hxy => ?_, fun k9 x hx => ?_⟩
    · by_cases h1 : i < W1.length <;> by_cases h2 : j < W1.length
      · rw [List.getElem?_append_left h1] at hi
        rw [List.getElem?_append_left h2] at hj
        exact hD1.1 i j x y hi hj hxy
      · rw [List.getElem?_append_left h1] at hi
        rw [List.getElem?_append_right (by omega)] at hj
        have := hle _ _ hi
        have := hr _ _ hj
        omega
      · rw [List.getElem?_append_right (by omega)] at hi
        rw [List.getElem?_append_left h2] at hj
        have := hle _ _ hj
        have := hr _ _ hi
        omega
      · rw [List.getElem?_append_right (by omega)] at hi hj
        have := hr _ _ hi
        have := hr _ _ hj
        omega
    · by_cases h1 : k9 < W1.length
      · rw [List.getElem?_append_left h1] at hx
        exact hD1.2 k9 x hx
      · rw [List.getElem?_append_right (by omega)] at hx
        have := hr _ _ hx
        exact hA _ (by have := hS.1; omega)
  have hAr : ArrOfT s cA (.array ty) := fun N9 z9 => by
    obtain ⟨-, k9, hk9, cm9, hkk9⟩ := (hO 0 0 0).1
    exact ⟨(fun q hq => by cases hq), k9, hk9, cm9, hkk9⟩
  have hK2 : va_K D cl (tys ++ [(cA, .array ty)]) s := ⟨hK.1, fun k9 x hx => by
    by_cases hl : k9 < tys.length
    · rw [List.getElem?_append_left hl] at hx
      exact hK.2 k9 x hx
    · rw [List.getElem?_append_right (by omega)] at hx
      have h0 : k9 - tys.length < 1 := (List.getElem?_eq_some_iff.mp hx).1
      rw [show k9 - tys.length = 0 by omega] at hx
      cases hx
      exact ⟨hAr, fA⟩⟩
  obtain ⟨t, a1, b1⟩ := kk H.size (fun i => H.size + 1 + i) cA F.heap (fun i j _ _ h => by have h9 : H.size + 1 + i = H.size + 1 + j := h; omega) hnl hK2 (by rw [← vr_rows hnm]; exact vr_lay hP2) (by rw [← vr_rows hnm]; exact vr_layD hD2) ⟨by rw [f1]; have := hS.1; omega, fun x h1 h2 => (hold x (Nat.lt_of_lt_of_le h1 hS.1)).trans (hS.2.1 x h1 h2), hS.2.2⟩ F rfl X'
  refine ⟨t, step t ?_, b1⟩
  have e : T.heap.size = H.size := by rw [hT]
  rw [e]
  exact a1
end VGM
/-! ===== END ===== -/

/-! ===== BEGIN printed: names, fields, word lists, decode rows ===== -/
def RX0 : String := "LastWord$Affairs"
def TX0 : u_T := fun k => match k with
  | 0 => ("LastWord$Affairs", "today", "I", false)
  | 1 => ("LastWord$Affairs", "letters", "I", false)
  | 2 => ("LastWord$Affairs", "quarrels", "I", false)
  | 3 => ("LastWord$Affairs", "laid", "I", false)
  | 4 => ("LastWord$Affairs", "lateTimes", "[I", true)
  | 5 => ("LastWord$Affairs", "author", "[I", true)
  | 6 => ("LastWord$Affairs", "subject", "[I", true)
  | 7 => ("LastWord$Affairs", "printedOn", "[I", true)
  | 8 => ("LastWord$Affairs", "owes", "[I", true)
  | 9 => ("LastWord$Affairs", "work", "[I", true)
  | _ => ("LastWord$Affairs", "late", "[I", true)
def tyX0 : Nat → FieldType := fun k => match k with
  | 0 => .int
  | 1 => .int
  | 2 => .int
  | 3 => .int
  | 4 => .array .int
  | 5 => .array .int
  | 6 => .array .int
  | 7 => .array .int
  | 8 => .array .int
  | 9 => .array .int
  | _ => .array .int
abbrev wsX00 : List Cond := u_ws RX0 TX0 11
theorem nmX0 : ∀ a, a < 11 → ∀ b, b < 11 → a ≠ b → (TX0 a).2.1 ≠ (TX0 b).2.1 := by decide +kernel
theorem tyX0_ok : ∀ k, k < 11 → parseFieldDescriptor (TX0 k).2.2.1 = some (tyX0 k) := by decide +kernel
abbrev cX0_init : ByteArray := prog_2_method_1_code
def yX0_init : MethodName := ⟨RX0, "<init>", "()V"⟩
abbrev cX0_copy : ByteArray := prog_2_method_2_code
def yX0_copy : MethodName := ⟨RX0, "copy", "(LLastWord$Affairs;)V"⟩
abbrev cX0_beginAnew : ByteArray := prog_2_method_3_code
def yX0_beginAnew : MethodName := ⟨RX0, "beginAnew", "()V"⟩
abbrev cX0_hasQuarrel : ByteArray := prog_2_method_4_code
def yX0_hasQuarrel : MethodName := ⟨RX0, "hasQuarrel", "(I)Z"⟩
abbrev cX0_hasLaid : ByteArray := prog_2_method_5_code
def yX0_hasLaid : MethodName := ⟨RX0, "hasLaid", "(I)Z"⟩
abbrev cX0_owedBits : ByteArray := prog_2_method_6_code
def yX0_owedBits : MethodName := ⟨RX0, "owedBits", "(I)I"⟩
abbrev cX0_owedBy : ByteArray := prog_2_method_7_code
def yX0_owedBy : MethodName := ⟨RX0, "owedBy", "(I)I"⟩
abbrev cX0_closedBits : ByteArray := prog_2_method_8_code
def yX0_closedBits : MethodName := ⟨RX0, "closedBits", "()I"⟩
abbrev cX0_lastWordsOf : ByteArray := prog_2_method_9_code
def yX0_lastWordsOf : MethodName := ⟨RX0, "lastWordsOf", "(I)I"⟩
abbrev cX0_begin : ByteArray := prog_2_method_10_code
def yX0_begin : MethodName := ⟨RX0, "begin", "(LLastWord$Page;II)I"⟩
abbrev cX0_layDown : ByteArray := prog_2_method_11_code
def yX0_layDown : MethodName := ⟨RX0, "layDown", "(LLastWord$Page;I)I"⟩
abbrev cX0_passDay : ByteArray := prog_2_method_12_code
def yX0_passDay : MethodName := ⟨RX0, "passDay", "(LLastWord$Page;)I"⟩
abbrev cX0_firstNewlyLate : ByteArray := prog_2_method_13_code
def yX0_firstNewlyLate : MethodName := ⟨RX0, "firstNewlyLate", "(I)I"⟩
abbrev cX0_canKeep : ByteArray := prog_2_method_14_code
def yX0_canKeep : MethodName := ⟨RX0, "canKeep", "(II)Z"⟩
abbrev cX0_workUpTo : ByteArray := prog_2_method_15_code
def yX0_workUpTo : MethodName := ⟨RX0, "workUpTo", "(II)I"⟩
abbrev cX0_turnsLate : ByteArray := prog_2_method_16_code
def yX0_turnsLate : MethodName := ⟨RX0, "turnsLate", "(II)Z"⟩
abbrev cX0_onDeskOf : ByteArray := prog_2_method_17_code
def yX0_onDeskOf : MethodName := ⟨RX0, "onDeskOf", "(I)I"⟩
abbrev cX0_print : ByteArray := prog_2_method_18_code
def yX0_print : MethodName := ⟨RX0, "print", "(LLastWord$Page;III)V"⟩
abbrev cX0_charge : ByteArray := prog_2_method_19_code
def yX0_charge : MethodName := ⟨RX0, "charge", "(LLastWord$Page;I)V"⟩
def RX1 : String := "LastWord$Album"
def TX1 : u_T := fun k => match k with
  | 0 => ("LastWord$Album", "images", "[LLastWord$Affairs;", true)
  | _ => ("LastWord$Album", "kept", "I", false)
def tyX1 : Nat → FieldType := fun k => match k with
  | 0 => .array (.object "LastWord$Affairs")
  | _ => .int
abbrev wsX10 : List Cond := u_ws RX1 TX1 2
theorem nmX1 : ∀ a, a < 2 → ∀ b, b < 2 → a ≠ b → (TX1 a).2.1 ≠ (TX1 b).2.1 := by decide +kernel
theorem tyX1_ok : ∀ k, k < 2 → parseFieldDescriptor (TX1 k).2.2.1 = some (tyX1 k) := by decide +kernel
abbrev cX1_init : ByteArray := prog_3_method_1_code
def yX1_init : MethodName := ⟨RX1, "<init>", "()V"⟩
abbrev cX1_hasPlace : ByteArray := prog_3_method_2_code
def yX1_hasPlace : MethodName := ⟨RX1, "hasPlace", "(I)Z"⟩
abbrev cX1_isKept : ByteArray := prog_3_method_3_code
def yX1_isKept : MethodName := ⟨RX1, "isKept", "(I)Z"⟩
abbrev cX1_put : ByteArray := prog_3_method_4_code
def yX1_put : MethodName := ⟨RX1, "put", "(ILLastWord$Affairs;)V"⟩
abbrev cX1_take : ByteArray := prog_3_method_5_code
def yX1_take : MethodName := ⟨RX1, "take", "(ILLastWord$Affairs;)V"⟩
abbrev cX1_drop : ByteArray := prog_3_method_6_code
def yX1_drop : MethodName := ⟨RX1, "drop", "()V"⟩
def RX2 : String := "LastWord$Course"
def TX2 : u_T := fun k => match k with
  | 0 => ("LastWord$Course", "length", "I", false)
  | _ => ("LastWord$Course", "lastAuthor", "I", false)
def tyX2 : Nat → FieldType := fun k => match k with
  | 0 => .int
  | _ => .int
abbrev wsX20 : List Cond := u_ws RX2 TX2 2
theorem nmX2 : ∀ a, a < 2 → ∀ b, b < 2 → a ≠ b → (TX2 a).2.1 ≠ (TX2 b).2.1 := by decide +kernel
theorem tyX2_ok : ∀ k, k < 2 → parseFieldDescriptor (TX2 k).2.2.1 = some (tyX2 k) := by decide +kernel
abbrev cX2_init : ByteArray := prog_4_method_1_code
def yX2_init : MethodName := ⟨RX2, "<init>", "()V"⟩
abbrev cX2_follow : ByteArray := prog_4_method_2_code
def yX2_follow : MethodName := ⟨RX2, "follow", "(LLastWord$Page;III)V"⟩
def RX3 : String := "LastWord$Findings"
def TX3 : u_T := fun k => match k with
  | 0 => ("LastWord$Findings", "many", "I", false)
  | 1 => ("LastWord$Findings", "author", "[I", true)
  | 2 => ("LastWord$Findings", "subject", "[I", true)
  | _ => ("LastWord$Findings", "answerer", "[I", true)
def tyX3 : Nat → FieldType := fun k => match k with
  | 0 => .int
  | 1 => .array .int
  | 2 => .array .int
  | _ => .array .int
abbrev wsX30 : List Cond := u_ws RX3 TX3 4
theorem nmX3 : ∀ a, a < 4 → ∀ b, b < 4 → a ≠ b → (TX3 a).2.1 ≠ (TX3 b).2.1 := by decide +kernel
theorem tyX3_ok : ∀ k, k < 4 → parseFieldDescriptor (TX3 k).2.2.1 = some (tyX3 k) := by decide +kernel
abbrev cX3_init : ByteArray := prog_5_method_1_code
def yX3_init : MethodName := ⟨RX3, "<init>", "()V"⟩
abbrev cX3_add : ByteArray := prog_5_method_2_code
def yX3_add : MethodName := ⟨RX3, "add", "(III)I"⟩
abbrev cX3_drop : ByteArray := prog_5_method_3_code
def yX3_drop : MethodName := ⟨RX3, "drop", "()I"⟩
abbrev cX3_areSo : ByteArray := prog_5_method_4_code
def yX3_areSo : MethodName := ⟨RX3, "areSo", "(LLastWord$Page;)Z"⟩
def RX4 : String := "LastWord$History"
def TX4 : u_T := fun k => match k with
  | 0 => ("LastWord$History", "ring", "[LLastWord$Affairs;", true)
  | 1 => ("LastWord$History", "known", "I", false)
  | _ => ("LastWord$History", "next", "I", false)
def tyX4 : Nat → FieldType := fun k => match k with
  | 0 => .array (.object "LastWord$Affairs")
  | 1 => .int
  | _ => .int
abbrev wsX40 : List Cond := u_ws RX4 TX4 3
theorem nmX4 : ∀ a, a < 3 → ∀ b, b < 3 → a ≠ b → (TX4 a).2.1 ≠ (TX4 b).2.1 := by decide +kernel
theorem tyX4_ok : ∀ k, k < 3 → parseFieldDescriptor (TX4 k).2.2.1 = some (tyX4 k) := by decide +kernel
abbrev cX4_init : ByteArray := prog_6_method_1_code
def yX4_init : MethodName := ⟨RX4, "<init>", "()V"⟩
abbrev cX4_remember : ByteArray := prog_6_method_2_code
def yX4_remember : MethodName := ⟨RX4, "remember", "(LLastWord$Affairs;)V"⟩
abbrev cX4_recall : ByteArray := prog_6_method_3_code
def yX4_recall : MethodName := ⟨RX4, "recall", "(LLastWord$Affairs;)V"⟩
abbrev cX4_drop : ByteArray := prog_6_method_4_code
def yX4_drop : MethodName := ⟨RX4, "drop", "()V"⟩
def RX5 : String := "LastWord$Page"
def TX5 : u_T := fun k => match k with
  | 0 => ("LastWord$Page", "writers", "I", false)
  | 1 => ("LastWord$Page", "term", "I", false)
  | 2 => ("LastWord$Page", "pen", "[I", true)
  | 3 => ("LastWord$Page", "hobby", "[I", true)
  | _ => ("LastWord$Page", "near", "[[I", true)
def tyX5 : Nat → FieldType := fun k => match k with
  | 0 => .int
  | 1 => .int
  | 2 => .array .int
  | 3 => .array .int
  | _ => .array (.array .int)
abbrev wsX50 : List Cond := u_ws RX5 TX5 5
theorem nmX5 : ∀ a, a < 5 → ∀ b, b < 5 → a ≠ b → (TX5 a).2.1 ≠ (TX5 b).2.1 := by decide +kernel
theorem tyX5_ok : ∀ k, k < 5 → parseFieldDescriptor (TX5 k).2.2.1 = some (tyX5 k) := by decide +kernel
abbrev cX5_init : ByteArray := prog_7_method_1_code
def yX5_init : MethodName := ⟨RX5, "<init>", "()V"⟩
abbrev cX5_blank : ByteArray := prog_7_method_2_code
def yX5_blank : MethodName := ⟨RX5, "blank", "()V"⟩
abbrev cX5_hasWriter : ByteArray := prog_7_method_3_code
def yX5_hasWriter : MethodName := ⟨RX5, "hasWriter", "(I)Z"⟩
abbrev cX5_everybody : ByteArray := prog_7_method_4_code
def yX5_everybody : MethodName := ⟨RX5, "everybody", "()I"⟩
abbrev cX5_answerer : ByteArray := prog_7_method_5_code
def yX5_answerer : MethodName := ⟨RX5, "answerer", "(III)I"⟩
abbrev cX5_answerOn : ByteArray := prog_7_method_6_code
def yX5_answerOn : MethodName := ⟨RX5, "answerOn", "(II)I"⟩
def RX6 : String := "LastWord$Text"
def TX6 : u_T := fun k => match k with
  | 0 => ("LastWord$Text", "letters", "[I", true)
  | 1 => ("LastWord$Text", "length", "I", false)
  | 2 => ("LastWord$Text", "place", "I", false)
  | 3 => ("LastWord$Text", "termTold", "Z", false)
  | 4 => ("LastWord$Text", "start", "I", false)
  | 5 => ("LastWord$Text", "token", "I", false)
  | _ => ("LastWord$Text", "value", "I", false)
def tyX6 : Nat → FieldType := fun k => match k with
  | 0 => .array .int
  | 1 => .int
  | 2 => .int
  | 3 => .boolean
  | 4 => .int
  | 5 => .int
  | _ => .int
abbrev wsX60 : List Cond := u_ws RX6 TX6 7
theorem nmX6 : ∀ a, a < 7 → ∀ b, b < 7 → a ≠ b → (TX6 a).2.1 ≠ (TX6 b).2.1 := by decide +kernel
theorem tyX6_ok : ∀ k, k < 7 → parseFieldDescriptor (TX6 k).2.2.1 = some (tyX6 k) := by decide +kernel
abbrev cX6_init : ByteArray := prog_8_method_1_code
def yX6_init : MethodName := ⟨RX6, "<init>", "()V"⟩
abbrev cX6_add : ByteArray := prog_8_method_2_code
def yX6_add : MethodName := ⟨RX6, "add", "(I)I"⟩
abbrev cX6_empty : ByteArray := prog_8_method_3_code
def yX6_empty : MethodName := ⟨RX6, "empty", "()I"⟩
abbrev cX6_readInto : ByteArray := prog_8_method_4_code
def yX6_readInto : MethodName := ⟨RX6, "readInto", "(LLastWord$Page;)I"⟩
abbrev cX6_readWriter : ByteArray := prog_8_method_5_code
def yX6_readWriter : MethodName := ⟨RX6, "readWriter", "(LLastWord$Page;)Z"⟩
abbrev cX6_readTerm : ByteArray := prog_8_method_6_code
def yX6_readTerm : MethodName := ⟨RX6, "readTerm", "(LLastWord$Page;)Z"⟩
abbrev cX6_readSemicolon : ByteArray := prog_8_method_7_code
def yX6_readSemicolon : MethodName := ⟨RX6, "readSemicolon", "()Z"⟩
abbrev cX6_readNumber : ByteArray := prog_8_method_8_code
def yX6_readNumber : MethodName := ⟨RX6, "readNumber", "(II)Z"⟩
abbrev cX6_nextToken : ByteArray := prog_8_method_9_code
def yX6_nextToken : MethodName := ⟨RX6, "nextToken", "()V"⟩
abbrev cX6_takeDigits : ByteArray := prog_8_method_10_code
def yX6_takeDigits : MethodName := ⟨RX6, "takeDigits", "()V"⟩
abbrev cX6_isDigit : ByteArray := prog_8_method_11_code
def yX6_isDigit : MethodName := ⟨RX6, "isDigit", "(I)Z"⟩
def RX7 : String := "LastWord"
def TX7 : u_T := fun k => match k with
  | 0 => ("LastWord", "text", "LLastWord$Text;", true)
  | 1 => ("LastWord", "page", "LLastWord$Page;", false)
  | 2 => ("LastWord", "spare", "LLastWord$Page;", false)
  | 3 => ("LastWord", "affairs", "LLastWord$Affairs;", true)
  | 4 => ("LastWord", "ahead", "LLastWord$Affairs;", true)
  | 5 => ("LastWord", "history", "LLastWord$History;", true)
  | 6 => ("LastWord", "album", "LLastWord$Album;", true)
  | 7 => ("LastWord", "findings", "LLastWord$Findings;", true)
  | 8 => ("LastWord", "course", "LLastWord$Course;", true)
  | _ => ("LastWord", "asked", "J", false)
def tyX7 : Nat → FieldType := fun k => match k with
  | 0 => .object "LastWord$Text"
  | 1 => .object "LastWord$Page"
  | 2 => .object "LastWord$Page"
  | 3 => .object "LastWord$Affairs"
  | 4 => .object "LastWord$Affairs"
  | 5 => .object "LastWord$History"
  | 6 => .object "LastWord$Album"
  | 7 => .object "LastWord$Findings"
  | 8 => .object "LastWord$Course"
  | _ => .long
abbrev wsX70 : List Cond := u_ws RX7 TX7 10
theorem nmX7 : ∀ a, a < 10 → ∀ b, b < 10 → a ≠ b → (TX7 a).2.1 ≠ (TX7 b).2.1 := by decide +kernel
theorem tyX7_ok : ∀ k, k < 10 → parseFieldDescriptor (TX7 k).2.2.1 = some (tyX7 k) := by decide +kernel
abbrev cX7_init : ByteArray := prog_1_method_1_code
def yX7_init : MethodName := ⟨RX7, "<init>", "()V"⟩
abbrev cX7_type : ByteArray := prog_1_method_2_code
def yX7_type : MethodName := ⟨RX7, "type", "(I)I"⟩
abbrev cX7_clear : ByteArray := prog_1_method_3_code
def yX7_clear : MethodName := ⟨RX7, "clear", "()I"⟩
abbrev cX7_paper : ByteArray := prog_1_method_4_code
def yX7_paper : MethodName := ⟨RX7, "paper", "()I"⟩
abbrev cX7_writer : ByteArray := prog_1_method_5_code
def yX7_writer : MethodName := ⟨RX7, "writer", "(II)I"⟩
abbrev cX7_quarrel : ByteArray := prog_1_method_6_code
def yX7_quarrel : MethodName := ⟨RX7, "quarrel", "(II)I"⟩
abbrev cX7_meant : ByteArray := prog_1_method_7_code
def yX7_meant : MethodName := ⟨RX7, "meant", "(II)I"⟩
abbrev cX7_now : ByteArray := prog_1_method_8_code
def yX7_now : MethodName := ⟨RX7, "now", "(I)I"⟩
abbrev cX7_writes : ByteArray := prog_1_method_9_code
def yX7_writes : MethodName := ⟨RX7, "writes", "(II)I"⟩
abbrev cX7_day : ByteArray := prog_1_method_10_code
def yX7_day : MethodName := ⟨RX7, "day", "()I"⟩
abbrev cX7_lays : ByteArray := prog_1_method_11_code
def yX7_lays : MethodName := ⟨RX7, "lays", "(I)I"⟩
abbrev cX7_undo : ByteArray := prog_1_method_12_code
def yX7_undo : MethodName := ⟨RX7, "undo", "()I"⟩
abbrev cX7_inDays : ByteArray := prog_1_method_13_code
def yX7_inDays : MethodName := ⟨RX7, "inDays", "(III)I"⟩
abbrev cX7_ends : ByteArray := prog_1_method_14_code
def yX7_ends : MethodName := ⟨RX7, "ends", "(I)I"⟩
abbrev cX7_round : ByteArray := prog_1_method_15_code
def yX7_round : MethodName := ⟨RX7, "round", "(III)I"⟩
abbrev cX7_last : ByteArray := prog_1_method_16_code
def yX7_last : MethodName := ⟨RX7, "last", "(I)I"⟩
abbrev cX7_bindsNobody : ByteArray := prog_1_method_17_code
def yX7_bindsNobody : MethodName := ⟨RX7, "bindsNobody", "(I)I"⟩
abbrev cX7_keeps : ByteArray := prog_1_method_18_code
def yX7_keeps : MethodName := ⟨RX7, "keeps", "(I)I"⟩
abbrev cX7_lateFirst : ByteArray := prog_1_method_19_code
def yX7_lateFirst : MethodName := ⟨RX7, "lateFirst", "(I)I"⟩
abbrev cX7_peace : ByteArray := prog_1_method_20_code
def yX7_peace : MethodName := ⟨RX7, "peace", "(I)I"⟩
abbrev cX7_found : ByteArray := prog_1_method_21_code
def yX7_found : MethodName := ⟨RX7, "found", "(III)I"⟩
abbrev cX7_forget : ByteArray := prog_1_method_22_code
def yX7_forget : MethodName := ⟨RX7, "forget", "()I"⟩
abbrev cX7_mayBe : ByteArray := prog_1_method_23_code
def yX7_mayBe : MethodName := ⟨RX7, "mayBe", "(II)I"⟩
abbrev cX7_odds : ByteArray := prog_1_method_24_code
def yX7_odds : MethodName := ⟨RX7, "odds", "(IIII)I"⟩
abbrev cX7_most : ByteArray := prog_1_method_25_code
def yX7_most : MethodName := ⟨RX7, "most", "()I"⟩
abbrev cX7_titles : ByteArray := prog_1_method_26_code
def yX7_titles : MethodName := ⟨RX7, "titles", "(II)I"⟩
abbrev cX7_rate : ByteArray := prog_1_method_27_code
def yX7_rate : MethodName := ⟨RX7, "rate", "(II)I"⟩
abbrev cX7_keep : ByteArray := prog_1_method_28_code
def yX7_keep : MethodName := ⟨RX7, "keep", "(I)I"⟩
abbrev cX7_back : ByteArray := prog_1_method_29_code
def yX7_back : MethodName := ⟨RX7, "back", "(I)I"⟩
abbrev cX7_count : ByteArray := prog_1_method_30_code
def yX7_count : MethodName := ⟨RX7, "count", "(I)I"⟩
abbrev cX7_trace : ByteArray := prog_1_method_31_code
def yX7_trace : MethodName := ⟨RX7, "trace", "()J"⟩
abbrev cX7_mayStand : ByteArray := prog_1_method_32_code
def yX7_mayStand : MethodName := ⟨RX7, "mayStand", "(II)Z"⟩
abbrev cX7_hasLastWord : ByteArray := prog_1_method_33_code
def yX7_hasLastWord : MethodName := ⟨RX7, "hasLastWord", "(III)Z"⟩
abbrev cX7_daysTillClosed : ByteArray := prog_1_method_34_code
def yX7_daysTillClosed : MethodName := ⟨RX7, "daysTillClosed", "(I)I"⟩
abbrev cX7_endsWithout : ByteArray := prog_1_method_35_code
def yX7_endsWithout : MethodName := ⟨RX7, "endsWithout", "(II)Z"⟩
abbrev cX7_rateOfWriter : ByteArray := prog_1_method_36_code
def yX7_rateOfWriter : MethodName := ⟨RX7, "rateOfWriter", "(I)I"⟩
abbrev cX7_rateOfColonel : ByteArray := prog_1_method_37_code
def yX7_rateOfColonel : MethodName := ⟨RX7, "rateOfColonel", "(I)I"⟩
abbrev cX7_rateOfDuke : ByteArray := prog_1_method_38_code
def yX7_rateOfDuke : MethodName := ⟨RX7, "rateOfDuke", "(I)I"⟩
abbrev cX7_rateOfVicar : ByteArray := prog_1_method_39_code
def yX7_rateOfVicar : MethodName := ⟨RX7, "rateOfVicar", "(I)I"⟩
abbrev cX7_rateOfPoet : ByteArray := prog_1_method_40_code
def yX7_rateOfPoet : MethodName := ⟨RX7, "rateOfPoet", "(I)I"⟩
abbrev cX7_rateOfHeir : ByteArray := prog_1_method_41_code
def yX7_rateOfHeir : MethodName := ⟨RX7, "rateOfHeir", "(I)I"⟩
abbrev cX7_power : ByteArray := prog_1_method_42_code
def yX7_power : MethodName := ⟨RX7, "power", "(II)I"⟩
abbrev cX7_commonDivisor : ByteArray := prog_1_method_43_code
def yX7_commonDivisor : MethodName := ⟨RX7, "commonDivisor", "(II)I"⟩
def RX8 : String := "LastWordModel"
def TX8 : u_T := fun k => match k with
  | 0 => ("LastWordModel", "text", "[I", true)
  | 1 => ("LastWordModel", "size", "I", false)
  | 2 => ("LastWordModel", "at", "I", false)
  | 3 => ("LastWordModel", "begin", "I", false)
  | 4 => ("LastWordModel", "token", "I", false)
  | 5 => ("LastWordModel", "told", "I", false)
  | 6 => ("LastWordModel", "read", "[I", true)
  | 7 => ("LastWordModel", "paper", "[I", true)
  | 8 => ("LastWordModel", "now", "[I", true)
  | 9 => ("LastWordModel", "undone", "[I", true)
  | 10 => ("LastWordModel", "undos", "I", false)
  | 11 => ("LastWordModel", "newly", "I", false)
  | 12 => ("LastWordModel", "aside", "[I", true)
  | 13 => ("LastWordModel", "lastWriter", "I", false)
  | 14 => ("LastWordModel", "founds", "I", false)
  | 15 => ("LastWordModel", "finds", "[I", true)
  | 16 => ("LastWordModel", "trace", "J", false)
  | _ => ("LastWordModel", "kept", "[I", true)
def tyX8 : Nat → FieldType := fun k => match k with
  | 0 => .array .int
  | 1 => .int
  | 2 => .int
  | 3 => .int
  | 4 => .int
  | 5 => .int
  | 6 => .array .int
  | 7 => .array .int
  | 8 => .array .int
  | 9 => .array .int
  | 10 => .int
  | 11 => .int
  | 12 => .array .int
  | 13 => .int
  | 14 => .int
  | 15 => .array .int
  | 16 => .long
  | _ => .array .int
abbrev wsX80 : List Cond := u_ws RX8 TX8 18
theorem nmX8 : ∀ a, a < 18 → ∀ b, b < 18 → a ≠ b → (TX8 a).2.1 ≠ (TX8 b).2.1 := by decide +kernel
theorem tyX8_ok : ∀ k, k < 18 → parseFieldDescriptor (TX8 k).2.2.1 = some (tyX8 k) := by decide +kernel
abbrev cX8_in : ByteArray := prog_10_method_2_code
def yX8_in : MethodName := ⟨RX8, "in", "(JJJ)Z"⟩
abbrev cX8_init : ByteArray := prog_10_method_3_code
def yX8_init : MethodName := ⟨RX8, "<init>", "()V"⟩
abbrev cX8_type : ByteArray := prog_10_method_4_code
def yX8_type : MethodName := ⟨RX8, "type", "(I)I"⟩
abbrev cX8_clear : ByteArray := prog_10_method_5_code
def yX8_clear : MethodName := ⟨RX8, "clear", "()I"⟩
abbrev cX8_isFigure : ByteArray := prog_10_method_6_code
def yX8_isFigure : MethodName := ⟨RX8, "isFigure", "(I)Z"⟩
abbrev cX8_reads : ByteArray := prog_10_method_7_code
def yX8_reads : MethodName := ⟨RX8, "reads", "()V"⟩
abbrev cX8_number : ByteArray := prog_10_method_8_code
def yX8_number : MethodName := ⟨RX8, "number", "(II)Z"⟩
abbrev cX8_itemEnds : ByteArray := prog_10_method_9_code
def yX8_itemEnds : MethodName := ⟨RX8, "itemEnds", "()Z"⟩
abbrev cX8_plain : ByteArray := prog_10_method_10_code
def yX8_plain : MethodName := ⟨RX8, "plain", "()V"⟩
abbrev cX8_readItem : ByteArray := prog_10_method_11_code
def yX8_readItem : MethodName := ⟨RX8, "readItem", "()Z"⟩
abbrev cX8_paper : ByteArray := prog_10_method_12_code
def yX8_paper : MethodName := ⟨RX8, "paper", "()I"⟩
abbrev cX8_takes : ByteArray := prog_10_method_13_code
def yX8_takes : MethodName := ⟨RX8, "takes", "()V"⟩
abbrev cX8_isWriter : ByteArray := prog_10_method_14_code
def yX8_isWriter : MethodName := ⟨RX8, "isWriter", "(I)Z"⟩
abbrev cX8_isQuarrel : ByteArray := prog_10_method_15_code
def yX8_isQuarrel : MethodName := ⟨RX8, "isQuarrel", "(I)Z"⟩
abbrev cX8_isSubject : ByteArray := prog_10_method_16_code
def yX8_isSubject : MethodName := ⟨RX8, "isSubject", "(I)Z"⟩
abbrev cX8_pen : ByteArray := prog_10_method_17_code
def yX8_pen : MethodName := ⟨RX8, "pen", "(I)I"⟩
abbrev cX8_near : ByteArray := prog_10_method_18_code
def yX8_near : MethodName := ⟨RX8, "near", "(II)I"⟩
abbrev cX8_hasLaid : ByteArray := prog_10_method_19_code
def yX8_hasLaid : MethodName := ⟨RX8, "hasLaid", "(I)Z"⟩
abbrev cX8_meantOf : ByteArray := prog_10_method_20_code
def yX8_meantOf : MethodName := ⟨RX8, "meantOf", "(III)I"⟩
abbrev cX8_answers : ByteArray := prog_10_method_21_code
def yX8_answers : MethodName := ⟨RX8, "answers", "(II)I"⟩
abbrev cX8_at : ByteArray := prog_10_method_22_code
def yX8_at : MethodName := ⟨RX8, "at", "(II)I"⟩
abbrev cX8_owes : ByteArray := prog_10_method_23_code
def yX8_owes : MethodName := ⟨RX8, "owes", "(I)I"⟩
abbrev cX8_words : ByteArray := prog_10_method_24_code
def yX8_words : MethodName := ⟨RX8, "words", "(I)I"⟩
abbrev cX8_writer : ByteArray := prog_10_method_25_code
def yX8_writer : MethodName := ⟨RX8, "writer", "(II)I"⟩
abbrev cX8_quarrel : ByteArray := prog_10_method_26_code
def yX8_quarrel : MethodName := ⟨RX8, "quarrel", "(II)I"⟩
abbrev cX8_meant : ByteArray := prog_10_method_27_code
def yX8_meant : MethodName := ⟨RX8, "meant", "(II)I"⟩
abbrev cX8_now : ByteArray := prog_10_method_28_code
def yX8_now : MethodName := ⟨RX8, "now", "(I)I"⟩
abbrev cX8_notes : ByteArray := prog_10_method_29_code
def yX8_notes : MethodName := ⟨RX8, "notes", "()V"⟩
abbrev cX8_means : ByteArray := prog_10_method_30_code
def yX8_means : MethodName := ⟨RX8, "means", "(I)V"⟩
abbrev cX8_prints : ByteArray := prog_10_method_31_code
def yX8_prints : MethodName := ⟨RX8, "prints", "(III)V"⟩
abbrev cX8_writes : ByteArray := prog_10_method_32_code
def yX8_writes : MethodName := ⟨RX8, "writes", "(II)I"⟩
abbrev cX8_worksOn : ByteArray := prog_10_method_33_code
def yX8_worksOn : MethodName := ⟨RX8, "worksOn", "(I)I"⟩
abbrev cX8_goesBy : ByteArray := prog_10_method_34_code
def yX8_goesBy : MethodName := ⟨RX8, "goesBy", "()I"⟩
abbrev cX8_day : ByteArray := prog_10_method_35_code
def yX8_day : MethodName := ⟨RX8, "day", "()I"⟩
abbrev cX8_laysDown : ByteArray := prog_10_method_36_code
def yX8_laysDown : MethodName := ⟨RX8, "laysDown", "(I)I"⟩
abbrev cX8_lays : ByteArray := prog_10_method_37_code
def yX8_lays : MethodName := ⟨RX8, "lays", "(I)I"⟩
abbrev cX8_undo : ByteArray := prog_10_method_38_code
def yX8_undo : MethodName := ⟨RX8, "undo", "()I"⟩
abbrev cX8_asides : ByteArray := prog_10_method_39_code
def yX8_asides : MethodName := ⟨RX8, "asides", "()V"⟩
abbrev cX8_backs : ByteArray := prog_10_method_40_code
def yX8_backs : MethodName := ⟨RX8, "backs", "()V"⟩
abbrev cX8_inDays : ByteArray := prog_10_method_41_code
def yX8_inDays : MethodName := ⟨RX8, "inDays", "(III)I"⟩
abbrev cX8_closes : ByteArray := prog_10_method_42_code
def yX8_closes : MethodName := ⟨RX8, "closes", "(I)I"⟩
abbrev cX8_ends : ByteArray := prog_10_method_43_code
def yX8_ends : MethodName := ⟨RX8, "ends", "(I)I"⟩
abbrev cX8_letters : ByteArray := prog_10_method_44_code
def yX8_letters : MethodName := ⟨RX8, "letters", "(III)I"⟩
abbrev cX8_round : ByteArray := prog_10_method_45_code
def yX8_round : MethodName := ⟨RX8, "round", "(III)I"⟩
abbrev cX8_last : ByteArray := prog_10_method_46_code
def yX8_last : MethodName := ⟨RX8, "last", "(I)I"⟩
abbrev cX8_bindsNobody : ByteArray := prog_10_method_47_code
def yX8_bindsNobody : MethodName := ⟨RX8, "bindsNobody", "(I)I"⟩
abbrev cX8_isInTime : ByteArray := prog_10_method_48_code
def yX8_isInTime : MethodName := ⟨RX8, "isInTime", "(I)Z"⟩
abbrev cX8_many : ByteArray := prog_10_method_49_code
def yX8_many : MethodName := ⟨RX8, "many", "(I)I"⟩
abbrev cX8_keeps : ByteArray := prog_10_method_50_code
def yX8_keeps : MethodName := ⟨RX8, "keeps", "(I)I"⟩
abbrev cX8_lateFirst : ByteArray := prog_10_method_51_code
def yX8_lateFirst : MethodName := ⟨RX8, "lateFirst", "(I)I"⟩
abbrev cX8_peace : ByteArray := prog_10_method_52_code
def yX8_peace : MethodName := ⟨RX8, "peace", "(I)I"⟩
abbrev cX8_found : ByteArray := prog_10_method_53_code
def yX8_found : MethodName := ⟨RX8, "found", "(III)I"⟩
abbrev cX8_forget : ByteArray := prog_10_method_54_code
def yX8_forget : MethodName := ⟨RX8, "forget", "()I"⟩
abbrev cX8_mayBe : ByteArray := prog_10_method_55_code
def yX8_mayBe : MethodName := ⟨RX8, "mayBe", "(II)I"⟩
abbrev cX8_odds : ByteArray := prog_10_method_56_code
def yX8_odds : MethodName := ⟨RX8, "odds", "(IIII)I"⟩
abbrev cX8_most : ByteArray := prog_10_method_57_code
def yX8_most : MethodName := ⟨RX8, "most", "()I"⟩
abbrev cX8_titles : ByteArray := prog_10_method_58_code
def yX8_titles : MethodName := ⟨RX8, "titles", "(II)I"⟩
abbrev cX8_rate : ByteArray := prog_10_method_59_code
def yX8_rate : MethodName := ⟨RX8, "rate", "(II)I"⟩
abbrev cX8_trace : ByteArray := prog_10_method_60_code
def yX8_trace : MethodName := ⟨RX8, "trace", "()J"⟩
abbrev cX8_keep : ByteArray := prog_10_method_61_code
def yX8_keep : MethodName := ⟨RX8, "keep", "(I)I"⟩
abbrev cX8_back : ByteArray := prog_10_method_62_code
def yX8_back : MethodName := ⟨RX8, "back", "(I)I"⟩
abbrev cX8_count : ByteArray := prog_10_method_63_code
def yX8_count : MethodName := ⟨RX8, "count", "(I)I"⟩
def RJ6 : String := "java/lang/Integer"
def TJ6 : u_T := fun k => match k with
  | _ => ("", "", "", false)
def tyJ6 : Nat → FieldType := fun k => match k with
  | _ => .int
abbrev wsJ60 : List Cond := u_ws RJ6 TJ6 0
theorem nmJ6 : ∀ a, a < 0 → ∀ b, b < 0 → a ≠ b → (TJ6 a).2.1 ≠ (TJ6 b).2.1 := by decide +kernel
theorem tyJ6_ok : ∀ k, k < 0 → parseFieldDescriptor (TJ6 k).2.2.1 = some (tyJ6 k) := by decide +kernel
abbrev cJ6_bitCount_0f7a4 : ByteArray := prog_11_method_49_code
def yJ6_bitCount_0f7a4 : MethodName := ⟨RJ6, "bitCount", "(I)I"⟩
def RJ9 : String := "java/lang/Math"
def TJ9 : u_T := fun k => match k with
  | _ => ("", "", "", false)
def tyJ9 : Nat → FieldType := fun k => match k with
  | _ => .int
abbrev wsJ90 : List Cond := u_ws RJ9 TJ9 0
theorem nmJ9 : ∀ a, a < 0 → ∀ b, b < 0 → a ≠ b → (TJ9 a).2.1 ≠ (TJ9 b).2.1 := by decide +kernel
theorem tyJ9_ok : ∀ k, k < 0 → parseFieldDescriptor (TJ9 k).2.2.1 = some (tyJ9 k) := by decide +kernel
abbrev cJ9_min_7cf53 : ByteArray := prog_12_method_69_code
def yJ9_min_7cf53 : MethodName := ⟨RJ9, "min", "(II)I"⟩
def RJ10 : String := "java/lang/System"
def TJ10 : u_T := fun k => match k with
  | _ => ("", "", "", false)
def tyJ10 : Nat → FieldType := fun k => match k with
  | _ => .int
abbrev wsJ100 : List Cond := u_ws RJ10 TJ10 0
theorem nmJ10 : ∀ a, a < 0 → ∀ b, b < 0 → a ≠ b → (TJ10 a).2.1 ≠ (TJ10 b).2.1 := by decide +kernel
theorem tyJ10_ok : ∀ k, k < 0 → parseFieldDescriptor (TJ10 k).2.2.1 = some (tyJ10 k) := by decide +kernel
def RL : String := "LastWordLaw"
abbrev cL_law : ByteArray := code
def yL_law : MethodName := ⟨RL, "law", "([I)Z"⟩
abbrev vwCl : List vw_C := [(RX0, TX0, 11), (RX1, TX1, 2), (RX2, TX2, 2), (RX3, TX3, 4), (RX4, TX4, 3), (RX5, TX5, 5), (RX6, TX6, 7), (RX7, TX7, 10), (RX8, TX8, 18)]

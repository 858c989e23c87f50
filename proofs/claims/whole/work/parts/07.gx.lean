/-- the locals by their places: what is listed is held, and is of one word -/
def gx_L (ls : Array Slot) (nL : Nat) (lv : List (Option Value)) : Prop := ls.size = nL ∧ lv_wf ls ∧ ∀ (i : Nat) (v : Value), lv[i]? = some (some v) → ls[i]? = some (.val v) ∧ v.category = 1
def gx_prs (lv : List (Option Value)) : List (Nat × Value) := (List.range lv.length).filterMap (fun i => (lv[i]?.join).map (fun v => (i, v)))
theorem gx_prs_mem {lv : List (Option Value)} {i : Nat} {v : Value} (h : lv[i]? = some (some v)) : (i, v) ∈ gx_prs lv := by
  refine List.mem_filterMap.mpr ⟨i, List.mem_range.mpr (List.getElem?_eq_some_iff.mp h).1, ?_⟩
  rw [h]; rfl
theorem gx_prs_of {lv : List (Option Value)} {q : Nat × Value} (h : q ∈ gx_prs lv) : lv[q.1]? = some (some q.2) := by
  obtain ⟨i, -, hi⟩ := List.mem_filterMap.mp h
  cases hx : lv[i]? with
  | none => rw [hx] at hi; cases hi
  | some x =>
    cases x with
    | none => rw [hx] at hi; cases hi
    | some w => rw [hx] at hi; cases hi; exact hx
theorem gx_L.has {ls : Array Slot} {nL : Nat} {lv : List (Option Value)} (h : gx_L ls nL lv) : lv_has ls nL (gx_prs lv) := ⟨h.1, h.2.1, fun q hq => (h.2.2 q.1 q.2 (gx_prs_of hq)).1⟩
theorem gx_L.got {ls : Array Slot} {nL : Nat} {lv : List (Option Value)} (h : gx_L ls nL lv) {i : Nat} {v : Value} (hv : lv[i]? = some (some v)) : ls[i]? = some (.val v) := (h.2.2 i v hv).1
theorem gx_L.set {ls ls' : Array Slot} {nL : Nat} {lv : List (Option Value)} {i : Nat} {v : Value} (h : gx_L ls nL lv) (hc : v.category = 1) (h' : lv_has ls' nL ((i, v) :: (gx_prs lv).filter (fun q => !(q.1 == i) && !(q.1 + 1 == i && q.2.category == 2)))) : gx_L ls' nL (lv.set i (some v)) := by
  refine ⟨h'.1, h'.2.1, fun j w hj => ?_⟩
  by_cases e : i = j
  · subst e
    rw [List.getElem?_set] at hj
    simp only [if_true] at hj
    split at hj
    · cases hj
      exact ⟨h'.2.2 (i, v) List.mem_cons_self, hc⟩
    · cases hj
  · rw [List.getElem?_set_ne e] at hj
    have hw := (h.2.2 j w hj).2
    refine ⟨h'.2.2 (j, w) (List.mem_cons_of_mem _ (List.mem_filter.mpr ⟨gx_prs_mem hj, ?_⟩)), hw⟩
    have e2 : ¬ j = i := fun q => e q.symm
    simp [e2, hw]
theorem gx_L.sub {ls : Array Slot} {nL : Nat} {lv lv' : List (Option Value)} (h : gx_L ls nL lv) (hs : ∀ (i : Nat) (v : Value), lv'[i]? = some (some v) → lv[i]? = some (some v)) : gx_L ls nL lv' := ⟨h.1, h.2.1, fun i v hv => h.2.2 i v (hs i v hv)⟩
theorem gx_args_mem : ∀ (vs : List Value) (k : Nat), (∀ v ∈ vs, v.category = 1) → ∀ (i : Nat) (v : Value), vs[i]? = some v → (k + i, v) ∈ lv_args k vs
  | [], _, _, i, v, h => by simp at h
  | a :: vs, k, hc, i, v, h => by
    have ha : ¬ a.category = 2 := by rw [hc a List.mem_cons_self]; decide
    cases i with
    | zero => cases h; simp [lv_args]
    | succ i =>
      have := gx_args_mem vs (k + 1) (fun w hw => hc w (List.mem_cons_of_mem _ hw)) i v (by simpa using h)
      simp only [lv_args, ha, if_false]
      refine List.mem_cons_of_mem _ ?_
      rw [show k + (i + 1) = k + 1 + i by omega]
      exact this
theorem gx_L.entry (vs : List Value) {n : Nat} (hc : ∀ v ∈ vs, v.category = 1) (h : (lg_sl vs).length ≤ n) : gx_L ((lg_sl vs ++ List.replicate (n - (lg_sl vs).length) Slot.unset).toArray) n (vs.map some) := by
  have h0 := lv_entry vs h
  refine ⟨h0.1, h0.2.1, fun i v hv => ?_⟩
  rw [List.getElem?_map] at hv
  cases hx : vs[i]? with
  | none => rw [hx] at hv; cases hv
  | some w =>
    rw [hx] at hv
    cases hv
    have := gx_args_mem vs 0 hc i v hx
    rw [Nat.zero_add] at this
    exact ⟨h0.2.2 _ this, hc v (List.mem_of_getElem? hx)⟩
/-- the addresses of a world -/
def gx_in (ws : va_W) : Nat → Prop := fun q => ∃ (k : Nat) (e : va_E), ws[k]? = some (q, e)
theorem gx_D_self {A : Nat → Prop} {ws : va_W} (h : va_D A ws) : va_D (gx_in ws) ws := ⟨h.1, fun k q hk => ⟨k, q.2, hk⟩⟩
theorem gx_fst {ws ws' : va_W} (h : ws'.map (·.1) = ws.map (·.1)) {k : Nat} {q : Nat × va_E} (hk : ws'[k]? = some q) : ∃ e, ws[k]? = some (q.1, e) := by
  have h1 : (ws'.map (·.1))[k]? = some q.1 := by rw [List.getElem?_map, hk]; rfl
  rw [h, List.getElem?_map] at h1
  cases hx : ws[k]? with
  | none => rw [hx] at h1; cases h1
  | some x =>
    rw [hx] at h1
    have h2 : x.1 = q.1 := Option.some.inj h1
    exact ⟨x.2, by rw [← h2]⟩
theorem gx_D_same {A : Nat → Prop} {ws ws' : va_W} (h : ws'.map (·.1) = ws.map (·.1)) (hD : va_D A ws) : va_D A ws' := by
  refine ⟨fun i j x y hi hj hxy => ?_, fun k q hk => ?_⟩
  · obtain ⟨e1, h1⟩ := gx_fst h hi
    obtain ⟨e2, h2⟩ := gx_fst h hj
    exact hD.1 i j _ _ h1 h2 hxy
  · obtain ⟨e1, h1⟩ := gx_fst h hk
    exact hD.2 k (q.1, e1) h1
theorem gx_in_same {ws ws' : va_W} (h : ws'.map (·.1) = ws.map (·.1)) {q : Nat} (hq : gx_in ws' q) : gx_in ws q := by
  obtain ⟨k, e, hk⟩ := hq
  obtain ⟨e1, h1⟩ := gx_fst h hk
  exact ⟨k, e1, h1⟩
section GX
variable {p : Program} {l : Launch} {e : Env} {R : Room} {s : State} {m : MethodId} {args : Array Value} {below : List Frame} {meth : Method} {c : Code} {D : va_G} {cl : List vw_C} {tys : List (ClassId × FieldType)} {A : Nat → Prop} {cc : ByteArray} {nL cells slots : Nat} {Q : State → Prop} {Ts : List Cond} {own : String} {ws : va_W} {pc : Nat} {lv : List (Option Value)} {st : List Value}
/-- the machine at pc, whatever the heap is, so long as it holds the world ws, and the locals are lv -/
def gx_G (p : Program) (l : Launch) (e : Env) (R : Room) (s : State) (m : MethodId) (args : Array Value) (below : List Frame) (meth : Method) (c : Code) (D : va_G) (cl : List vw_C) (A : Nat → Prop) (nL cells slots : Nat) (Q : State → Prop) (ws : va_W) (pc : Nat) (lv : List (Option Value)) (st : List Value) : Prop :=
  ∀ (H : Heap) (locs : List Loc) (ls : Array Slot), va_P D cl ws H → va_D A ws → va_S A s.heap H locs → gx_L ls nL lv → W p l e R s m args below meth c H locs cells slots Q (F0 m pc ls st)
theorem gx_iconst {n : Int} {v : Int32} (C : CallFix p m c cc nL s args Ts own) (hd : decode cc pc = .ok (.iconst n, 1)) (hv : Int32.ofInt n = v) (k : gx_G p l e R s m args below meth c D cl A nL cells slots Q ws (pc + 1) lv (.int v :: st)) : gx_G p l e R s m args below meth c D cl A nL cells slots Q ws pc lv st := fun H locs ls hP hD hS hl => lv_iconst C.1 C.2.1 hd hv (k H locs ls hP hD hS hl)
theorem gx_bipush {n : Int} {v : Int32} (C : CallFix p m c cc nL s args Ts own) (hd : decode cc pc = .ok (.bipush n, 2)) (hv : (Int8.ofInt n).toInt32 = v) (k : gx_G p l e R s m args below meth c D cl A nL cells slots Q ws (pc + 2) lv (.int v :: st)) : gx_G p l e R s m args below meth c D cl A nL cells slots Q ws pc lv st := fun H locs ls hP hD hS hl => lv_bipush C.1 C.2.1 hd hv (k H locs ls hP hD hS hl)
theorem gx_sipush {n : Int} {v : Int32} (C : CallFix p m c cc nL s args Ts own) (hd : decode cc pc = .ok (.sipush n, 3)) (hv : (Int16.ofInt n).toInt32 = v) (k : gx_G p l e R s m args below meth c D cl A nL cells slots Q ws (pc + 3) lv (.int v :: st)) : gx_G p l e R s m args below meth c D cl A nL cells slots Q ws pc lv st := fun H locs ls hP hD hS hl => lv_sipush C.1 C.2.1 hd hv (k H locs ls hP hD hS hl)
theorem gx_null  (C : CallFix p m c cc nL s args Ts own) (hd : decode cc pc = .ok (.aconst_null, 1)) (k : gx_G p l e R s m args below meth c D cl A nL cells slots Q ws (pc + 1) lv (.null :: st)) : gx_G p l e R s m args below meth c D cl A nL cells slots Q ws pc lv st := fun H locs ls hP hD hS hl => lv_null C.1 C.2.1 hd (k H locs ls hP hD hS hl)
theorem gx_iload_n {k0 : Fin 4} {x : Int32} (C : CallFix p m c cc nL s args Ts own) (hd : decode cc pc = .ok (.iload_n k0, 1)) (hv : lv[(k0 : Nat)]? = some (some (.int x))) (k : gx_G p l e R s m args below meth c D cl A nL cells slots Q ws (pc + 1) lv (.int x :: st)) : gx_G p l e R s m args below meth c D cl A nL cells slots Q ws pc lv st := fun H locs ls hP hD hS hl => lv_iload_n C.1 C.2.1 hd rfl (hl.got hv) (k H locs ls hP hD hS hl)
theorem gx_iload {i : Nat} {x : Int32} (C : CallFix p m c cc nL s args Ts own) (hd : decode cc pc = .ok (.iload i, 2)) (hv : lv[i]? = some (some (.int x))) (k : gx_G p l e R s m args below meth c D cl A nL cells slots Q ws (pc + 2) lv (.int x :: st)) : gx_G p l e R s m args below meth c D cl A nL cells slots Q ws pc lv st := fun H locs ls hP hD hS hl => lv_iload C.1 C.2.1 hd (hl.got hv) (k H locs ls hP hD hS hl)
theorem gx_aload_n {k0 : Fin 4} {x : Nat} (C : CallFix p m c cc nL s args Ts own) (hd : decode cc pc = .ok (.aload_n k0, 1)) (hv : lv[(k0 : Nat)]? = some (some (.ref x))) (k : gx_G p l e R s m args below meth c D cl A nL cells slots Q ws (pc + 1) lv (.ref x :: st)) : gx_G p l e R s m args below meth c D cl A nL cells slots Q ws pc lv st := fun H locs ls hP hD hS hl => lv_aload_n C.1 C.2.1 hd rfl (hl.got hv) (k H locs ls hP hD hS hl)
theorem gx_aload {i : Nat} {x : Nat} (C : CallFix p m c cc nL s args Ts own) (hd : decode cc pc = .ok (.aload i, 2)) (hv : lv[i]? = some (some (.ref x))) (k : gx_G p l e R s m args below meth c D cl A nL cells slots Q ws (pc + 2) lv (.ref x :: st)) : gx_G p l e R s m args below meth c D cl A nL cells slots Q ws pc lv st := fun H locs ls hP hD hS hl => lv_aload C.1 C.2.1 hd (hl.got hv) (k H locs ls hP hD hS hl)
theorem gx_istore_n {k0 : Fin 4} {x : Int32} {lv2 : List (Option Value)} (C : CallFix p m c cc nL s args Ts own) (hd : decode cc pc = .ok (.istore_n k0, 1)) (hn : (k0 : Nat) < nL) (hv : lv.set (k0 : Nat) (some (.int x)) = lv2) (k : gx_G p l e R s m args below meth c D cl A nL cells slots Q ws (pc + 1) lv2 st) : gx_G p l e R s m args below meth c D cl A nL cells slots Q ws pc lv (.int x :: st) := fun H locs ls hP hD hS hl => lv_istore_n C.1 C.2.1 hd rfl hl.has hn rfl (fun ls2 h2 => k H locs ls2 hP hD hS (hv ▸ hl.set rfl h2))
theorem gx_istore {i : Nat} {x : Int32} {lv2 : List (Option Value)} (C : CallFix p m c cc nL s args Ts own) (hd : decode cc pc = .ok (.istore i, 2)) (hn : i < nL) (hv : lv.set i (some (.int x)) = lv2) (k : gx_G p l e R s m args below meth c D cl A nL cells slots Q ws (pc + 2) lv2 st) : gx_G p l e R s m args below meth c D cl A nL cells slots Q ws pc lv (.int x :: st) := fun H locs ls hP hD hS hl => lv_istore C.1 C.2.1 hd hl.has hn rfl (fun ls2 h2 => k H locs ls2 hP hD hS (hv ▸ hl.set rfl h2))
theorem gx_astore_n {k0 : Fin 4} {x : Nat} {lv2 : List (Option Value)} (C : CallFix p m c cc nL s args Ts own) (hd : decode cc pc = .ok (.astore_n k0, 1)) (hn : (k0 : Nat) < nL) (hv : lv.set (k0 : Nat) (some (.ref x)) = lv2) (k : gx_G p l e R s m args below meth c D cl A nL cells slots Q ws (pc + 1) lv2 st) : gx_G p l e R s m args below meth c D cl A nL cells slots Q ws pc lv (.ref x :: st) := fun H locs ls hP hD hS hl => lv_astore_n C.1 C.2.1 hd rfl hl.has hn rfl (fun ls2 h2 => k H locs ls2 hP hD hS (hv ▸ hl.set rfl h2))
theorem gx_astore {i : Nat} {x : Nat} {lv2 : List (Option Value)} (C : CallFix p m c cc nL s args Ts own) (hd : decode cc pc = .ok (.astore i, 2)) (hn : i < nL) (hv : lv.set i (some (.ref x)) = lv2) (k : gx_G p l e R s m args below meth c D cl A nL cells slots Q ws (pc + 2) lv2 st) : gx_G p l e R s m args below meth c D cl A nL cells slots Q ws pc lv (.ref x :: st) := fun H locs ls hP hD hS hl => lv_astore C.1 C.2.1 hd hl.has hn rfl (fun ls2 h2 => k H locs ls2 hP hD hS (hv ▸ hl.set rfl h2))
theorem gx_iinc {i : Nat} {n : Int} {x v : Int32} {lv2 : List (Option Value)} (C : CallFix p m c cc nL s args Ts own) (hd : decode cc pc = .ok (.iinc i n, 3)) (h0 : lv[i]? = some (some (.int x))) (hx : x + Int32.ofInt n = v) (hn : i < nL) (hv : lv.set i (some (.int v)) = lv2) (k : gx_G p l e R s m args below meth c D cl A nL cells slots Q ws (pc + 3) lv2 st) : gx_G p l e R s m args below meth c D cl A nL cells slots Q ws pc lv st := by
  intro H locs ls hP hD hS hl
  obtain ⟨j, hj⟩ := List.getElem?_of_mem (gx_prs_mem h0)
  exact lv_iinc C.1 C.2.1 hd hl.has (k := j) hj hx hn rfl (fun ls2 h2 => k H locs ls2 hP hD hS (hv ▸ hl.set rfl h2))
theorem gx_iadd {x y : Int32} (C : CallFix p m c cc nL s args Ts own) (hd : decode cc pc = .ok (.iadd, 1)) (k : gx_G p l e R s m args below meth c D cl A nL cells slots Q ws (pc + 1) lv (.int (x + y) :: st)) : gx_G p l e R s m args below meth c D cl A nL cells slots Q ws pc lv (.int y :: .int x :: st) := fun H locs ls hP hD hS hl => lv_iadd C.1 C.2.1 hd (k H locs ls hP hD hS hl)
theorem gx_isub {x y : Int32} (C : CallFix p m c cc nL s args Ts own) (hd : decode cc pc = .ok (.isub, 1)) (k : gx_G p l e R s m args below meth c D cl A nL cells slots Q ws (pc + 1) lv (.int (x - y) :: st)) : gx_G p l e R s m args below meth c D cl A nL cells slots Q ws pc lv (.int y :: .int x :: st) := fun H locs ls hP hD hS hl => lv_isub C.1 C.2.1 hd (k H locs ls hP hD hS hl)
theorem gx_imul {x y : Int32} (C : CallFix p m c cc nL s args Ts own) (hd : decode cc pc = .ok (.imul, 1)) (k : gx_G p l e R s m args below meth c D cl A nL cells slots Q ws (pc + 1) lv (.int (x * y) :: st)) : gx_G p l e R s m args below meth c D cl A nL cells slots Q ws pc lv (.int y :: .int x :: st) := fun H locs ls hP hD hS hl => lv_imul C.1 C.2.1 hd (k H locs ls hP hD hS hl)
theorem gx_iand {x y : Int32} (C : CallFix p m c cc nL s args Ts own) (hd : decode cc pc = .ok (.iand, 1)) (k : gx_G p l e R s m args below meth c D cl A nL cells slots Q ws (pc + 1) lv (.int (x &&& y) :: st)) : gx_G p l e R s m args below meth c D cl A nL cells slots Q ws pc lv (.int y :: .int x :: st) := fun H locs ls hP hD hS hl => lv_iand C.1 C.2.1 hd (k H locs ls hP hD hS hl)
theorem gx_ior {x y : Int32} (C : CallFix p m c cc nL s args Ts own) (hd : decode cc pc = .ok (.ior, 1)) (k : gx_G p l e R s m args below meth c D cl A nL cells slots Q ws (pc + 1) lv (.int (x ||| y) :: st)) : gx_G p l e R s m args below meth c D cl A nL cells slots Q ws pc lv (.int y :: .int x :: st) := fun H locs ls hP hD hS hl => lv_ior C.1 C.2.1 hd (k H locs ls hP hD hS hl)
theorem gx_ixor {x y : Int32} (C : CallFix p m c cc nL s args Ts own) (hd : decode cc pc = .ok (.ixor, 1)) (k : gx_G p l e R s m args below meth c D cl A nL cells slots Q ws (pc + 1) lv (.int (x ^^^ y) :: st)) : gx_G p l e R s m args below meth c D cl A nL cells slots Q ws pc lv (.int y :: .int x :: st) := fun H locs ls hP hD hS hl => lv_ixor C.1 C.2.1 hd (k H locs ls hP hD hS hl)
theorem gx_idiv {x y : Int32} (C : CallFix p m c cc nL s args Ts own) (hd : decode cc pc = .ok (.idiv, 1)) (h0 : ¬ y = 0) (k : gx_G p l e R s m args below meth c D cl A nL cells slots Q ws (pc + 1) lv (.int (x / y) :: st)) : gx_G p l e R s m args below meth c D cl A nL cells slots Q ws pc lv (.int y :: .int x :: st) := fun H locs ls hP hD hS hl => lv_idiv C.1 C.2.1 hd h0 (k H locs ls hP hD hS hl)
theorem gx_irem {x y : Int32} (C : CallFix p m c cc nL s args Ts own) (hd : decode cc pc = .ok (.irem, 1)) (h0 : ¬ y = 0) (k : gx_G p l e R s m args below meth c D cl A nL cells slots Q ws (pc + 1) lv (.int (x - x / y * y) :: st)) : gx_G p l e R s m args below meth c D cl A nL cells slots Q ws pc lv (.int y :: .int x :: st) := fun H locs ls hP hD hS hl => lv_irem C.1 C.2.1 hd h0 (k H locs ls hP hD hS hl)
theorem gx_ineg {x : Int32} (C : CallFix p m c cc nL s args Ts own) (hd : decode cc pc = .ok (.ineg, 1)) (k : gx_G p l e R s m args below meth c D cl A nL cells slots Q ws (pc + 1) lv (.int (-x) :: st)) : gx_G p l e R s m args below meth c D cl A nL cells slots Q ws pc lv (.int x :: st) := fun H locs ls hP hD hS hl => lv_ineg C.1 C.2.1 hd (k H locs ls hP hD hS hl)
theorem gx_i2l {x : Int32} (C : CallFix p m c cc nL s args Ts own) (hd : decode cc pc = .ok (.i2l, 1)) (k : gx_G p l e R s m args below meth c D cl A nL cells slots Q ws (pc + 1) lv (.long x.toInt64 :: st)) : gx_G p l e R s m args below meth c D cl A nL cells slots Q ws pc lv (.int x :: st) := fun H locs ls hP hD hS hl => lv_i2l C.1 C.2.1 hd rfl (k H locs ls hP hD hS hl)
theorem gx_dup {va : Value} (C : CallFix p m c cc nL s args Ts own) (hd : decode cc pc = .ok (.dup, 1)) (hc : va.category = 1) (k : gx_G p l e R s m args below meth c D cl A nL cells slots Q ws (pc + 1) lv (va :: va :: st)) : gx_G p l e R s m args below meth c D cl A nL cells slots Q ws pc lv (va :: st) := fun H locs ls hP hD hS hl => lv_dup C.1 C.2.1 hd hc (k H locs ls hP hD hS hl)
theorem gx_pop {va : Value} (C : CallFix p m c cc nL s args Ts own) (hd : decode cc pc = .ok (.pop, 1)) (hc : va.category = 1) (k : gx_G p l e R s m args below meth c D cl A nL cells slots Q ws (pc + 1) lv st) : gx_G p l e R s m args below meth c D cl A nL cells slots Q ws pc lv (va :: st) := fun H locs ls hP hD hS hl => lv_pop C.1 C.2.1 hd hc (k H locs ls hP hD hS hl)
theorem gx_dup_x1 {va vb : Value} (C : CallFix p m c cc nL s args Ts own) (hd : decode cc pc = .ok (.dup_x1, 1)) (hc : va.category = 1) (hc2 : vb.category = 1) (k : gx_G p l e R s m args below meth c D cl A nL cells slots Q ws (pc + 1) lv (va :: vb :: va :: st)) : gx_G p l e R s m args below meth c D cl A nL cells slots Q ws pc lv (va :: vb :: st) := fun H locs ls hP hD hS hl => lv_dup_x1 C.1 C.2.1 hd hc hc2 (k H locs ls hP hD hS hl)
theorem gx_dup_x2 {va vb vd : Value} (C : CallFix p m c cc nL s args Ts own) (hd : decode cc pc = .ok (.dup_x2, 1)) (hc : va.category = 1) (hc2 : vb.category = 1) (hc3 : vd.category = 1) (k : gx_G p l e R s m args below meth c D cl A nL cells slots Q ws (pc + 1) lv (va :: vb :: vd :: va :: st)) : gx_G p l e R s m args below meth c D cl A nL cells slots Q ws pc lv (va :: vb :: vd :: st) := fun H locs ls hP hD hS hl => lv_dup_x2 C.1 C.2.1 hd hc hc2 hc3 (k H locs ls hP hD hS hl)
theorem gx_dup2 {va vb : Value} (C : CallFix p m c cc nL s args Ts own) (hd : decode cc pc = .ok (.dup2, 1)) (hc : va.category = 1) (hc2 : vb.category = 1) (k : gx_G p l e R s m args below meth c D cl A nL cells slots Q ws (pc + 1) lv (va :: vb :: va :: vb :: st)) : gx_G p l e R s m args below meth c D cl A nL cells slots Q ws pc lv (va :: vb :: st) := fun H locs ls hP hD hS hl => lv_dup2_11 C.1 C.2.1 hd hc hc2 (k H locs ls hP hD hS hl)
theorem gx_if_eq {x : Int32} {off : Int} {tgt : Nat} (C : CallFix p m c cc nL s args Ts own) (hd : decode cc pc = .ok (.ifCond .eq off, 3)) (ht : (pc : Int) + off = (tgt : Int)) (kt : x = 0 → gx_G p l e R s m args below meth c D cl A nL cells slots Q ws tgt lv st) (kf : ¬ x = 0 → gx_G p l e R s m args below meth c D cl A nL cells slots Q ws (pc + 3) lv st) : gx_G p l e R s m args below meth c D cl A nL cells slots Q ws pc lv (.int x :: st) := fun H locs ls hP hD hS hl => lv_if_eq C.1 C.2.1 hd ht (fun q => kt q H locs ls hP hD hS hl) (fun q => kf q H locs ls hP hD hS hl)
theorem gx_icmp_eq {x y : Int32} {off : Int} {tgt : Nat} (C : CallFix p m c cc nL s args Ts own) (hd : decode cc pc = .ok (.if_icmp .eq off, 3)) (ht : (pc : Int) + off = (tgt : Int)) (kt : x = y → gx_G p l e R s m args below meth c D cl A nL cells slots Q ws tgt lv st) (kf : ¬ x = y → gx_G p l e R s m args below meth c D cl A nL cells slots Q ws (pc + 3) lv st) : gx_G p l e R s m args below meth c D cl A nL cells slots Q ws pc lv (.int y :: .int x :: st) := fun H locs ls hP hD hS hl => lv_icmp_eq C.1 C.2.1 hd ht (fun q => kt q H locs ls hP hD hS hl) (fun q => kf q H locs ls hP hD hS hl)
theorem gx_if_ne {x : Int32} {off : Int} {tgt : Nat} (C : CallFix p m c cc nL s args Ts own) (hd : decode cc pc = .ok (.ifCond .ne off, 3)) (ht : (pc : Int) + off = (tgt : Int)) (kt : ¬ x = 0 → gx_G p l e R s m args below meth c D cl A nL cells slots Q ws tgt lv st) (kf : x = 0 → gx_G p l e R s m args below meth c D cl A nL cells slots Q ws (pc + 3) lv st) : gx_G p l e R s m args below meth c D cl A nL cells slots Q ws pc lv (.int x :: st) := fun H locs ls hP hD hS hl => lv_if_ne C.1 C.2.1 hd ht (fun q => kt q H locs ls hP hD hS hl) (fun q => kf q H locs ls hP hD hS hl)
theorem gx_icmp_ne {x y : Int32} {off : Int} {tgt : Nat} (C : CallFix p m c cc nL s args Ts own) (hd : decode cc pc = .ok (.if_icmp .ne off, 3)) (ht : (pc : Int) + off = (tgt : Int)) (kt : ¬ x = y → gx_G p l e R s m args below meth c D cl A nL cells slots Q ws tgt lv st) (kf : x = y → gx_G p l e R s m args below meth c D cl A nL cells slots Q ws (pc + 3) lv st) : gx_G p l e R s m args below meth c D cl A nL cells slots Q ws pc lv (.int y :: .int x :: st) := fun H locs ls hP hD hS hl => lv_icmp_ne C.1 C.2.1 hd ht (fun q => kt q H locs ls hP hD hS hl) (fun q => kf q H locs ls hP hD hS hl)
theorem gx_if_lt {x : Int32} {off : Int} {tgt : Nat} (C : CallFix p m c cc nL s args Ts own) (hd : decode cc pc = .ok (.ifCond .lt off, 3)) (ht : (pc : Int) + off = (tgt : Int)) (kt : x < 0 → gx_G p l e R s m args below meth c D cl A nL cells slots Q ws tgt lv st) (kf : ¬ x < 0 → gx_G p l e R s m args below meth c D cl A nL cells slots Q ws (pc + 3) lv st) : gx_G p l e R s m args below meth c D cl A nL cells slots Q ws pc lv (.int x :: st) := fun H locs ls hP hD hS hl => lv_if_lt C.1 C.2.1 hd ht (fun q => kt q H locs ls hP hD hS hl) (fun q => kf q H locs ls hP hD hS hl)
theorem gx_icmp_lt {x y : Int32} {off : Int} {tgt : Nat} (C : CallFix p m c cc nL s args Ts own) (hd : decode cc pc = .ok (.if_icmp .lt off, 3)) (ht : (pc : Int) + off = (tgt : Int)) (kt : x < y → gx_G p l e R s m args below meth c D cl A nL cells slots Q ws tgt lv st) (kf : ¬ x < y → gx_G p l e R s m args below meth c D cl A nL cells slots Q ws (pc + 3) lv st) : gx_G p l e R s m args below meth c D cl A nL cells slots Q ws pc lv (.int y :: .int x :: st) := fun H locs ls hP hD hS hl => lv_icmp_lt C.1 C.2.1 hd ht (fun q => kt q H locs ls hP hD hS hl) (fun q => kf q H locs ls hP hD hS hl)
theorem gx_if_ge {x : Int32} {off : Int} {tgt : Nat} (C : CallFix p m c cc nL s args Ts own) (hd : decode cc pc = .ok (.ifCond .ge off, 3)) (ht : (pc : Int) + off = (tgt : Int)) (kt : 0 ≤ x → gx_G p l e R s m args below meth c D cl A nL cells slots Q ws tgt lv st) (kf : ¬ 0 ≤ x → gx_G p l e R s m args below meth c D cl A nL cells slots Q ws (pc + 3) lv st) : gx_G p l e R s m args below meth c D cl A nL cells slots Q ws pc lv (.int x :: st) := fun H locs ls hP hD hS hl => lv_if_ge C.1 C.2.1 hd ht (fun q => kt q H locs ls hP hD hS hl) (fun q => kf q H locs ls hP hD hS hl)
theorem gx_icmp_ge {x y : Int32} {off : Int} {tgt : Nat} (C : CallFix p m c cc nL s args Ts own) (hd : decode cc pc = .ok (.if_icmp .ge off, 3)) (ht : (pc : Int) + off = (tgt : Int)) (kt : y ≤ x → gx_G p l e R s m args below meth c D cl A nL cells slots Q ws tgt lv st) (kf : ¬ y ≤ x → gx_G p l e R s m args below meth c D cl A nL cells slots Q ws (pc + 3) lv st) : gx_G p l e R s m args below meth c D cl A nL cells slots Q ws pc lv (.int y :: .int x :: st) := fun H locs ls hP hD hS hl => lv_icmp_ge C.1 C.2.1 hd ht (fun q => kt q H locs ls hP hD hS hl) (fun q => kf q H locs ls hP hD hS hl)
theorem gx_if_gt {x : Int32} {off : Int} {tgt : Nat} (C : CallFix p m c cc nL s args Ts own) (hd : decode cc pc = .ok (.ifCond .gt off, 3)) (ht : (pc : Int) + off = (tgt : Int)) (kt : 0 < x → gx_G p l e R s m args below meth c D cl A nL cells slots Q ws tgt lv st) (kf : ¬ 0 < x → gx_G p l e R s m args below meth c D cl A nL cells slots Q ws (pc + 3) lv st) : gx_G p l e R s m args below meth c D cl A nL cells slots Q ws pc lv (.int x :: st) := fun H locs ls hP hD hS hl => lv_if_gt C.1 C.2.1 hd ht (fun q => kt q H locs ls hP hD hS hl) (fun q => kf q H locs ls hP hD hS hl)
theorem gx_icmp_gt {x y : Int32} {off : Int} {tgt : Nat} (C : CallFix p m c cc nL s args Ts own) (hd : decode cc pc = .ok (.if_icmp .gt off, 3)) (ht : (pc : Int) + off = (tgt : Int)) (kt : y < x → gx_G p l e R s m args below meth c D cl A nL cells slots Q ws tgt lv st) (kf : ¬ y < x → gx_G p l e R s m args below meth c D cl A nL cells slots Q ws (pc + 3) lv st) : gx_G p l e R s m args below meth c D cl A nL cells slots Q ws pc lv (.int y :: .int x :: st) := fun H locs ls hP hD hS hl => lv_icmp_gt C.1 C.2.1 hd ht (fun q => kt q H locs ls hP hD hS hl) (fun q => kf q H locs ls hP hD hS hl)
theorem gx_if_le {x : Int32} {off : Int} {tgt : Nat} (C : CallFix p m c cc nL s args Ts own) (hd : decode cc pc = .ok (.ifCond .le off, 3)) (ht : (pc : Int) + off = (tgt : Int)) (kt : x ≤ 0 → gx_G p l e R s m args below meth c D cl A nL cells slots Q ws tgt lv st) (kf : ¬ x ≤ 0 → gx_G p l e R s m args below meth c D cl A nL cells slots Q ws (pc + 3) lv st) : gx_G p l e R s m args below meth c D cl A nL cells slots Q ws pc lv (.int x :: st) := fun H locs ls hP hD hS hl => lv_if_le C.1 C.2.1 hd ht (fun q => kt q H locs ls hP hD hS hl) (fun q => kf q H locs ls hP hD hS hl)
theorem gx_icmp_le {x y : Int32} {off : Int} {tgt : Nat} (C : CallFix p m c cc nL s args Ts own) (hd : decode cc pc = .ok (.if_icmp .le off, 3)) (ht : (pc : Int) + off = (tgt : Int)) (kt : x ≤ y → gx_G p l e R s m args below meth c D cl A nL cells slots Q ws tgt lv st) (kf : ¬ x ≤ y → gx_G p l e R s m args below meth c D cl A nL cells slots Q ws (pc + 3) lv st) : gx_G p l e R s m args below meth c D cl A nL cells slots Q ws pc lv (.int y :: .int x :: st) := fun H locs ls hP hD hS hl => lv_icmp_le C.1 C.2.1 hd ht (fun q => kt q H locs ls hP hD hS hl) (fun q => kf q H locs ls hP hD hS hl)
theorem gx_goto {off : Int} {tgt : Nat} (C : CallFix p m c cc nL s args Ts own) (hd : decode cc pc = .ok (.goto off, 3)) (ht : (pc : Int) + off = (tgt : Int)) (k : gx_G p l e R s m args below meth c D cl A nL cells slots Q ws tgt lv st) : gx_G p l e R s m args below meth c D cl A nL cells slots Q ws pc lv st := fun H locs ls hP hD hS hl => lv_goto C.1 C.2.1 hd ht (k H locs ls hP hD hS hl)
theorem gx_get {ref Cn : String} {T : u_T} {N ci index a : Nat} {fs : List Value} {v : Value} (C : CallFix p m c cc nL s args Ts own) (hK : va_K D cl tys s) (hin : ∀ w ∈ u_ws Cn T N, w ∈ Ts) (q0 : Nat) (he : ws[q0]? = some (a, .inr (ci, fs))) (hc : cl[ci]? = some (Cn, T, N)) (k0 : Nat) (hk : k0 < N) (hlink : Cond.fieldLink own index ref (T k0).2.1 (T k0).2.2.1 ∈ Ts) (href : (T k0).1 = ref) (hv : fs[k0]? = some v) (hd : decode cc pc = .ok (.getfield index, 3)) (k : gx_G p l e R s m args below meth c D cl A nL cells slots Q ws (pc + 3) lv (v :: st)) : gx_G p l e R s m args below meth c D cl A nL cells slots Q ws pc lv (.ref a :: st) := fun H locs ls hP hD hS hl =>
  va_get C.1 C.2.1 C.2.2.2.2 hin C.2.2.2.1 hK hP q0 he hc k0 hk (C.2.2.2.2 _ hlink) (fun x h9 => href ▸ h9) hv hd (k H locs ls hP hD hS hl)
theorem gx_put {ref Cn : String} {T : u_T} {N ci index a : Nat} {fs : List Value} {v : Value} {ty : FieldType} {ws2 : va_W} (C : CallFix p m c cc nL s args Ts own) (hK : va_K D cl tys s) (hin : ∀ w ∈ u_ws Cn T N, w ∈ Ts) (ty0 : Nat → FieldType) (hty : ∀ k, k < N → parseFieldDescriptor (T k).2.2.1 = some (ty0 k)) (hnm : ∀ a, a < N → ∀ b, b < N → a ≠ b → (T a).2.1 ≠ (T b).2.1) (q0 : Nat) (he : ws[q0]? = some (a, .inr (ci, fs))) (hc : cl[ci]? = some (Cn, T, N)) (k0 : Nat) (hk : k0 < N) (hlink : Cond.fieldLink own index ref (T k0).2.1 (T k0).2.2.1 ∈ Ts) (href : (T k0).1 = ref) (hfin : (T k0).2.2.2 = false) (hdsc : parseFieldDescriptor (T k0).2.2.1 = some ty) (hnw : narrow ty v = v) (hfit : fits ty v = true) (hlen : k0 < fs.length) (hd : decode cc pc = .ok (.putfield index, 3)) (hw : ws.set q0 (a, .inr (ci, fs.set k0 v)) = ws2) (k : gx_G p l e R s m args below meth c D cl A nL cells slots Q ws2 (pc + 3) lv st) : gx_G p l e R s m args below meth c D cl A nL cells slots Q ws pc lv (v :: .ref a :: st) := fun H locs ls hP hD hS hl =>
  va_put C.1 C.2.1 C.2.2.2.2 hin ty0 hty hnm C.2.2.2.1 hK hP hD hS q0 he hc k0 hk (C.2.2.2.2 _ hlink) (fun x h9 => href ▸ h9) hfin hdsc hnw hfit hlen hd (fun H1 locs1 hP1 hD1 hS1 => k H1 locs1 ls (hw ▸ hP1) (hw ▸ hD1) hS1 hl)
theorem gx_putF {ref Cn : String} {T : u_T} {N ci index a : Nat} {fs : List Value} {v : Value} {ty : FieldType} {ws2 : va_W} (C : CallFix p m c cc nL s args Ts own) (hK : va_K D cl tys s) (hin : ∀ w ∈ u_ws Cn T N, w ∈ Ts) (ty0 : Nat → FieldType) (hty : ∀ k, k < N → parseFieldDescriptor (T k).2.2.1 = some (ty0 k)) (hnm : ∀ a, a < N → ∀ b, b < N → a ≠ b → (T a).2.1 ≠ (T b).2.1) (q0 : Nat) (he : ws[q0]? = some (a, .inr (ci, fs))) (hc : cl[ci]? = some (Cn, T, N)) (k0 : Nat) (hk : k0 < N) (hlink : Cond.fieldLink own index ref (T k0).2.1 (T k0).2.2.1 ∈ Ts) (href : (T k0).1 = ref) (hfin : (T k0).2.2.2 = true) (hini : meth.name = "<init>") (hdecl : (T k0).1 = own) (hdsc : parseFieldDescriptor (T k0).2.2.1 = some ty) (hnw : narrow ty v = v) (hfit : fits ty v = true) (hlen : k0 < fs.length) (hd : decode cc pc = .ok (.putfield index, 3)) (hw : ws.set q0 (a, .inr (ci, fs.set k0 v)) = ws2) (k : gx_G p l e R s m args below meth c D cl A nL cells slots Q ws2 (pc + 3) lv st) : gx_G p l e R s m args below meth c D cl A nL cells slots Q ws pc lv (v :: .ref a :: st) := fun H locs ls hP hD hS hl =>
  va_putF C.1 C.2.1 C.2.2.2.2 hin ty0 hty hnm C.2.2.2.1 hK hP hD hS q0 he hc k0 hk (C.2.2.2.2 _ hlink) (fun x h9 => href ▸ h9) hfin hini hdecl hdsc hnw hfit hlen hd (fun H1 locs1 hP1 hD1 hS1 => k H1 locs1 ls (hw ▸ hP1) (hw ▸ hD1) hS1 hl)
theorem gx_iald {a n : Nat} {f : Nat → Int32} {cA : ClassId} {i : Int32} (C : CallFix p m c cc nL s args Ts own) (hK : va_K D cl tys s) (q0 t0 : Nat) (ha : ws[q0]? = some (a, .inl (cA, n, .inl f))) (ht : tys[t0]? = some (cA, .int)) (hi : vp_in i n) (hd : decode cc pc = .ok (.iaload, 1)) (k : gx_G p l e R s m args below meth c D cl A nL cells slots Q ws (pc + 1) lv (.int (f i.toNatClampNeg) :: st)) : gx_G p l e R s m args below meth c D cl A nL cells slots Q ws pc lv (.int i :: .ref a :: st) := fun H locs ls hP hD hS hl => va_iald C.1 C.2.1 hK hP q0 t0 ha ht hi hd (k H locs ls hP hD hS hl)
theorem gx_iast {a n : Nat} {f : Nat → Int32} {cA : ClassId} {i x : Int32} {ws2 : va_W} (C : CallFix p m c cc nL s args Ts own) (hK : va_K D cl tys s) (q0 t0 : Nat) (ha : ws[q0]? = some (a, .inl (cA, n, .inl f))) (ht : tys[t0]? = some (cA, .int)) (hi : vp_in i n) (hd : decode cc pc = .ok (.iastore, 1)) (hw : ws.set q0 (a, .inl (cA, n, .inl (upd f i.toNatClampNeg x))) = ws2) (k : gx_G p l e R s m args below meth c D cl A nL cells slots Q ws2 (pc + 1) lv st) : gx_G p l e R s m args below meth c D cl A nL cells slots Q ws pc lv (.int x :: .int i :: .ref a :: st) := fun H locs ls hP hD hS hl => va_iast C.1 C.2.1 hK hP hD hS q0 t0 ha ht hi hd (fun H1 locs1 hP1 hD1 hS1 => k H1 locs1 ls (hw ▸ hP1) (hw ▸ hD1) hS1 hl)
theorem gx_lald {a n : Nat} {f : Nat → Int64} {cA : ClassId} {i : Int32} (C : CallFix p m c cc nL s args Ts own) (hK : va_K D cl tys s) (q0 t0 : Nat) (ha : ws[q0]? = some (a, .inl (cA, n, .inr (.inl f)))) (ht : tys[t0]? = some (cA, .long)) (hi : vp_in i n) (hd : decode cc pc = .ok (.laload, 1)) (k : gx_G p l e R s m args below meth c D cl A nL cells slots Q ws (pc + 1) lv (.long (f i.toNatClampNeg) :: st)) : gx_G p l e R s m args below meth c D cl A nL cells slots Q ws pc lv (.int i :: .ref a :: st) := fun H locs ls hP hD hS hl => va_lald C.1 C.2.1 hK hP q0 t0 ha ht hi hd (k H locs ls hP hD hS hl)
theorem gx_last {a n : Nat} {f : Nat → Int64} {cA : ClassId} {i : Int32} {x : Int64} {ws2 : va_W} (C : CallFix p m c cc nL s args Ts own) (hK : va_K D cl tys s) (q0 t0 : Nat) (ha : ws[q0]? = some (a, .inl (cA, n, .inr (.inl f)))) (ht : tys[t0]? = some (cA, .long)) (hi : vp_in i n) (hd : decode cc pc = .ok (.lastore, 1)) (hw : ws.set q0 (a, .inl (cA, n, .inr (.inl (vp_updL f i.toNatClampNeg x)))) = ws2) (k : gx_G p l e R s m args below meth c D cl A nL cells slots Q ws2 (pc + 1) lv st) : gx_G p l e R s m args below meth c D cl A nL cells slots Q ws pc lv (.long x :: .int i :: .ref a :: st) := fun H locs ls hP hD hS hl => va_last C.1 C.2.1 hK hP hD hS q0 t0 ha ht hi hd (fun H1 locs1 hP1 hD1 hS1 => k H1 locs1 ls (hw ▸ hP1) (hw ▸ hD1) hS1 hl)
theorem gx_aald {a n : Nat} {f : Nat → Option Nat} {cA : ClassId} {t : FieldType} {i : Int32} {b : Nat} (C : CallFix p m c cc nL s args Ts own) (hK : va_K D cl tys s) (q0 t0 : Nat) (ha : ws[q0]? = some (a, .inl (cA, n, .inr (.inr (.inr (.inr f)))))) (ht : tys[t0]? = some (cA, .array t)) (hi : vp_in i n) (hb : f i.toNatClampNeg = some b) (hd : decode cc pc = .ok (.aaload, 1)) (k : gx_G p l e R s m args below meth c D cl A nL cells slots Q ws (pc + 1) lv (.ref b :: st)) : gx_G p l e R s m args below meth c D cl A nL cells slots Q ws pc lv (.int i :: .ref a :: st) := by
  intro H locs ls hP hD hS hl
  have hlt : i.toNatClampNeg < n := Nat.not_le.mp fun q => hi (Or.inr q)
  refine W.aald (v := va_rf (f i.toNatClampNeg)) (ty := .array t) C.1 C.2.1 (hP q0 _ ha) ((hK.2 t0 _ ht).1 n (fun j => va_rf (f j))) rfl (fun q => by cases q) (by show ¬ (i < 0 ∨ (arrV _ _ _).slots.size ≤ _); rw [arrV_size]; exact hi) (by show (arrV _ _ _).slots[_]? = _; rw [arrV_read _ _ hlt]) rfl rfl hd ?_
  rw [hb]
  exact k H locs ls hP hD hS hl
theorem gx_alen {a : Nat} {x : vp_A} {cA : ClassId} {ty : FieldType} (C : CallFix p m c cc nL s args Ts own) (hK : va_K D cl tys s) (q0 t0 : Nat) (ha : ws[q0]? = some (a, .inl (cA, x))) (ht : tys[t0]? = some (cA, ty)) (hd : decode cc pc = .ok (.arraylength, 1)) (k : gx_G p l e R s m args below meth c D cl A nL cells slots Q ws (pc + 1) lv (.int (Int32.ofNat x.1) :: st)) : gx_G p l e R s m args below meth c D cl A nL cells slots Q ws pc lv (.ref a :: st) := fun H locs ls hP hD hS hl => va_alen C.1 C.2.1 hK hP q0 t0 ha ht rfl hd (k H locs ls hP hD hS hl)
theorem gx_ialdN {a n b : Nat} {f : Nat → Int32} {cA : ClassId} (C : CallFix p m c cc nL s args Ts own) (hK : va_K D cl tys s) (q0 t0 : Nat) (ha : ws[q0]? = some (a, .inl (cA, n, .inl f))) (ht : tys[t0]? = some (cA, .int)) (hb : b < n) (hn : n < 2 ^ 31) (hd : decode cc pc = .ok (.iaload, 1)) (k : gx_G p l e R s m args below meth c D cl A nL cells slots Q ws (pc + 1) lv (.int (f b) :: st)) : gx_G p l e R s m args below meth c D cl A nL cells slots Q ws pc lv (.int (nI b) :: .ref a :: st) := gx_iald C hK q0 t0 ha ht (vp_in_nI hb hn) hd (by rw [nI_clamp (Nat.lt_trans hb hn)]; exact k)
theorem gx_iastN {a n b : Nat} {f : Nat → Int32} {cA : ClassId} {x : Int32} {ws2 : va_W} (C : CallFix p m c cc nL s args Ts own) (hK : va_K D cl tys s) (q0 t0 : Nat) (ha : ws[q0]? = some (a, .inl (cA, n, .inl f))) (ht : tys[t0]? = some (cA, .int)) (hb : b < n) (hn : n < 2 ^ 31) (hd : decode cc pc = .ok (.iastore, 1)) (hw : ws.set q0 (a, .inl (cA, n, .inl (upd f b x))) = ws2) (k : gx_G p l e R s m args below meth c D cl A nL cells slots Q ws2 (pc + 1) lv st) : gx_G p l e R s m args below meth c D cl A nL cells slots Q ws pc lv (.int x :: .int (nI b) :: .ref a :: st) := gx_iast C hK q0 t0 ha ht (vp_in_nI hb hn) hd (by rw [nI_clamp (Nat.lt_trans hb hn)]; exact hw) k
theorem gx_aaldN {a n i b : Nat} {f : Nat → Option Nat} {cA : ClassId} {t : FieldType} (C : CallFix p m c cc nL s args Ts own) (hK : va_K D cl tys s) (q0 t0 : Nat) (ha : ws[q0]? = some (a, .inl (cA, n, .inr (.inr (.inr (.inr f)))))) (ht : tys[t0]? = some (cA, .array t)) (hi : i < n) (hn : n < 2 ^ 31) (hb : f i = some b) (hd : decode cc pc = .ok (.aaload, 1)) (k : gx_G p l e R s m args below meth c D cl A nL cells slots Q ws (pc + 1) lv (.ref b :: st)) : gx_G p l e R s m args below meth c D cl A nL cells slots Q ws pc lv (.int (nI i) :: .ref a :: st) := gx_aald C hK q0 t0 ha ht (vp_in_nI hi hn) (by rw [nI_clamp (Nat.lt_trans hi hn)]; exact hb) hd k
theorem gx_mmax {x y : Int32} {index : Nat} (C : CallFix p m c cc nL s args Ts own) (hlink : Cond.methodLink own index Lib.Math.max.name ∈ Ts) (hstat : Cond.static Lib.Math.max.name ∈ Ts) (hini : Cond.initialized "java/lang/Math" ∈ Ts) (hcode : Cond.code Lib.Math.max.name Lib.Math.max.code 2 (some .int) ∈ Ts) (hframes : 1 ≤ R.frames) (hlocals : (st.map fun v => v.category).sum + 13 ≤ R.locals) (hc : cells ≤ R.cells) (hs : slots ≤ R.slots) (hd : decode cc pc = .ok (.invokestatic index, 3)) (k : gx_G p l e R s m args below meth c D cl A nL cells slots Q ws (pc + 3) lv (.int (if x < y then y else x) :: st)) : gx_G p l e R s m args below meth c D cl A nL cells slots Q ws pc lv (.int y :: .int x :: st) := fun H locs ls hP hD hS hl => va_mmax C.1 C.2.1 (C.2.2.1.trans hl.1.symm) C.2.2.2.1 (C.2.2.2.2 _ hlink) (C.2.2.2.2 _ hstat) (C.2.2.2.2 _ hini) (C.2.2.2.2 _ hcode) hframes hlocals hc hs hd (k H locs ls hP hD hS hl)
theorem gx_mmin {x y : Int32} {index : Nat} (C : CallFix p m c cc nL s args Ts own) (hlink : Cond.methodLink own index Lib.Math.min.name ∈ Ts) (hstat : Cond.static Lib.Math.min.name ∈ Ts) (hini : Cond.initialized "java/lang/Math" ∈ Ts) (hcode : Cond.code Lib.Math.min.name Lib.Math.min.code 2 (some .int) ∈ Ts) (hframes : 1 ≤ R.frames) (hlocals : (st.map fun v => v.category).sum + 13 ≤ R.locals) (hc : cells ≤ R.cells) (hs : slots ≤ R.slots) (hd : decode cc pc = .ok (.invokestatic index, 3)) (k : gx_G p l e R s m args below meth c D cl A nL cells slots Q ws (pc + 3) lv (.int (if y < x then y else x) :: st)) : gx_G p l e R s m args below meth c D cl A nL cells slots Q ws pc lv (.int y :: .int x :: st) := fun H locs ls hP hD hS hl => va_mmin C.1 C.2.1 (C.2.2.1.trans hl.1.symm) C.2.2.2.1 (C.2.2.2.2 _ hlink) (C.2.2.2.2 _ hstat) (C.2.2.2.2 _ hini) (C.2.2.2.2 _ hcode) hframes hlocals hc hs hd (k H locs ls hP hD hS hl)
theorem gx_tabOut {dflt lo hi : Int} {offs : Array Int} {len : Nat} {x : Int32} {tgt : Nat} (C : CallFix p m c cc nL s args Ts own) (hd : decode cc pc = .ok (.tableswitch dflt lo hi offs, len)) (h : x.toInt < lo ∨ hi < x.toInt) (ht : (pc : Int) + dflt = (tgt : Int)) (k : gx_G p l e R s m args below meth c D cl A nL cells slots Q ws tgt lv st) : gx_G p l e R s m args below meth c D cl A nL cells slots Q ws pc lv (.int x :: st) := fun H locs ls hP hD hS hl => lv_tableOut C.1 C.2.1 hd h ht (k H locs ls hP hD hS hl)
theorem gx_tabIn {dflt lo hi : Int} {offs : Array Int} {len : Nat} {x : Int32} {off : Int} {tgt : Nat} (C : CallFix p m c cc nL s args Ts own) (hd : decode cc pc = .ok (.tableswitch dflt lo hi offs, len)) (h1 : ¬ x.toInt < lo) (h2 : ¬ hi < x.toInt) (ho : offs[(x.toInt - lo).toNat]? = some off) (ht : (pc : Int) + off = (tgt : Int)) (k : gx_G p l e R s m args below meth c D cl A nL cells slots Q ws tgt lv st) : gx_G p l e R s m args below meth c D cl A nL cells slots Q ws pc lv (.int x :: st) := fun H locs ls hP hD hS hl => lv_tableIn C.1 C.2.1 hd h1 h2 ho ht (k H locs ls hP hD hS hl)
theorem gx_ws {ws2 : va_W} (h : ws = ws2) (k : gx_G p l e R s m args below meth c D cl A nL cells slots Q ws2 pc lv st) : gx_G p l e R s m args below meth c D cl A nL cells slots Q ws pc lv st := h ▸ k
theorem gx_sub {lv2 : List (Option Value)} (h : ∀ (i : Nat) (v : Value), lv2[i]? = some (some v) → lv[i]? = some (some v)) (k : gx_G p l e R s m args below meth c D cl A nL cells slots Q ws pc lv2 st) : gx_G p l e R s m args below meth c D cl A nL cells slots Q ws pc lv st := fun H locs ls hP hD hS hl => k H locs ls hP hD hS (hl.sub h)
theorem gx_top {x y : Int32} (h : x = y) (k : gx_G p l e R s m args below meth c D cl A nL cells slots Q ws pc lv (.int y :: st)) : gx_G p l e R s m args below meth c D cl A nL cells slots Q ws pc lv (.int x :: st) := h ▸ k
/-- a method's contract: over the world wc it answers rv and leaves wc2; it makes nothing -/
def gx_M (l : Launch) (y : MethodName) (wsy : List Cond) (rm : Room) (D : va_G) (cl : List vw_C) (tys : List (ClassId × FieldType)) (av : List Value) (wc wc2 : va_W) (rv : Option Value) : Prop :=
  Met l y wsy rm (va_Pc av (fun U => va_P D cl wc U.heap ∧ va_K D cl tys U ∧ va_D (fun _ => True) wc)) (fun _ st o t => o = .returned rv ∧ va_P D cl wc2 t.heap ∧ va_F (gx_in wc) st t) 0 0 (gx_in wc)
theorem gx_blind {av : List Value} {wc : va_W} : FrameBlind (va_Pc av (fun U => va_P D cl wc U.heap ∧ va_K D cl tys U ∧ va_D (fun _ => True) wc)) := fun a U g mk q => by
  obtain ⟨q0, qP, qK, qD⟩ := q
  exact ⟨q0, qP, va_K.moved (u := U) (U := U.calling g mk a) (Vm.Alike.refl U.vm) qK, qD⟩
theorem gx_mid {wa wc wb : va_W} {k : Nat} {q : Nat × va_E} (h : wc[k]? = some q) : (wa ++ wc ++ wb)[wa.length + k]? = some q := by
  have hl := (List.getElem?_eq_some_iff.mp h).1
  rw [List.getElem?_append_left (by rw [List.length_append]; omega), List.getElem?_append_right (by omega), Nat.add_sub_cancel_left]
  exact h
theorem gx_mid3 {wa wc wb : va_W} {k : Nat} {q : Nat × va_E} (h : (wa ++ wc ++ wb)[k]? = some q) : (k < wa.length ∧ ∀ w2 : va_W, w2.length = wc.length → (wa ++ w2 ++ wb)[k]? = some q) ∨ (∃ j, k = wa.length + j ∧ wc[j]? = some q) ∨ (wa.length + wc.length ≤ k ∧ ∀ w2 : va_W, w2.length = wc.length → (wa ++ w2 ++ wb)[k]? = some q) := by
  by_cases h1 : k < wa.length
  · refine Or.inl ⟨h1, fun w2 hw => ?_⟩
    rw [List.getElem?_append_left (by rw [List.length_append]; omega), List.getElem?_append_left h1] at h ⊢
    exact h
  · by_cases h2 : k < wa.length + wc.length
    · refine Or.inr (Or.inl ⟨k - wa.length, by omega, ?_⟩)
      rw [List.getElem?_append_left (by rw [List.length_append]; omega), List.getElem?_append_right (by omega)] at h
      exact h
    · refine Or.inr (Or.inr ⟨by omega, fun w2 hw => ?_⟩)
      rw [List.getElem?_append_right (by rw [List.length_append]; omega), List.length_append] at h ⊢
      rw [hw]
      exact h
theorem gx_mid_P {wa wc wc2 wb : va_W} {H H1 : Heap} (hs : wc2.map (·.1) = wc.map (·.1)) (hP : va_P D cl (wa ++ wc ++ wb) H) (hD : va_D A (wa ++ wc ++ wb)) (hk : ∀ q : Nat, q < H.size → ¬ gx_in wc q → H1[q]? = H[q]?) (h2 : va_P D cl wc2 H1) : va_P D cl (wa ++ wc2 ++ wb) H1 := by
  have hl : wc2.length = wc.length := by simpa using congrArg List.length hs
  have key : ∀ (k : Nat) (q : Nat × va_E), (wa ++ wc ++ wb)[k]? = some q → (k < wa.length ∨ wa.length + wc.length ≤ k) → va_at D cl q H1 := by
    intro k q hq hkk
    refine (hP k q hq).kept (hk q.1 ((hP k q hq).lt) ?_)
    rintro ⟨j, e9, hj⟩
    have := hD.1 k (wa.length + j) q (q.1, e9) hq (gx_mid hj) rfl
    have hj2 := (List.getElem?_eq_some_iff.mp hj).1
    omega
  intro k q hq
  rcases gx_mid3 hq with ⟨h1, h3⟩ | ⟨j, rfl, hj⟩ | ⟨h1, h3⟩
  · exact key k q (h3 wc hl.symm) (Or.inl h1)
  · exact h2 j q hj
  · exact key k q (h3 wc hl.symm) (Or.inr (by omega))
theorem gx_mid_fst {wa wc wc2 wb : va_W} (hs : wc2.map (·.1) = wc.map (·.1)) : (wa ++ wc2 ++ wb).map (·.1) = (wa ++ wc ++ wb).map (·.1) := by
  simp only [List.map_append, hs]
/-- behind a run of a callee with such a contract -/
theorem gx_after {wa wc wc2 wb : va_W} {st0 rest : List Value} {rv : Option Value} {pc2 : Nat} {H : Heap} {locs : List Loc} {ls : Array Slot} (hs : wc2.map (·.1) = wc.map (·.1)) (hP : va_P D cl (wa ++ wc ++ wb) H) (hD : va_D A (wa ++ wc ++ wb)) (hS : va_S A s.heap H locs) (hl : gx_L ls nL lv)
    (hr : va_Run p l e R s m args below meth c H locs cells slots 0 0 (F0 m pc ls st0) rest (fun st o t => o = .returned rv ∧ va_P D cl wc2 t.heap ∧ va_F (gx_in wc) st t) (gx_in wc)) (h2 : pc + 3 = pc2)
    (k : gx_G p l e R s m args below meth c D cl A nL cells slots Q (wa ++ wc2 ++ wb) pc2 lv (rv.toList ++ rest)) : W p l e R s m args below meth c H locs cells slots Q (F0 m pc ls st0) := by
  subst h2
  intro T hT X
  obtain ⟨v, st₀, t, T', L, h0, X', hL, e1, e2, ⟨hv, hP2, hF⟩, st⟩ := hr T hT X
  cases hv
  have hin : ∀ q, gx_in wc q → A q := fun q ⟨j, e9, hj⟩ => hD.2 _ _ (gx_mid (wa := wa) (wb := wb) hj)
  obtain ⟨k1, k2, k3⟩ := vx_keep h0 e1 hS (fun q _ h => hin q h) hin hL hF
  obtain ⟨t2, a1, b1⟩ := k T'.heap (locs ++ L) ls (gx_mid_P hs hP hD k2 (by rw [e1]; exact hP2)) (gx_D_same (gx_mid_fst hs) hD) k3 hl T' rfl X'
  exact ⟨t2, st t2 a1, b1⟩
theorem gx_callV {y : MethodName} {wsy wsy2 : List Cond} {rm : Room} {As rest : List Value} {b ci q0 n index maxL : Nat} {q : vw_C} {fs : List Value} {bytes : ByteArray} {ret : Option FieldType} {rv : Option Value} (wa wb : va_W) {wc wc2 : va_W} (C : CallFix p m c cc nL s args Ts own) (hK : va_K D cl tys s)
    (hM : gx_M l y wsy rm D cl tys (.ref b :: As) wc wc2 rv) (hs : wc2.map (·.1) = wc.map (·.1)) (hG : GoodIn Ts (wsV own index q.1 y wsy)) (hw : wsy = Cond.code y bytes maxL ret :: wsy2) (hrc : rm.cells = 0) (hrs : rm.slots = 0)
    (hyd : y.cls = q.1 ∧ y.cls ≠ "java/lang/invoke/MethodHandle" ∧ y.cls ≠ "java/lang/invoke/VarHandle" ∧ (parseMethodDescriptor y.desc).map (fun d => d.parameters.length) = some n) (hR : rm.frames + 1 ≤ R.frames ∧ 8 + (maxL + 11) + rm.locals ≤ R.locals) (hc : cl[ci]? = some q) (hb : wc[q0]? = some (b, .inr (ci, fs)))
    (hn : As.length = n) (hst : st = As.reverse ++ .ref b :: rest) (hcat : (rest.map fun v => v.category).sum ≤ 8) (hcl : cells ≤ R.cells) (hsl : slots ≤ R.slots) (hd : decode cc pc = .ok (.invokevirtual index, 3))
    (k : gx_G p l e R s m args below meth c D cl A nL cells slots Q (wa ++ wc2 ++ wb) (pc + 3) lv (rv.toList ++ rest)) : gx_G p l e R s m args below meth c D cl A nL cells slots Q (wa ++ wc ++ wb) pc lv st := by
  intro H locs ls hP hD hS hl
  have hPc : va_P D cl wc H := fun k9 q9 h9 => hP _ q9 (gx_mid h9)
  have hDc : va_D (fun _ => True) wc := ⟨fun i j x z hi hj hxz => by have := hD.1 _ _ x z (gx_mid (wa := wa) (wb := wb) hi) (gx_mid hj) hxz; omega, fun _ _ _ => trivial⟩
  subst hst
  exact gx_after hs hP hD hS hl (va_runV C hM (cwV n C.2.2.2.2 hG hw hrc hrs hyd hR) ⟨gx_blind, va_recv hK hPc hc hb, fun U hU hW => ⟨rfl, by rw [hU]; exact hPc, va_K.moved hW.alike hK, hDc⟩⟩ rfl hn hl.1 rfl (lv_room hcat) hd ⟨hcl, hsl⟩) rfl k
theorem gx_callS {y : MethodName} {wsy wsy2 : List Cond} {rm : Room} {As rest : List Value} {n index maxL : Nat} {bytes : ByteArray} {ret : Option FieldType} {rv : Option Value} (wa wb : va_W) {wc wc2 : va_W} (C : CallFix p m c cc nL s args Ts own) (hK : va_K D cl tys s)
    (hM : gx_M l y wsy rm D cl tys As wc wc2 rv) (hs : wc2.map (·.1) = wc.map (·.1)) (hG : GoodIn Ts (va_wsS own index y wsy)) (hw : wsy = Cond.code y bytes maxL ret :: wsy2) (hrc : rm.cells = 0) (hrs : rm.slots = 0)
    (hyd : y.cls ≠ "java/lang/invoke/MethodHandle" ∧ y.cls ≠ "java/lang/invoke/VarHandle" ∧ (parseMethodDescriptor y.desc).map (fun d => d.parameters.length) = some n) (hR : rm.frames + 1 ≤ R.frames ∧ 8 + (maxL + 11) + rm.locals ≤ R.locals)
    (hn : As.length = n) (hst : st = As.reverse ++ rest) (hcat : (rest.map fun v => v.category).sum ≤ 8) (hcl : cells ≤ R.cells) (hsl : slots ≤ R.slots) (hd : decode cc pc = .ok (.invokestatic index, 3))
    (k : gx_G p l e R s m args below meth c D cl A nL cells slots Q (wa ++ wc2 ++ wb) (pc + 3) lv (rv.toList ++ rest)) : gx_G p l e R s m args below meth c D cl A nL cells slots Q (wa ++ wc ++ wb) pc lv st := by
  intro H locs ls hP hD hS hl
  have hPc : va_P D cl wc H := fun k9 q9 h9 => hP _ q9 (gx_mid h9)
  have hDc : va_D (fun _ => True) wc := ⟨fun i j x z hi hj hxz => by have := hD.1 _ _ x z (gx_mid (wa := wa) (wb := wb) hi) (gx_mid hj) hxz; omega, fun _ _ _ => trivial⟩
  subst hst
  exact gx_after hs hP hD hS hl (va_runS C hM (va_cwS n C.2.2.2.2 hG hw hrc hrs hyd hR) ⟨gx_blind, fun U hU hW => ⟨rfl, by rw [hU]; exact hPc, va_K.moved hW.alike hK, hDc⟩⟩ rfl hn hl.1 rfl (lv_room hcat) hd ⟨hcl, hsl⟩) rfl k
theorem gx_callV0 {y : MethodName} {wsy wsy2 : List Cond} {rm : Room} {As rest : List Value} {b ci q0 n index maxL : Nat} {q : vw_C} {fs : List Value} {bytes : ByteArray} {ret : Option FieldType} {rv : Option Value} {wc wc2 : va_W} (C : CallFix p m c cc nL s args Ts own) (hK : va_K D cl tys s)
    (hM : gx_M l y wsy rm D cl tys (.ref b :: As) wc wc2 rv) (hs : wc2.map (·.1) = wc.map (·.1)) (hG : GoodIn Ts (wsV own index q.1 y wsy)) (hw : wsy = Cond.code y bytes maxL ret :: wsy2) (hrc : rm.cells = 0) (hrs : rm.slots = 0)
    (hyd : y.cls = q.1 ∧ y.cls ≠ "java/lang/invoke/MethodHandle" ∧ y.cls ≠ "java/lang/invoke/VarHandle" ∧ (parseMethodDescriptor y.desc).map (fun d => d.parameters.length) = some n) (hR : rm.frames + 1 ≤ R.frames ∧ 8 + (maxL + 11) + rm.locals ≤ R.locals) (hc : cl[ci]? = some q) (hb : wc[q0]? = some (b, .inr (ci, fs)))
    (hn : As.length = n) (hst : st = As.reverse ++ .ref b :: rest) (hcat : (rest.map fun v => v.category).sum ≤ 8) (hcl : cells ≤ R.cells) (hsl : slots ≤ R.slots) (hd : decode cc pc = .ok (.invokevirtual index, 3))
    (k : gx_G p l e R s m args below meth c D cl A nL cells slots Q wc2 (pc + 3) lv (rv.toList ++ rest)) : gx_G p l e R s m args below meth c D cl A nL cells slots Q wc pc lv st := by
  have h1 : ∀ w : va_W, [] ++ w ++ [] = w := fun w => by rw [List.nil_append, List.append_nil]
  have := gx_callV [] [] C hK hM hs hG hw hrc hrs hyd hR hc hb hn hst hcat hcl hsl hd (by rw [h1]; exact k)
  rw [h1] at this
  exact this
theorem gx_callS0 {y : MethodName} {wsy wsy2 : List Cond} {rm : Room} {As rest : List Value} {n index maxL : Nat} {bytes : ByteArray} {ret : Option FieldType} {rv : Option Value} (C : CallFix p m c cc nL s args Ts own) (hK : va_K D cl tys s)
    (hM : gx_M l y wsy rm D cl tys As [] [] rv) (hG : GoodIn Ts (va_wsS own index y wsy)) (hw : wsy = Cond.code y bytes maxL ret :: wsy2) (hrc : rm.cells = 0) (hrs : rm.slots = 0)
    (hyd : y.cls ≠ "java/lang/invoke/MethodHandle" ∧ y.cls ≠ "java/lang/invoke/VarHandle" ∧ (parseMethodDescriptor y.desc).map (fun d => d.parameters.length) = some n) (hR : rm.frames + 1 ≤ R.frames ∧ 8 + (maxL + 11) + rm.locals ≤ R.locals)
    (hn : As.length = n) (hst : st = As.reverse ++ rest) (hcat : (rest.map fun v => v.category).sum ≤ 8) (hcl : cells ≤ R.cells) (hsl : slots ≤ R.slots) (hd : decode cc pc = .ok (.invokestatic index, 3))
    (k : gx_G p l e R s m args below meth c D cl A nL cells slots Q ws (pc + 3) lv (rv.toList ++ rest)) : gx_G p l e R s m args below meth c D cl A nL cells slots Q ws pc lv st := by
  have h1 : ∀ w : va_W, w ++ [] ++ [] = w := fun w => by rw [List.append_nil, List.append_nil]
  have := gx_callS ws [] C hK hM rfl hG hw hrc hrs hyd hR hn hst hcat hcl hsl hd (by rw [h1]; exact k)
  rw [h1] at this
  exact this
theorem gx_cVi {y : MethodName} {wsy wsy2 : List Cond} {rm : Room} {As rest : List Value} {b ci q0 n index maxL : Nat} {q : vw_C} {fs : List Value} {bytes : ByteArray} {ret : Option FieldType} {r : Int32} {wc wc2 : va_W} (C : CallFix p m c cc nL s args Ts own) (hK : va_K D cl tys s)
    (hM : gx_M l y wsy rm D cl tys (.ref b :: As) wc wc2 (some (.int r))) (hs : wc2.map (·.1) = wc.map (·.1)) (hG : GoodIn Ts (wsV own index q.1 y wsy)) (hw : wsy = Cond.code y bytes maxL ret :: wsy2) (hrc : rm.cells = 0) (hrs : rm.slots = 0)
    (hyd : y.cls = q.1 ∧ y.cls ≠ "java/lang/invoke/MethodHandle" ∧ y.cls ≠ "java/lang/invoke/VarHandle" ∧ (parseMethodDescriptor y.desc).map (fun d => d.parameters.length) = some n) (hR : rm.frames + 1 ≤ R.frames ∧ 8 + (maxL + 11) + rm.locals ≤ R.locals) (hc : cl[ci]? = some q) (hb : wc[q0]? = some (b, .inr (ci, fs)))
    (hn : As.length = n) (hst : st = As.reverse ++ .ref b :: rest) (hcat : (rest.map fun v => v.category).sum ≤ 8) (hcl : cells ≤ R.cells) (hsl : slots ≤ R.slots) (hd : decode cc pc = .ok (.invokevirtual index, 3))
    (k : gx_G p l e R s m args below meth c D cl A nL cells slots Q wc2 (pc + 3) lv (.int r :: rest)) : gx_G p l e R s m args below meth c D cl A nL cells slots Q wc pc lv st := gx_callV0 (q0 := q0) C hK hM hs hG hw hrc hrs hyd hR hc hb hn hst hcat hcl hsl hd k
theorem gx_cVv {y : MethodName} {wsy wsy2 : List Cond} {rm : Room} {As rest : List Value} {b ci q0 n index maxL : Nat} {q : vw_C} {fs : List Value} {bytes : ByteArray} {ret : Option FieldType} {wc wc2 : va_W} (C : CallFix p m c cc nL s args Ts own) (hK : va_K D cl tys s)
    (hM : gx_M l y wsy rm D cl tys (.ref b :: As) wc wc2 none) (hs : wc2.map (·.1) = wc.map (·.1)) (hG : GoodIn Ts (wsV own index q.1 y wsy)) (hw : wsy = Cond.code y bytes maxL ret :: wsy2) (hrc : rm.cells = 0) (hrs : rm.slots = 0)
    (hyd : y.cls = q.1 ∧ y.cls ≠ "java/lang/invoke/MethodHandle" ∧ y.cls ≠ "java/lang/invoke/VarHandle" ∧ (parseMethodDescriptor y.desc).map (fun d => d.parameters.length) = some n) (hR : rm.frames + 1 ≤ R.frames ∧ 8 + (maxL + 11) + rm.locals ≤ R.locals) (hc : cl[ci]? = some q) (hb : wc[q0]? = some (b, .inr (ci, fs)))
    (hn : As.length = n) (hst : st = As.reverse ++ .ref b :: rest) (hcat : (rest.map fun v => v.category).sum ≤ 8) (hcl : cells ≤ R.cells) (hsl : slots ≤ R.slots) (hd : decode cc pc = .ok (.invokevirtual index, 3))
    (k : gx_G p l e R s m args below meth c D cl A nL cells slots Q wc2 (pc + 3) lv rest) : gx_G p l e R s m args below meth c D cl A nL cells slots Q wc pc lv st := gx_callV0 (q0 := q0) C hK hM hs hG hw hrc hrs hyd hR hc hb hn hst hcat hcl hsl hd k
theorem gx_cSi {y : MethodName} {wsy wsy2 : List Cond} {rm : Room} {As rest : List Value} {n index maxL : Nat} {bytes : ByteArray} {ret : Option FieldType} {r : Int32} (C : CallFix p m c cc nL s args Ts own) (hK : va_K D cl tys s)
    (hM : gx_M l y wsy rm D cl tys As [] [] (some (.int r))) (hG : GoodIn Ts (va_wsS own index y wsy)) (hw : wsy = Cond.code y bytes maxL ret :: wsy2) (hrc : rm.cells = 0) (hrs : rm.slots = 0)
    (hyd : y.cls ≠ "java/lang/invoke/MethodHandle" ∧ y.cls ≠ "java/lang/invoke/VarHandle" ∧ (parseMethodDescriptor y.desc).map (fun d => d.parameters.length) = some n) (hR : rm.frames + 1 ≤ R.frames ∧ 8 + (maxL + 11) + rm.locals ≤ R.locals)
    (hn : As.length = n) (hst : st = As.reverse ++ rest) (hcat : (rest.map fun v => v.category).sum ≤ 8) (hcl : cells ≤ R.cells) (hsl : slots ≤ R.slots) (hd : decode cc pc = .ok (.invokestatic index, 3))
    (k : gx_G p l e R s m args below meth c D cl A nL cells slots Q ws (pc + 3) lv (.int r :: rest)) : gx_G p l e R s m args below meth c D cl A nL cells slots Q ws pc lv st := gx_callS0 C hK hM hG hw hrc hrs hyd hR hn hst hcat hcl hsl hd k
/-- what a walk comes to: the answer rv and the world wc2 -/
def gx_Qm (D : va_G) (cl : List vw_C) (below : List Frame) (args : Array Value) (s : State) (wc wc2 : va_W) (rv : Option Value) : State → Prop := MQ below (fun _ st o t => o = .returned rv ∧ va_P D cl wc2 t.heap ∧ va_F (gx_in wc) st t) args s 0 0 (gx_in wc)
/-- a contract out of its walk -/
theorem gx_ofG {y : MethodName} {wsy wsy2 : List Cond} {rm : Room} {av : List Value} {wc wc2 : va_W} {rv : Option Value} {maxL : Nat} {ret : Option FieldType} (lv0 : List (Option Value)) (hy : plainName y.cls = true) (hw : wsy = Cond.code y cc maxL ret :: wsy2) (hav : av.all (fun v => v.category == 1) = true) (hlen : (lg_sl av).length ≤ maxL) (h0 : av.map some ++ List.replicate (maxL - av.length) none = lv0)
    (body : ∀ (p : Program) (e : Env) (s : State) (m : MethodId) (args : Array Value) (below : List Frame) (meth : Method) (c : Code), CallFix p m c cc maxL s args wsy y.cls → meth.sig.returnType = ret → meth.locks = false → va_K D cl tys s →
      gx_G p l e (headSpec wsy rm).room s m args below meth c D cl (gx_in wc) maxL 0 0 (gx_Qm D cl below args s wc wc2 rv) wc 0 lv0 []) : gx_M l y wsy rm D cl tys av wc wc2 rv := by
  refine Met.ofW (cc := cc) (maxL := maxL) (ret := ret) hy hw ?_
  intro p e s m args below meth c s₁ B hml hv
  obtain ⟨hv, hP, hK, hD⟩ := hv
  subst hv
  rw [lg_entry_eq]
  have hl := gx_L.entry av (fun v hv => by simpa using List.all_eq_true.mp hav v hv) hlen
  refine body p e s m _ below meth c ⟨B.exec, B.bytes, hml, findClass_of_methodNamed B.named, atoms_spec (ws := wsy) B.pre⟩ B.returns B.notSynchronized hK s.heap [] _ hP (gx_D_self hD) va_S.rf (hl.sub (fun i v hi => ?_))
  rw [← h0] at hi
  by_cases h : i < (av.map some).length
  · rw [List.getElem?_append_left h] at hi
    exact hi
  · rw [List.getElem?_append_right (by omega)] at hi
    have := List.mem_of_getElem? hi
    rw [List.mem_replicate] at this
    exact absurd this.2 (by simp)
section Rets
variable {wc wc2 : va_W} {rv : Option Value}
theorem gx_iret {v r : Int32} (C : CallFix p m c cc nL s args Ts own) (hr : meth.sig.returnType = some .int) (hlocks : meth.locks = false) (hd : decode cc pc = .ok (.ireturn, 1)) (hv : v = r) (hw : ws = wc2) : gx_G p l e R s m args below meth c D cl (gx_in wc) nL 0 0 (gx_Qm D cl below args s wc wc2 (some (.int r))) ws pc lv [.int v] := by
  subst hv; subst hw
  intro H locs ls hP hD hS hl
  exact W.iret C.1 C.2.1 hr (fun t ht hW => ⟨rfl, by rw [ht]; exact hP, hS.F ht⟩) hS.2.2 hd hlocks
theorem gx_zret {v r : Int32} (C : CallFix p m c cc nL s args Ts own) (hr : meth.sig.returnType = some .boolean) (hlocks : meth.locks = false) (hd : decode cc pc = .ok (.ireturn, 1)) (hn : narrow .boolean (.int v) = .int v) (hv : v = r) (hw : ws = wc2) : gx_G p l e R s m args below meth c D cl (gx_in wc) nL 0 0 (gx_Qm D cl below args s wc wc2 (some (.int r))) ws pc lv [.int v] := by
  subst hv; subst hw
  intro H locs ls hP hD hS hl
  exact W.zret C.1 C.2.1 hr hn (fun t ht hW => ⟨rfl, by rw [ht]; exact hP, hS.F ht⟩) hS.2.2 hd hlocks
theorem gx_vret (C : CallFix p m c cc nL s args Ts own) (hr : meth.sig.returnType = none) (hlocks : meth.locks = false) (hd : decode cc pc = .ok (.return_, 1)) (hw : ws = wc2) : gx_G p l e R s m args below meth c D cl (gx_in wc) nL 0 0 (gx_Qm D cl below args s wc wc2 none) ws pc lv [] := by
  subst hw
  intro H locs ls hP hD hS hl
  exact W.vret C.1 C.2.1 hr (fun t ht hW => ⟨rfl, by rw [ht]; exact hP, hS.F ht⟩) hS.2.2 hd hlocks
end Rets
theorem gx_iincN {i j : Nat} {lv2 : List (Option Value)} (C : CallFix p m c cc nL s args Ts own) (hd : decode cc pc = .ok (.iinc i 1, 3)) (h0 : lv[i]? = some (some (.int (nI j)))) (hn : i < nL) (hv : lv.set i (some (.int (nI (j + 1)))) = lv2) (k : gx_G p l e R s m args below meth c D cl A nL cells slots Q ws (pc + 3) lv2 st) : gx_G p l e R s m args below meth c D cl A nL cells slots Q ws pc lv st := gx_iinc C hd h0 (nI_1 j) hn hv k
end GX

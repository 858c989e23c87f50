/-- a method's contract: over the world wc it returns rv and leaves wc2; it may make one object of six fields (an exception that it catches) -/
def gx_N (l : Launch) (y : MethodName) (wsy : List Cond) (rm : Room) (D : va_G) (cl : List vw_C) (tys : List (ClassId × FieldType)) (av : List Value) (wc wc2 : va_W) (rv : Option Value) : Prop :=
  Met l y wsy rm (gx_XP D cl tys av wc) (fun _ st o t => o = .returned rv ∧ va_P D cl wc2 t.heap ∧ va_F (gx_in wc) st t) 1 6 (gx_in wc)
/-- what its walk comes to -/
def gx_Qn (D : va_G) (cl : List vw_C) (below : List Frame) (args : Array Value) (s : State) (wc wc2 : va_W) (rv : Option Value) : State → Prop := MQ below (fun _ st o t => o = .returned rv ∧ va_P D cl wc2 t.heap ∧ va_F (gx_in wc) st t) args s 1 6 (gx_in wc)
section GXN
variable {p : Program} {l : Launch} {e : Env} {R : Room} {s : State} {m : MethodId} {args : Array Value} {below : List Frame} {meth : Method} {c : Code} {D : va_G} {cl : List vw_C} {tys : List (ClassId × FieldType)} {A : Nat → Prop} {cc : ByteArray} {nL cells slots : Nat} {Q : State → Prop} {Ts : List Cond} {own : String} {ws wc wc2 : va_W} {pc : Nat} {lv : List (Option Value)} {st : List Value} {E : String} {rv : Option Value}
theorem gx_widen {k n : Nat} (h1 : cells ≤ k) (h2 : slots ≤ n) (h : gx_G p l e R s m args below meth c D cl A nL k n Q ws pc lv st) : gx_G p l e R s m args below meth c D cl A nL cells slots Q ws pc lv st := fun H locs ls hP hD hS hl => W.widen h1 h2 (h H locs ls hP hD hS hl)
theorem gx_iretN {v r : Int32} (C : CallFix p m c cc nL s args Ts own) (hr : meth.sig.returnType = some .int) (hlocks : meth.locks = false) (hd : decode cc pc = .ok (.ireturn, 1)) (h1 : cells ≤ 1) (h2 : slots ≤ 6) (hv : v = r) (hw : ws = wc2) : gx_G p l e R s m args below meth c D cl (gx_in wc) nL cells slots (gx_Qn D cl below args s wc wc2 (some (.int r))) ws pc lv [.int v] := by
  subst hv; subst hw
  refine gx_widen h1 h2 ?_
  intro H locs ls hP hD hS hl
  exact W.iret C.1 C.2.1 hr (fun t ht hW => ⟨rfl, by rw [ht]; exact hP, hS.F ht⟩) hS.2.2 hd hlocks
theorem gx_ofN {y : MethodName} {wsy wsy2 : List Cond} {rm : Room} {av : List Value} {maxL : Nat} {ret : Option FieldType} {hh : List (Nat × Nat × Nat × Nat)} (lv0 : List (Option Value)) (hy : plainName y.cls = true) (hw : wsy = Cond.codeWith y cc maxL ret hh :: wsy2) (hav : av.all (fun v => v.category == 1) = true) (hlen : (lg_sl av).length ≤ maxL) (h0 : av.map some ++ List.replicate (maxL - av.length) none = lv0)
    (body : ∀ (p : Program) (e : Env) (s : State) (m : MethodId) (args : Array Value) (below : List Frame) (meth : Method) (c : Code), CallFix p m c cc maxL s args wsy y.cls → meth.sig.returnType = ret → meth.locks = false → c.exceptionTable.toList = tableOf hh → va_K D cl tys s → gx_E (gx_in wc) s s.heap →
      gx_G p l e (headSpec wsy rm).room s m args below meth c D cl (gx_in wc) maxL 0 0 (gx_Qn D cl below args s wc wc2 rv) wc 0 lv0 []) : gx_N l y wsy rm D cl tys av wc wc2 rv := by
  refine va_MetW (cc := cc) (maxL := maxL) (ret := ret) (hh := hh) hy hw ?_
  intro p e s m args below meth c s₁ B hml hv
  obtain ⟨hv, hP, hK, hD, hE⟩ := hv
  subst hv
  have htab : c.exceptionTable.toList = tableOf hh := vx_table (x := y) B (atoms_spec (ws := wsy) B.pre _ (by rw [hw]; exact List.mem_cons_self))
  rw [lg_entry_eq]
  have hl := gx_L.entry av (fun v hv => by simpa using List.all_eq_true.mp hav v hv) hlen
  refine body p e s m _ below meth c ⟨B.exec, B.bytes, hml, findClass_of_methodNamed B.named, atoms_spec (ws := wsy) B.pre⟩ B.returns B.notSynchronized htab hK hE s.heap [] _ hP (gx_D_self hD) va_S.rf (hl.sub (fun i v hi => ?_))
  rw [← h0] at hi
  by_cases h : i < (av.map some).length
  · rw [List.getElem?_append_left h] at hi
    exact hi
  · rw [List.getElem?_append_right (by omega)] at hi
    have := List.mem_of_getElem? hi
    rw [List.mem_replicate] at this
    exact absurd this.2 (by simp)
/-- a callee throws, and it is caught here, by the row x of the table -/
theorem gx_callVT {y : MethodName} {wsy wsy2 : List Cond} {rm : Room} {As rest : List Value} {b ci q0 n index maxL : Nat} {q : vw_C} {fs : List Value} {bytes : ByteArray} {ret : Option FieldType} (wa wb : va_W) {wc : va_W} (C : CallFix p m c cc nL s args Ts own) (hK : va_K D cl tys s) (hE : gx_E A s s.heap)
    (hM : gx_X l y wsy rm D cl tys (.ref b :: As) wc E) (hG : GoodIn Ts (wsV own index q.1 y wsy)) (hw : wsy = Cond.code y bytes maxL ret :: wsy2) (hrc : rm.cells = 1) (hrs : rm.slots = 6)
    (hyd : y.cls = q.1 ∧ y.cls ≠ "java/lang/invoke/MethodHandle" ∧ y.cls ≠ "java/lang/invoke/VarHandle" ∧ (parseMethodDescriptor y.desc).map (fun d => d.parameters.length) = some n) (hR : rm.frames + 1 ≤ R.frames ∧ 8 + (maxL + 11) + rm.locals ≤ R.locals) (hc : cl[ci]? = some q) (hb : wc[q0]? = some (b, .inr (ci, fs)))
    (hn : As.length = n) (hst : st = As.reverse ++ .ref b :: rest) (hcat : (rest.map fun v => v.category).sum ≤ 8) (hcl : cells + 1 ≤ R.cells) (hsl : slots + 6 ≤ R.slots) (hd : decode cc pc = .ok (.invokevirtual index, 3))
    (pre : List ExceptionTableEntry) (x : ExceptionTableEntry) (suf : List ExceptionTableEntry) (htab : c.exceptionTable.toList = pre ++ x :: suf)
    (hpass : ∀ z ∈ pre, z.catchType ≠ 0 ∧ ∃ nm : String, Cond.classLink own z.catchType nm ∈ Ts ∧ va_Nc E nm s) (hx : covers x pc = true) (h0 : x.catchType ≠ 0) (hlink : Cond.classLink own x.catchType E ∈ Ts) (hcast : Cond.castable E E ∈ xB)
    (k : ∀ q9 : Nat, gx_G p l e R s m args below meth c D cl A nL (cells + 1) (slots + 6) Q (wa ++ wc ++ wb) x.handlerPc lv [.ref q9]) : gx_G p l e R s m args below meth c D cl A nL cells slots Q (wa ++ wc ++ wb) pc lv st := by
  intro H locs ls hP hD hS hl
  have hPc : va_P D cl wc H := fun k9 q9 h9 => hP _ q9 (gx_mid h9)
  have hDc : va_D (fun _ => True) wc := ⟨fun i j x z hi hj hxz => by have := hD.1 _ _ x z (gx_mid (wa := wa) (wb := wb) hi) (gx_mid hj) hxz; omega, fun _ _ _ => trivial⟩
  have hin : ∀ q, gx_in wc q → A q := fun q ⟨j, e9, hj⟩ => hD.2 _ _ (gx_mid (wa := wa) (wb := wb) hj)
  subst hst
  have hr := vx_runV (locs := locs) (cells := cells) (slots := slots) (e := e) (below := below) (meth := meth) C hM (cwV n C.2.2.2.2 hG hw hrc hrs hyd hR) ⟨gx_Xblind, va_recv hK hPc hc hb, fun U hU hW => ⟨rfl, by rw [hU]; exact hPc, va_K.moved hW.alike hK, hDc, by rw [hU]; exact ((hE.kept hS.2.1).narrow hin).warm hW⟩⟩ (g := F0 m pc ls (As.reverse ++ .ref b :: rest)) rfl hn hl.1 rfl (lv_room hcat) hd ⟨hcl, hsl⟩
  intro T hT2 X
  rcases hr T hT2 X with ⟨v, st₀, t, T', L, h0, X', hL, e1, e2, hF, st⟩ | ⟨q9, st₀, t, T', L, E2, ce, h0', X', hL, e1, e2, ⟨rfl, hP2, hF⟩, hce, hcv, hcl2, st⟩
  · exact hF.elim
  · obtain ⟨k1, k2, k3⟩ := vx_keep h0' e1 hS (fun q _ h => hin q h) hin hL hF
    have hP3 : va_P D cl (wa ++ wc ++ wb) T'.heap := gx_mid_P rfl hP hD k2 (by rw [e1]; exact hP2)
    obtain ⟨t2, a1, b1⟩ := vx_catch (rest := rest) (pc := pc) (ls := ls) (locs := locs ++ L) (cells := cells + 1) (slots := slots + 6) (H := T'.heap) (q := q9) C.2.2.2.1 pre x suf htab (fun z hz => Or.inr ⟨(hpass z hz).1, by obtain ⟨nm, g1, g2⟩ := (hpass z hz).2; exact ⟨nm, C.2.2.2.2 _ g1, g2⟩⟩) hx h0 (C.2.2.2.2 _ hlink) (hE.2.1 args _ hcast) (by rw [e1]; exact hce) hcv hcl2 (k q9 T'.heap (locs ++ L) ls hP3 hD k3 hl) T' rfl X'
    exact ⟨t2, st.trans a1, b1⟩
/-- a static call of a method with such a contract -/
theorem gx_callN {y : MethodName} {wsy wsy2 : List Cond} {rm : Room} {As rest : List Value} {n index maxL : Nat} {bytes : ByteArray} {ret : Option FieldType} {hh : List (Nat × Nat × Nat × Nat)} (wa wb : va_W) {wc wc2 : va_W} (C : CallFix p m c cc nL s args Ts own) (hK : va_K D cl tys s) (hE : gx_E A s s.heap)
    (hM : gx_N l y wsy rm D cl tys As wc wc2 rv) (hs : wc2.map (·.1) = wc.map (·.1)) (hG : GoodIn Ts (va_wsS own index y wsy)) (hw : wsy = Cond.codeWith y bytes maxL ret hh :: wsy2) (hrc : rm.cells = 1) (hrs : rm.slots = 6)
    (hyd : y.cls ≠ "java/lang/invoke/MethodHandle" ∧ y.cls ≠ "java/lang/invoke/VarHandle" ∧ (parseMethodDescriptor y.desc).map (fun d => d.parameters.length) = some n) (hR : rm.frames + 1 ≤ R.frames ∧ 8 + (maxL + 11) + rm.locals ≤ R.locals)
    (hn : As.length = n) (hst : st = As.reverse ++ rest) (hcat : (rest.map fun v => v.category).sum ≤ 8) (hcl : cells + 1 ≤ R.cells) (hsl : slots + 6 ≤ R.slots) (hd : decode cc pc = .ok (.invokestatic index, 3))
    (k : gx_G p l e R s m args below meth c D cl A nL (cells + 1) (slots + 6) Q (wa ++ wc2 ++ wb) (pc + 3) lv (rv.toList ++ rest)) : gx_G p l e R s m args below meth c D cl A nL cells slots Q (wa ++ wc ++ wb) pc lv st := by
  intro H locs ls hP hD hS hl
  have hPc : va_P D cl wc H := fun k9 q9 h9 => hP _ q9 (gx_mid h9)
  have hDc : va_D (fun _ => True) wc := ⟨fun i j x z hi hj hxz => by have := hD.1 _ _ x z (gx_mid (wa := wa) (wb := wb) hi) (gx_mid hj) hxz; omega, fun _ _ _ => trivial⟩
  have hin : ∀ q, gx_in wc q → A q := fun q ⟨j, e9, hj⟩ => hD.2 _ _ (gx_mid (wa := wa) (wb := wb) hj)
  subst hst
  have hr := vx_runSW (locs := locs) (cells := cells) (slots := slots) (e := e) (below := below) (meth := meth) (hh := hh) C hM (vx_cwSW n C.2.2.2.2 hG hw hrc hrs hyd hR) ⟨gx_Xblind, fun U hU hW => ⟨rfl, by rw [hU]; exact hPc, va_K.moved hW.alike hK, hDc, by rw [hU]; exact ((hE.kept hS.2.1).narrow hin).warm hW⟩⟩ (g := F0 m pc ls (As.reverse ++ rest)) rfl hn hl.1 rfl (lv_room hcat) hd ⟨hcl, hsl⟩
  intro T hT X
  obtain ⟨v, st₀, t, T', L, h0, X', hL, e1, e2, ⟨hv, hP2, hF⟩, st⟩ := hr T hT X
  cases hv
  obtain ⟨k1, k2, k3⟩ := vx_keep h0 e1 hS (fun q _ h => hin q h) hin hL hF
  obtain ⟨t2, a1, b1⟩ := k T'.heap (locs ++ L) ls (gx_mid_P hs hP hD k2 (by rw [e1]; exact hP2)) (gx_D_same (gx_mid_fst hs) hD) k3 hl T' rfl X'
  exact ⟨t2, st t2 a1, b1⟩
end GXN

/-- what a throw needs of the start: two static places of Throwable -/
def gx_T (A : Nat → Prop) (U : State) (H : Heap) : Prop := vx_Zq Bundle.tN "UNASSIGNED_STACK" Bundle.steD A U H ∧ vx_Zq Bundle.tN "SUPPRESSED_SENTINEL" Bundle.listD A U H
theorem gx_T.moved {A : Nat → Prop} {u U : State} {H : Heap} (hvm : u.vm.Alike U.vm) (h : gx_T A u H) : gx_T A U H := ⟨vx_Zq.moved hvm h.1, vx_Zq.moved hvm h.2⟩
theorem gx_T.kept {A : Nat → Prop} {U : State} {H H1 : Heap} (h : gx_T A U H) (hq : ∀ a : Nat, a < H.size → ¬ A a → H1[a]? = H[a]?) : gx_T A U H1 := ⟨vx_Zq.kept h.1 hq, vx_Zq.kept h.2 hq⟩
theorem gx_T.narrow {A B : Nat → Prop} {U : State} {H : Heap} (h : gx_T A U H) (hAB : ∀ q, B q → A q) : gx_T B U H := ⟨vx_Zq.narrow h.1 hAB, vx_Zq.narrow h.2 hAB⟩
/-- words of the tables that a throw needs and that aren't good ones -/
def xB : List Cond := [.declares ⟨"java/lang/RuntimeException", "<init>", "(Ljava/lang/String;)V"⟩, .declares ⟨"java/lang/Exception", "<init>", "(Ljava/lang/String;)V"⟩, .declares ⟨"java/lang/Throwable", "<init>", "(Ljava/lang/String;)V"⟩, .castable "java/lang/IllegalArgumentException" "java/lang/IllegalArgumentException", .castable "java/lang/IllegalStateException" "java/lang/IllegalStateException", .castable "java/lang/IndexOutOfBoundsException" "java/lang/IndexOutOfBoundsException"]
/-- the texts of the class's exceptions -/
def xS : List (Nat × String) := [(53, "no box can be like this"), (63, "there are as many boxes as there may be"), (107, "the box may not stand on this row"), (112, "no night has so many moves"), (163, "nothing of a box has this number"), (169, "no such tier"), (201, "no such box"), (203, "no such row")]
/-- an exception that the class throws: its class, the class link, the constructor's link -/
def xIA : String := "java/lang/IllegalArgumentException"
def xIS : String := "java/lang/IllegalStateException"
def xIB : String := "java/lang/IndexOutOfBoundsException"
/-- what a throw needs -/
def gx_E (A : Nat → Prop) (U : State) (H : Heap) : Prop := gx_T A U H ∧ (∀ a : Array Value, ∀ w ∈ xB, w.before a U = true) ∧ (∀ q ∈ xS, ∃ sa, vk_R "YardStacks" q.1 q.2 sa U) ∧ va_Nc xIS xIA U ∧ va_Nc xIS xIB U
theorem xB_tabs : ∀ w ∈ xB, w.tabsOnly = true := by decide +kernel
theorem xB_on : ∀ w ∈ xB, w.onTables = true := by decide +kernel
theorem gx_E.warm {A : Nat → Prop} {s U : State} {H : Heap} (hW : s.WarmedH U.vm) (h : gx_E A s H) : gx_E A U H := by
  refine ⟨h.1.moved hW.alike, fun a w hw => ?_, fun q hq => ?_, h.2.2.2.1.moved hW.alike, h.2.2.2.2.moved hW.alike⟩
  · have := Cond.tabsOnly_warm (args' := a) (T := U) hW w (xB_tabs w hw) (h.2.1 a w hw)
    exact this
  · obtain ⟨sa, hz⟩ := h.2.2.1 q hq
    exact ⟨sa, vk_R.warm hW hz⟩
theorem gx_E.same {A : Nat → Prop} {u U : State} {H : Heap} (hv : U.vm = u.vm) (h : gx_E A u H) : gx_E A U H := by
  refine ⟨h.1.moved (by rw [hv]; exact Vm.Alike.refl _), fun a w hw => va_tabs (xB_on w hw) hv.symm (h.2.1 a w hw), fun q hq => ?_, h.2.2.2.1.moved (by rw [hv]; exact Vm.Alike.refl _), h.2.2.2.2.moved (by rw [hv]; exact Vm.Alike.refl _)⟩
  obtain ⟨sa, hz⟩ := h.2.2.1 q hq
  exact ⟨sa, vk_R.same hv hz⟩
theorem gx_E.kept {A : Nat → Prop} {U : State} {H H1 : Heap} (h : gx_E A U H) (hq : ∀ a : Nat, a < H.size → ¬ A a → H1[a]? = H[a]?) : gx_E A U H1 := ⟨h.1.kept hq, h.2⟩
theorem gx_E.narrow {A B : Nat → Prop} {U : State} {H : Heap} (h : gx_E A U H) (hAB : ∀ q, B q → A q) : gx_E B U H := ⟨h.1.narrow hAB, h.2⟩
/-- what is left behind a throw -/
def gx_XC (D : va_G) (cl : List vw_C) (wc : va_W) (E : String) : String → State → State → Prop := fun E2 st t => E2 = E ∧ va_P D cl wc t.heap ∧ va_F (gx_in wc) st t
/-- the start of a method that throws -/
def gx_XP (D : va_G) (cl : List vw_C) (tys : List (ClassId × FieldType)) (av : List Value) (wc : va_W) : Array Value → State → Prop := va_Pc av (fun U => va_P D cl wc U.heap ∧ va_K D cl tys U ∧ va_D (fun _ => True) wc ∧ gx_E (gx_in wc) U U.heap)
/-- a method's contract: over the world wc it throws an E and leaves wc -/
def gx_X (l : Launch) (y : MethodName) (wsy : List Cond) (rm : Room) (D : va_G) (cl : List vw_C) (tys : List (ClassId × FieldType)) (av : List Value) (wc : va_W) (E : String) : Prop :=
  vx_Met l y wsy rm (gx_XP D cl tys av wc) (fun _ _ _ _ => False) (gx_XC D cl wc E) 1 6 (gx_in wc)
def xN : List String := ["java/lang/RuntimeException", "java/lang/Exception"]
def xOK (E : String) (ik ic : Nat) : Prop := Bundle.fit E = true ∧ Cond.classLink "YardStacks" ik E ∈ bigW ∧ Cond.initialized E ∈ bigW ∧ (∀ w ∈ (vx_atS "YardStacks" ic E xN).filter goodWord, w ∈ bigW) ∧ (∀ w ∈ (vx_atS "YardStacks" ic E xN).filter (fun w => !goodWord w), w ∈ xB) ∧ ∀ w ∈ Cond.classLink "YardStacks" ik E :: Cond.initialized E :: vx_atS "YardStacks" ic E xN, vx_ot w = true
theorem xOK_IA : xOK xIA 51 55 := by unfold xOK; decide +kernel
theorem xOK_IS : xOK xIS 61 65 := by unfold xOK; decide +kernel
theorem xOK_IB : xOK xIB 161 165 := by unfold xOK; decide +kernel
section GXX
variable {p : Program} {l : Launch} {e : Env} {R : Room} {s : State} {m : MethodId} {args : Array Value} {below : List Frame} {meth : Method} {c : Code} {D : va_G} {cl : List vw_C} {tys : List (ClassId × FieldType)} {A : Nat → Prop} {cc : ByteArray} {nL cells slots : Nat} {Q : State → Prop} {Ts : List Cond} {own : String} {ws wc : va_W} {pc : Nat} {lv : List (Option Value)} {st : List Value} {E : String}
theorem gx_Xblind {av : List Value} : FrameBlind (gx_XP D cl tys av wc) := fun a U g mk q => by
  obtain ⟨q0, qP, qK, qD, qE⟩ := q
  exact ⟨q0, qP, va_K.moved (u := U) (U := U.calling g mk a) (Vm.Alike.refl U.vm) qK, qD, gx_E.same (u := U) (U := U.calling g mk a) rfl qE⟩
/-- throw new E("text") -/
theorem gx_throw {ik ic si : Nat} {tx : String} (C : CallFix p m c cc nL s args Ts "YardStacks") (hT : ∀ w ∈ bigW, w ∈ Ts) (htr : l.stackTraces = false) (hx : xOK E ik ic) (hsi : (si, tx) ∈ xS)
    (hE : gx_E (gx_in wc) s s.heap)
    (d0 : decode cc pc = .ok (.new ik, 3)) (d3 : decode cc (pc + 3) = .ok (.dup, 1)) (d4 : decode cc (pc + 4) = .ok (.ldc si, 2)) (d6 : decode cc (pc + 6) = .ok (.invokespecial ic, 3)) (d9 : decode cc (pc + 9) = .ok (.athrow, 1))
    (hout : ∀ x ∈ c.exceptionTable.toList, False) (hRf : 5 < R.frames) (hRl : (st.map fun v => v.category).sum + 82 ≤ R.locals) (hRc : 1 ≤ R.cells) (hRs : 6 ≤ R.slots) (hlocks : meth.locks = false) :
    gx_G p l e R s m args below meth c D cl (gx_in wc) nL 0 0 (vx_MQ below (fun _ _ _ _ => False) (gx_XC D cl wc E) args s 1 6 (gx_in wc)) wc pc lv st := by
  intro H locs ls hP hD hS hl
  obtain ⟨hfit, hk, hini, ha1, ha2, hg⟩ := hx
  obtain ⟨hE1, hE2, hE3, -⟩ := hE
  obtain ⟨sa, hZ⟩ := hE3 (si, tx) hsi
  refine vx_throwS C.1 C.2.1 htr C.2.2.2.1 hfit (names := xN) (by decide) (C.2.2.2.2 _ (hT _ hk)) (C.2.2.2.2 _ (hT _ hini)) hZ (vx_hat (B := xB) (fun w hw => C.2.2.2.2 _ (hT _ (ha1 w hw))) ha2 (hE2 args)) hg hE1.1 hE1.2 hS (hl.1.trans C.2.2.1.symm) d0 d3 d4 d6 d9 (fun x hx => (hout x hx).elim) hRf hRl (by omega) (by omega) hlocks ?_ hS.2.2 (by omega) (by omega)
  intro t _ hz hk2
  exact ⟨rfl, hP.kept (fun k q hq => hk2 q.1 (hP k q hq).lt), Nat.le_trans hS.1 hz, fun q h1 h2 => (hk2 q (Nat.lt_of_lt_of_le h1 hS.1)).trans (hS.2.1 q h1 h2)⟩
theorem gx_ofX {y : MethodName} {wsy wsy2 : List Cond} {rm : Room} {av : List Value} {maxL : Nat} {ret : Option FieldType} (lv0 : List (Option Value)) (hy : plainName y.cls = true) (hw : wsy = Cond.code y cc maxL ret :: wsy2) (hav : av.all (fun v => v.category == 1) = true) (hlen : (lg_sl av).length ≤ maxL) (h0 : av.map some ++ List.replicate (maxL - av.length) none = lv0)
    (body : ∀ (p : Program) (e : Env) (s : State) (m : MethodId) (args : Array Value) (below : List Frame) (meth : Method) (c : Code), CallFix p m c cc maxL s args wsy y.cls → meth.locks = false → (∀ x ∈ c.exceptionTable.toList, False) → va_K D cl tys s → gx_E (gx_in wc) s s.heap →
      gx_G p l e (headSpec wsy rm).room s m args below meth c D cl (gx_in wc) maxL 0 0 (vx_MQ below (fun _ _ _ _ => False) (gx_XC D cl wc E) args s 1 6 (gx_in wc)) wc 0 lv0 []) : gx_X l y wsy rm D cl tys av wc E := by
  refine vx_ofW (cc := cc) (maxL := maxL) (ret := ret) hy hw ?_
  intro p e s m args below meth c s₁ B hml htab hv
  obtain ⟨hv, hP, hK, hD, hE⟩ := hv
  subst hv
  rw [lg_entry_eq]
  have hl := gx_L.entry av (fun v hv => by simpa using List.all_eq_true.mp hav v hv) hlen
  refine body p e s m _ below meth c ⟨B.exec, B.bytes, hml, findClass_of_methodNamed B.named, atoms_spec (ws := wsy) B.pre⟩ B.notSynchronized htab hK hE s.heap [] _ hP (gx_D_self hD) va_S.rf (hl.sub (fun i v hi => ?_))
  rw [← h0] at hi
  by_cases h : i < (av.map some).length
  · rw [List.getElem?_append_left h] at hi
    exact hi
  · rw [List.getElem?_append_right (by omega)] at hi
    have := List.mem_of_getElem? hi
    rw [List.mem_replicate] at this
    exact absurd this.2 (by simp)
/-- a callee throws, and it isn't caught here -/
theorem gx_callVX {y : MethodName} {wsy wsy2 : List Cond} {rm : Room} {As rest : List Value} {b ci q0 n index maxL : Nat} {q : vw_C} {fs : List Value} {bytes : ByteArray} {ret : Option FieldType} (C : CallFix p m c cc nL s args Ts own) (hK : va_K D cl tys s) (hE : gx_E (gx_in wc) s s.heap)
    (hM : gx_X l y wsy rm D cl tys (.ref b :: As) wc E) (hG : GoodIn Ts (wsV own index q.1 y wsy)) (hw : wsy = Cond.code y bytes maxL ret :: wsy2) (hrc : rm.cells = 1) (hrs : rm.slots = 6)
    (hyd : y.cls = q.1 ∧ y.cls ≠ "java/lang/invoke/MethodHandle" ∧ y.cls ≠ "java/lang/invoke/VarHandle" ∧ (parseMethodDescriptor y.desc).map (fun d => d.parameters.length) = some n) (hR : rm.frames + 1 ≤ R.frames ∧ 8 + (maxL + 11) + rm.locals ≤ R.locals) (hc : cl[ci]? = some q) (hb : wc[q0]? = some (b, .inr (ci, fs)))
    (hn : As.length = n) (hst : st = As.reverse ++ .ref b :: rest) (hcat : (rest.map fun v => v.category).sum ≤ 8) (hcl : 0 + 1 ≤ R.cells) (hsl : 0 + 6 ≤ R.slots) (hd : decode cc pc = .ok (.invokevirtual index, 3)) (hout : ∀ x ∈ c.exceptionTable.toList, False) (hlocks : meth.locks = false) :
    gx_G p l e R s m args below meth c D cl (gx_in wc) nL 0 0 (vx_MQ below (fun _ _ _ _ => False) (gx_XC D cl wc E) args s 1 6 (gx_in wc)) wc pc lv st := by
  intro H locs ls hP hD hS hl
  subst hst
  have hr := vx_runV (locs := locs) (e := e) (below := below) (meth := meth) C hM (cwV n C.2.2.2.2 hG hw hrc hrs hyd hR) ⟨gx_Xblind, va_recv hK hP hc hb, fun U hU hW => ⟨rfl, by rw [hU]; exact hP, va_K.moved hW.alike hK, hD.weaken (fun _ _ _ _ => trivial), by rw [hU]; exact (hE.kept hS.2.1).warm hW⟩⟩ (g := F0 m pc ls (As.reverse ++ .ref b :: rest)) rfl hn hl.1 rfl (lv_room hcat) hd ⟨hcl, hsl⟩
  intro T hT2 X
  rcases hr T hT2 X with ⟨v, st₀, t, T', L, h0, X', hL, e1, e2, hF, st⟩ | ⟨q9, st₀, t, T', L, E2, ce, h0, X', hL, e1, e2, ⟨rfl, hP2, hF⟩, hce, hcv, hcl2, st⟩
  · exact hF.elim
  · have hin : ∀ z, gx_in wc z → gx_in wc z := fun _ h => h
    obtain ⟨k1, k2, k3⟩ := vx_keep h0 e1 hS (fun z _ h => h) hin hL hF
    obtain ⟨t2, a1, b1⟩ := vx_out (p := p) (l := l) (e := e) (R := R) (s := s) (m := m) (args := args) (below := below) (meth := meth) (c := c) (Qc := fun _ _ _ _ => False) (XC := gx_XC D cl wc E2) (free := gx_in wc) (mc := 1) (ms := 6) (H := T'.heap) (locs := locs ++ L) (cells := 0 + 1) (slots := 0 + 6) (pc := pc) (ls := ls) (rest := rest) (fun x hx => (hout x hx).elim) hlocks (by rw [e1]; exact hce) hcv hcl2 (fun t9 h9 _ => ⟨rfl, by rw [h9, e1]; exact hP2, by rw [h9]; exact k3.1, fun z h1 h2 => by rw [h9]; exact k3.2.1 z h1 h2⟩) k3.2.2 (Nat.le_refl _) (Nat.le_refl _) T' rfl X'
    exact ⟨t2, st.trans a1, b1⟩
end GXX

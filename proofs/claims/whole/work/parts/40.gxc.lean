theorem mOb_c : Cond.code Lib.objectInit { data := #[177] } 1 none ∈ bigW := by decide +kernel
theorem mOb_i : Cond.instanceMethod Lib.objectInit ∈ bigW := by decide +kernel
theorem mAr_i : Cond.arrayClass .int ∈ bigW := by decide +kernel
theorem mAr_l : Cond.arrayClass .long ∈ bigW := by decide +kernel
/-- what arrayOver says of int[][]: its class is there, under its name -/
theorem ao_spec {s : State} {a : Array Value} (h : (Cond.arrayOver (.array .int)).before a s = true) : ∃ (comp c : ClassId) (k : Class), s.vm.classes[c]? = some k ∧ k.kind = .array comp (.array .int) ∧ s.vm.findClass ("[" ++ (FieldType.array .int).toString) = some c := by
  simp only [Cond.before, Cond.holds, Cond.value, beq_iff_eq] at h
  obtain ⟨comp, -, h⟩ := Option.bind_eq_some_iff.mp h
  obtain ⟨c, -, h⟩ := Option.bind_eq_some_iff.mp h
  obtain ⟨k, hk, hb⟩ := Option.map_eq_some_iff.mp h
  cases hkind : k.kind with
  | array comp2 ty =>
    rw [hkind] at hb
    simp at hb
    exact ⟨comp2, c, k, hk, by rw [hkind, hb.1], hb.2⟩
  | _ => rw [hkind] at hb; simp at hb
theorem ao_vm {s U : State} {a b : Array Value} (hv : U.vm = s.vm) (h : (Cond.arrayOver (.array .int)).before a s = true) : (Cond.arrayOver (.array .int)).before b U = true := by
  simp only [Cond.before, Cond.holds, Cond.value] at h ⊢
  rw [hv]
  exact h
theorem ao_alike {s U : State} {a b : Array Value} (hal : s.vm.Alike U.vm) (h : (Cond.arrayOver (.array .int)).before a s = true) : (Cond.arrayOver (.array .int)).before b U = true := ao_vm (s := s.setVm U.vm) (a := a) rfl (by rw [Cond.arrayOver_setVmC hal]; exact h)
/-- words that the constructors need and that aren't good ones -/
def gx_K (U : State) : Prop := va_Nw (.methodLinkNest "YardStacks" 19 yX0_init "YardStacks") U ∧ va_Nw (.methodLinkNest "YardStacks" 35 yX1_init "YardStacks") U ∧ (Cond.arrayOver (.array .int)).before #[] U = true
theorem gx_K.warm {s U : State} (hW : s.WarmedH U.vm) (h : gx_K s) : gx_K U := ⟨va_Nw.warmM hW h.1, va_Nw.warmM hW h.2.1, ao_alike hW.alike h.2.2⟩
theorem gx_K.same {u U : State} (hv : U.vm = u.vm) (h : gx_K u) : gx_K U := ⟨va_Nw.same rfl hv.symm h.1, va_Nw.same rfl hv.symm h.2.1, ao_alike (by rw [hv]; exact Vm.Alike.refl _) h.2.2⟩
theorem gx_Pm {D : va_G} {cl : List vw_C} {ws : va_W} {H : Heap} : va_P D cl ws H ↔ ∀ q ∈ ws, va_at D cl q H := by
  constructor
  · intro h q hq
    obtain ⟨k, hk⟩ := List.getElem?_of_mem hq
    exact h k q hk
  · intro h k q hk
    exact h q (List.mem_of_getElem? hk)
theorem gx_Dn {A : Nat → Prop} {ws : va_W} : va_D A ws ↔ (ws.map (·.1)).Nodup ∧ ∀ q ∈ ws, A q.1 := by
  constructor
  · intro h
    refine ⟨?_, fun q hq => ?_⟩
    · refine List.pairwise_iff_getElem.mpr (fun i j hi hj hij e => ?_)
      have hj' : j < ws.length := by simpa using hj
      have hi' : i < ws.length := by omega
      rw [List.getElem_map, List.getElem_map] at e
      have := h.1 i j ws[i] ws[j] (List.getElem?_eq_getElem hi') (List.getElem?_eq_getElem hj') e
      omega
    · obtain ⟨k, hk⟩ := List.getElem?_of_mem hq
      exact h.2 k q hk
  · intro h
    refine ⟨fun i j x y hi hj e => ?_, fun k q hk => h.2 q (List.mem_of_getElem? hk)⟩
    obtain ⟨hi', ei⟩ := List.getElem?_eq_some_iff.mp hi
    obtain ⟨hj', ej⟩ := List.getElem?_eq_some_iff.mp hj
    have hn := List.pairwise_iff_getElem.mp h.1
    rcases Nat.lt_trichotomy i j with q | q | q
    · exact absurd (by rw [List.getElem_map, List.getElem_map, ei, ej]; exact e) (hn i j (by simpa using hi') (by simpa using hj') q)
    · exact q
    · exact absurd (by rw [List.getElem_map, List.getElem_map, ei, ej]; exact e.symm) (hn j i (by simpa using hj') (by simpa using hi') q)
theorem gx_P_perm {D : va_G} {cl : List vw_C} {ws ws2 : va_W} {H : Heap} (h : ws.Perm ws2) (hP : va_P D cl ws H) : va_P D cl ws2 H := gx_Pm.mpr (fun q hq => gx_Pm.mp hP q (h.mem_iff.mpr hq))
theorem gx_D_perm {A : Nat → Prop} {ws ws2 : va_W} (h : ws.Perm ws2) (hD : va_D A ws) : va_D A ws2 := gx_Dn.mpr ⟨(h.map (·.1)).nodup_iff.mp (gx_Dn.mp hD).1, fun q hq => (gx_Dn.mp hD).2 q (h.mem_iff.mpr hq)⟩
/-- a constructor's start, its end, its contract: the world behind it has P -/
def gx_CP (D : va_G) (cl : List vw_C) (tys : List (ClassId × FieldType)) (av : List Value) (wc : va_W) (sz : Nat) : Array Value → State → Prop := va_Pc av (fun U => U.heap.size = sz ∧ va_P D cl wc U.heap ∧ va_K D cl tys U ∧ va_D (fun _ => True) wc ∧ gx_K U)
def gx_CQ (D : va_G) (cl : List vw_C) (wc : va_W) (sz : Nat) (P : va_W → Prop) : Array Value → State → Outcome → State → Prop := fun _ st o t => o = .returned none ∧ ∃ w2, P w2 ∧ va_P D cl w2 t.heap ∧ va_D (va_A wc sz) w2 ∧ va_F (va_A wc sz) st t
def gx_C (l : Launch) (y : MethodName) (wsy : List Cond) (rm : Room) (D : va_G) (cl : List vw_C) (tys : List (ClassId × FieldType)) (av : List Value) (wc : va_W) (sz : Nat) (P : va_W → Prop) (mc ms : Nat) : Prop :=
  Met l y wsy rm (gx_CP D cl tys av wc sz) (gx_CQ D cl wc sz P) mc ms (va_A wc sz)
section GXC
variable {p : Program} {l : Launch} {e : Env} {R : Room} {s : State} {m : MethodId} {args : Array Value} {below : List Frame} {meth : Method} {c : Code} {D : va_G} {cl : List vw_C} {tys : List (ClassId × FieldType)} {A : Nat → Prop} {cc : ByteArray} {nL cells slots : Nat} {Q : State → Prop} {Ts : List Cond} {own : String} {ws wc wc2 : va_W} {pc : Nat} {lv : List (Option Value)} {st : List Value} {P : va_W → Prop} {mc ms sz : Nat} {cI cG cL : ClassId}
theorem gx_perm {ws2 : va_W} (h : ws.Perm ws2) (k : gx_G p l e R s m args below meth c D cl A nL cells slots Q ws2 pc lv st) : gx_G p l e R s m args below meth c D cl A nL cells slots Q ws pc lv st := fun H locs ls hP hD hS hl => k H locs ls (gx_P_perm h hP) (gx_D_perm h hD) hS hl
theorem gx_Cblind {av : List Value} : FrameBlind (gx_CP D cl tys av wc sz) := fun a U g mk q => by
  obtain ⟨q0, q1, qP, qK, qD, qW⟩ := q
  exact ⟨q0, q1, qP, va_K.moved (u := U) (U := U.calling g mk a) (Vm.Alike.refl U.vm) qK, qD, gx_K.same (u := U) (U := U.calling g mk a) rfl qW⟩
theorem gx_ofC {y : MethodName} {wsy wsy2 : List Cond} {rm : Room} {av : List Value} {maxL : Nat} (lv0 : List (Option Value)) (hy : plainName y.cls = true) (hin : y.name = "<init>") (hw : wsy = Cond.code y cc maxL none :: wsy2) (hav : av.all (fun v => v.category == 1) = true) (hlen : (lg_sl av).length ≤ maxL) (h0 : av.map some ++ List.replicate (maxL - av.length) none = lv0)
    (body : ∀ (p : Program) (e : Env) (s : State) (m : MethodId) (args : Array Value) (below : List Frame) (meth : Method) (c : Code), CallFix p m c cc maxL s args wsy y.cls → meth.sig.returnType = none → meth.locks = false → meth.name = "<init>" → va_K D cl tys s → gx_K s → (∀ q, s.heap.size ≤ q → va_A wc s.heap.size q) →
      gx_G p l e (headSpec wsy rm).room s m args below meth c D cl (va_A wc s.heap.size) maxL 0 0 (MQ below (gx_CQ D cl wc s.heap.size P) args s mc ms (va_A wc s.heap.size)) wc 0 lv0 []) : gx_C l y wsy rm D cl tys av wc sz P mc ms := by
  refine Met.ofW (cc := cc) (maxL := maxL) (ret := none) hy hw ?_
  intro p e s m args below meth c s₁ B hml hv
  obtain ⟨hv, hz, hP, hK, hD, hW⟩ := hv
  subst hv
  subst hz
  rw [lg_entry_eq]
  have hl := gx_L.entry av (fun v hv => by simpa using List.all_eq_true.mp hav v hv) hlen
  refine body p e s m _ below meth c ⟨B.exec, B.bytes, hml, findClass_of_methodNamed B.named, atoms_spec (ws := wsy) B.pre⟩ B.returns B.notSynchronized ((name_of_methodNamed B.named B.method).1.trans hin) hK hW (fun q h => Or.inr h) s.heap [] _ hP (hD.self (sz := s.heap.size)) va_S.rf (hl.sub (fun i v hi => ?_))
  rw [← h0] at hi
  by_cases h : i < (av.map some).length
  · rw [List.getElem?_append_left h] at hi
    exact hi
  · rw [List.getElem?_append_right (by omega)] at hi
    have := List.mem_of_getElem? hi
    rw [List.mem_replicate] at this
    exact absurd this.2 (by simp)
theorem gx_vretC (C : CallFix p m c cc nL s args Ts own) (hr : meth.sig.returnType = none) (hlocks : meth.locks = false) (hd : decode cc pc = .ok (.return_, 1)) (h1 : cells ≤ mc) (h2 : slots ≤ ms) (hp : P ws) : gx_G p l e R s m args below meth c D cl (va_A wc s.heap.size) nL cells slots (MQ below (gx_CQ D cl wc s.heap.size P) args s mc ms (va_A wc s.heap.size)) ws pc lv [] := by
  refine gx_widen h1 h2 ?_
  intro H locs ls hP hD hS hl
  exact W.vret C.1 C.2.1 hr (fun t ht hW => ⟨rfl, ws, hp, by rw [ht]; exact hP, hD, hS.F ht⟩) hS.2.2 hd hlocks
theorem gx_obj {idx a : Nat} (C : CallFix p m c cc nL s args Ts own) (hT : ∀ w ∈ bigW, w ∈ Ts) (hlink : Cond.methodLink own idx Lib.objectInit ∈ bigW) (hd : decode cc pc = .ok (.invokespecial idx, 3)) (hf : 1 ≤ R.frames) (hr : (st.map fun v => v.category).sum + 12 ≤ R.locals)
    (k : gx_G p l e R s m args below meth c D cl A nL cells slots Q ws (pc + 3) lv st) : gx_G p l e R s m args below meth c D cl A nL cells slots Q ws pc lv (.ref a :: st) := fun H locs ls hP hD hS hl =>
  W.objInit C.1 C.2.1 C.2.2.2.1 (C.2.2.2.2 _ (hT _ hlink)) (C.2.2.2.2 _ (hT _ mOb_i)) (C.2.2.2.2 _ (hT _ mOb_c)) (g := F0 m pc ls (.ref a :: st)) rfl (hl.1.trans C.2.2.1.symm) rfl hd hf (by show 2 * 0 + _ + 12 ≤ _; omega) (k H locs ls hP hD hS hl)
theorem gx_newi {n : Int32} {N : Nat} (C : CallFix p m c cc nL s args Ts own) (hT : ∀ w ∈ bigW, w ∈ Ts) (hK : va_K D cl (gT cI cG cL) s) (hA : ∀ q, s.heap.size ≤ q → A q) (hn : n = nI N) (hN : N ≤ 1000) (h1 : cells + 1 ≤ R.cells) (h2 : slots + N ≤ R.slots) (hd : decode cc pc = .ok (.newarray .int, 2))
    (k : ∀ q : Nat, gx_G p l e R s m args below meth c D cl A nL (cells + 1) (slots + N) Q (ws ++ [(q, .inl (cI, N, .inl (fun _ => 0)))]) (pc + 2) lv (.ref q :: st)) : gx_G p l e R s m args below meth c D cl A nL cells slots Q ws pc lv (.int n :: st) := by
  subst hn
  intro H locs ls hP hD hS hl
  refine va_newa (atype := .int) (a0 := (N, .inl (fun _ => 0))) (ty := .int) (N' := N) C.1 C.2.1 (C.2.2.2.2 _ (hT _ mAr_i)) rfl hK hP hD hS hA (fun _ => rfl) (m_n0 (by omega)) (nI_clamp (by omega)) (by show N * 4 ≤ _; omega) h1 h2 hd ?_
  intro q cA H1 hK1 hP1 hD1 hS1
  have e1 : s.vm.findClass ("[" ++ FieldType.int.toString) = some cA := (hK1.2 3 (cA, .int) rfl).2
  have e2 : s.vm.findClass ("[" ++ FieldType.int.toString) = some cI := (hK.2 0 (cI, .int) rfl).2
  cases Option.some.inj (e1.symm.trans e2)
  exact k q H1 locs ls hP1 hD1 hS1 hl
theorem gx_newl {n : Int32} {N : Nat} (C : CallFix p m c cc nL s args Ts own) (hT : ∀ w ∈ bigW, w ∈ Ts) (hK : va_K D cl (gT cI cG cL) s) (hA : ∀ q, s.heap.size ≤ q → A q) (hn : n = nI N) (hN : N ≤ 1000) (h1 : cells + 1 ≤ R.cells) (h2 : slots + N ≤ R.slots) (hd : decode cc pc = .ok (.newarray .long, 2))
    (k : ∀ q : Nat, gx_G p l e R s m args below meth c D cl A nL (cells + 1) (slots + N) Q (ws ++ [(q, .inl (cL, N, .inr (.inl (fun _ => 0))))]) (pc + 2) lv (.ref q :: st)) : gx_G p l e R s m args below meth c D cl A nL cells slots Q ws pc lv (.int n :: st) := by
  subst hn
  intro H locs ls hP hD hS hl
  refine va_newa (atype := .long) (a0 := (N, .inr (.inl (fun _ => 0)))) (ty := .long) (N' := N) C.1 C.2.1 (C.2.2.2.2 _ (hT _ mAr_l)) rfl hK hP hD hS hA (fun _ => rfl) (m_n0 (by omega)) (nI_clamp (by omega)) (by show N * 8 ≤ _; omega) h1 h2 hd ?_
  intro q cA H1 hK1 hP1 hD1 hS1
  have e1 : s.vm.findClass ("[" ++ FieldType.long.toString) = some cA := (hK1.2 3 (cA, .long) rfl).2
  have e2 : s.vm.findClass ("[" ++ FieldType.long.toString) = some cL := (hK.2 2 (cL, .long) rfl).2
  cases Option.some.inj (e1.symm.trans e2)
  exact k q H1 locs ls hP1 hD1 hS1 hl
theorem gx_new {Cn : String} {T : u_T} {N ci index : Nat} {fs : List Value} (C : CallFix p m c cc nL s args Ts own) (hT : ∀ w ∈ bigW, w ∈ Ts) (hK : va_K D cl tys s) (hA : ∀ q, s.heap.size ≤ q → A q) (hin : ∀ w ∈ u_ws Cn T N, w ∈ bigW) (ty : Nat → FieldType) (hty : ∀ k, k < N → parseFieldDescriptor (T k).2.2.1 = some (ty k)) (hcl : Cond.classLink own index Cn ∈ bigW) (hinst : Cond.instantiable Cn N ∈ bigW) (hini : Cond.initialized Cn ∈ bigW) (hc : cl[ci]? = some (Cn, T, N)) (hfs : ∀ j, j < N → defaultValue (ty j) = vp_V fs j) (h1 : cells + 1 ≤ R.cells) (h2 : slots + N ≤ R.slots) (hd : decode cc pc = .ok (.new index, 3))
    (k : ∀ q : Nat, gx_G p l e R s m args below meth c D cl A nL (cells + 1) (slots + N) Q (ws ++ [(q, .inr (ci, fs))]) (pc + 3) lv (.ref q :: st)) : gx_G p l e R s m args below meth c D cl A nL cells slots Q ws pc lv st := fun H locs ls hP hD hS hl =>
  va_new C.1 C.2.1 C.2.2.2.2 (fun w h => hT w (hin w h)) ty hty C.2.2.2.1 (C.2.2.2.2 _ (hT _ hcl)) (C.2.2.2.2 _ (hT _ hinst)) (C.2.2.2.2 _ (hT _ hini)) hK hP hD hS hA hc hfs h1 h2 hd (fun q H1 hP1 hD1 hS1 => k q H1 locs ls hP1 hD1 hS1 hl)
/-- new int[n][k] -/
theorem gx_mna {index n k : Nat} (C : CallFix p m c cc nL s args Ts own) (hT : ∀ w ∈ bigW, w ∈ Ts) (hK : va_K D cl (gT cI cG cL) s) (hW : gx_K s) (hA : ∀ q, s.heap.size ≤ q → A q) (hcl : Cond.classLink own index "[[I" ∈ bigW) (hn : n ≤ 16) (hk : k ≤ 8) (h1 : cells + (1 + n) ≤ R.cells) (h2 : slots + (n + n * k) ≤ R.slots) (hd : decode cc pc = .ok (.multianewarray index 2, 4))
    (kk : ∀ (q : Nat) (r : Nat → Nat), gx_G p l e R s m args below meth c D cl A nL (cells + 1 + n) (slots + n + n * k) Q ((ws ++ [(q, .inl (cG, n, .inr (.inr (.inr (.inr (fun i => if i < n then some (r i) else none))))))]) ++ (List.range n).map (fun i => (r i, .inl (cI, k, .inl (fun _ => 0))))) (pc + 4) lv (.ref q :: st)) : gx_G p l e R s m args below meth c D cl A nL cells slots Q ws pc lv (.int (nI k) :: .int (nI n) :: st) := by
  intro H locs ls hP hD hS hl
  have hI : s.vm.findClass (FieldType.array .int).toString = some cI := (hK.2 0 (cI, .int) rfl).2
  have hP0 : va_P D cl (ws ++ va_pl [] (fun _ => .inr (0, []))) H := by rw [show va_pl [] (fun _ => .inr (0, [])) = [] from rfl, List.append_nil]; exact hP
  have hD0 : va_D A (ws ++ va_pl [] (fun _ => .inr (0, []))) := by rw [show va_pl [] (fun _ => .inr (0, [])) = [] from rfl, List.append_nil]; exact hD
  refine va_mna (z := (k, .inl (fun _ => 0))) (ty := .int) (N' := n) (K' := k) C.1 C.2.1 C.2.2.2.1 (C.2.2.2.2 _ (hT _ hcl)) (ao_alike (Vm.Alike.refl _) hW.2.2) (C.2.2.2.2 _ (hT _ mAr_i)) hI hK hP0 hD0 hS hA (m_n0 (by omega)) (m_n0 (by omega)) (nI_clamp (by omega)) (nI_clamp (by omega)) (by omega) (by show k * 4 ≤ _; omega) (by omega) rfl rfl h1 h2 (fun c9 => ?_) hd ?_
  · show ({ cls := c9, slots := Array.replicate k (.int 0) } : Cell) = arrV c9 k (fun _ => .int 0)
    rw [← arrV_new]
  · intro q r cA H1 hr1 hr2 hK1 hP1 hD1 hS1
    have e1 : s.vm.findClass ("[" ++ (FieldType.array .int).toString) = some cA := (hK1.2 3 (cA, .array .int) rfl).2
    have e2 : s.vm.findClass ("[" ++ (FieldType.array .int).toString) = some cG := (hK.2 1 (cG, .array .int) rfl).2
    cases Option.some.inj (e1.symm.trans e2)
    have ep : va_pl ([] ++ (List.range n).map r) (vr_up (fun _ => .inr (0, [])) ((List.range n).map r) (.inl (cI, k, .inl (fun _ => 0)))) = (List.range n).map (fun i => (r i, .inl (cI, k, .inl (fun _ => 0)))) := by
      rw [List.nil_append, va_pl, List.map_map]
      refine List.map_congr_left (fun i hi => ?_)
      show (r i, _) = (r i, _)
      rw [vr_up_in (List.mem_map.mpr ⟨i, hi, rfl⟩)]
    rw [ep] at hP1 hD1
    exact kk q r H1 locs ls hP1 hD1 hS1 hl
end GXC

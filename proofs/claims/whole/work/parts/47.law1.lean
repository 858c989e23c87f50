section LAW1
variable {p : Program} {l : Launch} {e : Env} {R : Room} {s : State} {m : MethodId} {args : Array Value} {below : List Frame} {meth : Method} {c : Code} {D : va_G} {cl : List vw_C} {tys : List (ClassId × FieldType)} {A : Nat → Prop} {cc : ByteArray} {nL cells slots : Nat} {Q : State → Prop} {Ts : List Cond} {own : String} {ws : va_W} {pc : Nat} {lv : List (Option Value)} {st : List Value} {b L : Nat} {xs : Nat → Int32}
theorem gx_sldN {i : Nat} (C : CallFix p m c cc nL s args Ts own) (hX : va_X b L xs s s.heap) (hbl : b < s.heap.size) (hbA : ¬ A b) (hi : i < L) (hL : L < 2 ^ 31) (hd : decode cc pc = .ok (.iaload, 1)) (k : gx_G p l e R s m args below meth c D cl A nL cells slots Q ws (pc + 1) lv (.int (xs i) :: st)) : gx_G p l e R s m args below meth c D cl A nL cells slots Q ws pc lv (.int (nI i) :: .ref b :: st) := fun H locs ls hP hD hS hl => va_sld C.1 C.2.1 hX hbl hbA hS (vp_in_nI hi hL) hd (by rw [nI_clamp (Nat.lt_trans hi hL)]; exact k H locs ls hP hD hS hl)
theorem gx_slen (C : CallFix p m c cc nL s args Ts own) (hX : va_X b L xs s s.heap) (hbl : b < s.heap.size) (hbA : ¬ A b) (hd : decode cc pc = .ok (.arraylength, 1)) (k : gx_G p l e R s m args below meth c D cl A nL cells slots Q ws (pc + 1) lv (.int (nI L) :: st)) : gx_G p l e R s m args below meth c D cl A nL cells slots Q ws pc lv (.ref b :: st) := fun H locs ls hP hD hS hl => va_slen C.1 C.2.1 hX hbl hbA hS hd (k H locs ls hP hD hS hl)
theorem gx_lcmp {x y : Int64} (C : CallFix p m c cc nL s args Ts own) (hd : decode cc pc = .ok (.lcmp, 1)) (k : gx_G p l e R s m args below meth c D cl A nL cells slots Q ws (pc + 1) lv (.int (lg_cmp x y) :: st)) : gx_G p l e R s m args below meth c D cl A nL cells slots Q ws pc lv (.long y :: .long x :: st) := fun H locs ls hP hD hS hl => W.lcmp C.1 C.2.1 hd (k H locs ls hP hD hS hl)
/-- script[i + k] -/
theorem gx_arg {i k0 : Nat} {kz : Int} (C : CallFix p m c cc nL s args Ts own) (hX : va_X b L xs s s.heap) (hbl : b < s.heap.size) (hbA : ¬ A b) (hL : L ≤ 3075) (h0 : lv[0]? = some (some (.ref b))) (h4 : lv[4]? = some (some (.int (nI i)))) (hk : Int32.ofInt kz = nI k0) (hi : i + k0 < L)
    (d0 : decode cc pc = .ok (.aload_n 0, 1)) (d1 : decode cc (pc + 1) = .ok (.iload 4, 2)) (d3 : decode cc (pc + 3) = .ok (.iconst kz, 1)) (d4 : decode cc (pc + 4) = .ok (.iadd, 1)) (d5 : decode cc (pc + 5) = .ok (.iaload, 1))
    (k : gx_G p l e R s m args below meth c D cl A nL cells slots Q ws (pc + 6) lv (.int (xs (i + k0)) :: st)) : gx_G p l e R s m args below meth c D cl A nL cells slots Q ws pc lv st := by
  refine gx_aload_n (k0 := 0) C d0 h0 ?_
  refine gx_iload C d1 h4 ?_
  refine gx_iconst (v := nI k0) C d3 hk ?_
  refine gx_iadd C d4 ?_
  rw [nI_add]
  exact gx_sldN C hX hbl hbA hi (by omega) d5 k
/-- the law's array of one long, the class's world, the model's -/
abbrev LW (cI cG cL : ClassId) (ad am : Nat → Nat) (ao n t : Nat) (B : Int32) (f : Nat → Int64) (u g v : Nat → Nat → Int32) : va_W := oW cL ao f ++ yW cI cG ad n t B u g ++ mW cI am n t B v
section
variable {cI cG cL : ClassId} {ad am : Nat → Nat} {ao n t : Nat} {B : Int32} {f f2 : Nat → Int64} {u g v u2 g2 v2 : Nat → Nat → Int32} {y : MethodName} {wsy wsy2 : List Cond} {rm : Room} {As rest : List Value} {np index maxL : Nat} {bytes : ByteArray} {ret : Option FieldType} {hh : List (Nat × Nat × Nat × Nat)} {r : Int32}
/-- a helper is called -/
theorem lw_N (C : CallFix p m c cc nL s args Ts own) (hK : va_K D vwCl (gT cI cG cL) s) (hE : gx_E A s s.heap)
    (hM : gx_N l y wsy rL D vwCl (gT cI cG cL) As (hW cI cG cL ad ao n t B f u g) (hW cI cG cL ad ao n t B f2 u2 g2) (some (.int r))) (hG : GoodIn Ts (va_wsS own index y wsy)) (hw : wsy = Cond.codeWith y bytes maxL ret hh :: wsy2)
    (hyd : y.cls ≠ "java/lang/invoke/MethodHandle" ∧ y.cls ≠ "java/lang/invoke/VarHandle" ∧ (parseMethodDescriptor y.desc).map (fun d => d.parameters.length) = some np) (hR : rL.frames + 1 ≤ R.frames ∧ 8 + (maxL + 11) + rL.locals ≤ R.locals)
    (hn : As.length = np) (hst : st = As.reverse ++ rest) (hcat : (rest.map fun v => v.category).sum ≤ 8) (hcl : cells + 1 ≤ R.cells) (hsl : slots + 6 ≤ R.slots) (hd : decode cc pc = .ok (.invokestatic index, 3))
    (k : gx_G p l e R s m args below meth c D vwCl A nL (cells + 1) (slots + 6) Q (LW cI cG cL ad am ao n t B f2 u2 g2 v) (pc + 3) lv (.int r :: rest)) : gx_G p l e R s m args below meth c D vwCl A nL cells slots Q (LW cI cG cL ad am ao n t B f u g v) pc lv st := by
  have e1 : ∀ (f : Nat → Int64) (u g : Nat → Nat → Int32), LW cI cG cL ad am ao n t B f u g v = [] ++ hW cI cG cL ad ao n t B f u g ++ mW cI am n t B v := fun f u g => by
    show oW cL ao f ++ yW cI cG ad n t B u g ++ mW cI am n t B v = [] ++ (oW cL ao f ++ yW cI cG ad n t B u g ++ []) ++ mW cI am n t B v
    rw [List.nil_append, List.append_nil]
  refine gx_ws (e1 f u g) ?_
  refine gx_callN [] (mW cI am n t B v) C hK hE hM hW_fst hG hw rfl rfl hyd hR hn hst hcat hcl hsl hd ?_
  exact gx_ws (e1 f2 u2 g2).symm k
/-- a method of the model's is called -/
theorem lw_M {q0 ci b0 : Nat} {q : vw_C} {fs : List Value} (C : CallFix p m c cc nL s args Ts own) (hK : va_K D vwCl (gT cI cG cL) s)
    (hM : gx_M l y wsy rm D vwCl (gT cI cG cL) (.ref b0 :: As) (mW cI am n t B v) (mW cI am n t B v2) (some (.int r))) (hG : GoodIn Ts (wsV own index q.1 y wsy)) (hw : wsy = Cond.code y bytes maxL ret :: wsy2) (hrc : rm.cells = 0) (hrs : rm.slots = 0)
    (hyd : y.cls = q.1 ∧ y.cls ≠ "java/lang/invoke/MethodHandle" ∧ y.cls ≠ "java/lang/invoke/VarHandle" ∧ (parseMethodDescriptor y.desc).map (fun d => d.parameters.length) = some np) (hR : rm.frames + 1 ≤ R.frames ∧ 8 + (maxL + 11) + rm.locals ≤ R.locals) (hc : vwCl[ci]? = some q) (hb : (mW cI am n t B v)[q0]? = some (b0, .inr (ci, fs)))
    (hn : As.length = np) (hst : st = As.reverse ++ .ref b0 :: rest) (hcat : (rest.map fun v => v.category).sum ≤ 8) (hcl : cells ≤ R.cells) (hsl : slots ≤ R.slots) (hd : decode cc pc = .ok (.invokevirtual index, 3))
    (k : gx_G p l e R s m args below meth c D vwCl A nL cells slots Q (LW cI cG cL ad am ao n t B f u g v2) (pc + 3) lv (.int r :: rest)) : gx_G p l e R s m args below meth c D vwCl A nL cells slots Q (LW cI cG cL ad am ao n t B f u g v) pc lv st := by
  refine gx_ws (ws2 := (oW cL ao f ++ yW cI cG ad n t B u g) ++ mW cI am n t B v ++ []) (List.append_nil _).symm ?_
  refine gx_fVi (q0 := q0) (oW cL ao f ++ yW cI cG ad n t B u g) [] C hK hM mW_fst hG hw hrc hrs hyd hR hc hb hn hst hcat hcl hsl hd ?_
  exact gx_ws (List.append_nil _) k
/-- a method of the class's is called -/
theorem lw_Y {q0 ci b0 : Nat} {q : vw_C} {fs : List Value} (C : CallFix p m c cc nL s args Ts own) (hK : va_K D vwCl (gT cI cG cL) s)
    (hM : gx_M l y wsy rm D vwCl (gT cI cG cL) (.ref b0 :: As) (yW cI cG ad n t B u g) (yW cI cG ad n t B u2 g2) (some (.int r))) (hG : GoodIn Ts (wsV own index q.1 y wsy)) (hw : wsy = Cond.code y bytes maxL ret :: wsy2) (hrc : rm.cells = 0) (hrs : rm.slots = 0)
    (hyd : y.cls = q.1 ∧ y.cls ≠ "java/lang/invoke/MethodHandle" ∧ y.cls ≠ "java/lang/invoke/VarHandle" ∧ (parseMethodDescriptor y.desc).map (fun d => d.parameters.length) = some np) (hR : rm.frames + 1 ≤ R.frames ∧ 8 + (maxL + 11) + rm.locals ≤ R.locals) (hc : vwCl[ci]? = some q) (hb : (yW cI cG ad n t B u g)[q0]? = some (b0, .inr (ci, fs)))
    (hn : As.length = np) (hst : st = As.reverse ++ .ref b0 :: rest) (hcat : (rest.map fun v => v.category).sum ≤ 8) (hcl : cells ≤ R.cells) (hsl : slots ≤ R.slots) (hd : decode cc pc = .ok (.invokevirtual index, 3))
    (k : gx_G p l e R s m args below meth c D vwCl A nL cells slots Q (LW cI cG cL ad am ao n t B f u2 g2 v) (pc + 3) lv (.int r :: rest)) : gx_G p l e R s m args below meth c D vwCl A nL cells slots Q (LW cI cG cL ad am ao n t B f u g v) pc lv st :=
  gx_fVi (q0 := q0) (oW cL ao f) (mW cI am n t B v) C hK hM yW_fst hG hw hrc hrs hyd hR hc hb hn hst hcat hcl hsl hd k
end
/-- cell(s, k) -/
def ceP (b L : Nat) (xs : Nat → Int32) (k0 : Nat) : Array Value → State → Prop := va_Pc [.ref b, .int (nI k0)] (fun U => va_X b L xs U U.heap ∧ b < U.heap.size)
def ceV (L : Nat) (xs : Nat → Int32) (k0 : Nat) : Int32 := if k0 < L then xs k0 else 0
def ceQ (L : Nat) (xs : Nat → Int32) (k0 : Nat) : Array Value → State → Outcome → State → Prop := fun _ st o t => o = .returned (some (.int (ceV L xs k0))) ∧ va_F (fun _ => False) st t
theorem ce_iret {Qc : Array Value → State → Outcome → State → Prop} {r : Int32} (C : CallFix p m c cc nL s args Ts own) (hr : meth.sig.returnType = some .int) (hlocks : meth.locks = false) (hd : decode cc pc = .ok (.ireturn, 1)) (hq : ∀ t : State, va_F A s t → Qc args s (.returned (some (.int r))) t) : gx_G p l e R s m args below meth c D cl A nL 0 0 (MQ below Qc args s 0 0 A) ws pc lv [.int r] := fun H locs ls hP hD hS hl => W.iret C.1 C.2.1 hr (fun t ht _ => hq t (hS.F ht)) hS.2.2 hd hlocks
set_option maxHeartbeats 4000000 in
theorem c_L_cell {k0 : Nat} (hL : L ≤ 3075) (hk : k0 ≤ 2) : Met l yL_cell wsL_cell ({ frames := 0, cells := 0, slots := 0, locals := 0 }) (ceP b L xs k0) (ceQ L xs k0) 0 0 (fun _ => False) := by
  refine Met.ofW (cc := cL_cell) (maxL := 2) (ret := some .int) (by decide) rfl ?_
  intro p e s m args below meth c s₁ B hml hv
  obtain ⟨hv, hX, hbl⟩ := hv
  subst hv
  rw [lg_entry_eq]
  have hl := gx_L.entry [.ref b, .int (nI k0)] (n := 2) (fun v hv => by simpa using List.all_eq_true.mp (show ([.ref b, .int (nI k0)] : List Value).all (fun v => v.category == 1) = true from rfl) v hv) (Nat.le_of_ble_eq_true rfl)
  have C : CallFix p m c cL_cell 2 s #[.ref b, .int (nI k0)] wsL_cell "YardStacksLaw" := ⟨B.exec, B.bytes, hml, findClass_of_methodNamed B.named, atoms_spec (ws := wsL_cell) B.pre⟩
  have K : gx_G p l e (headSpec wsL_cell ({ frames := 0, cells := 0, slots := 0, locals := 0 })).room s m #[.ref b, .int (nI k0)] below meth c ((fun _ => 0, fun _ _ => 0) : va_G) [] (fun _ => False) 2 0 0 (MQ below (ceQ L xs k0) #[.ref b, .int (nI k0)] s 0 0 (fun _ => False)) [] 0 [some (.ref b), some (.int (nI k0))] [] := by
    refine gx_iload_n C dL_cell_0 rfl ?_
    refine gx_aload_n C dL_cell_1 rfl ?_
    refine gx_slen C hX hbl (fun h => h) dL_cell_2 ?_
    refine gx_icmp_ge (tgt := 12) C dL_cell_3 (by decide) (fun c3 => ?_) (fun c3 => ?_)
    · refine gx_iconst (v := 0) C dL_cell_12 (by decide) ?_
      refine ce_iret C B.returns B.notSynchronized dL_cell_13 (fun t ht => ⟨?_, ht⟩)
      rw [ceV, if_neg (fun q => nI_ge q (by omega) c3)]
    · have hlt : k0 < L := by
        by_cases q : k0 < L
        · exact q
        · exact absurd ((nI_leI (by omega) (by omega)).mpr (Nat.not_lt.mp q)) c3
      refine gx_aload_n C dL_cell_6 rfl ?_
      refine gx_iload_n C dL_cell_7 rfl ?_
      refine gx_sldN C hX hbl (fun h => h) hlt (by omega) dL_cell_8 ?_
      refine gx_goto (tgt := 13) C dL_cell_9 (by decide) ?_
      refine ce_iret C B.returns B.notSynchronized dL_cell_13 (fun t ht => ⟨?_, ht⟩)
      rw [ceV, if_pos hlt]
  exact K s.heap [] _ (fun k q h => nomatch h) ⟨fun i j x y h => (nomatch h), fun k q h => (nomatch h)⟩ va_S.rf hl
theorem ce_blind {k0 : Nat} : FrameBlind (ceP b L xs k0) := fun a U g mk q => by
  obtain ⟨q0, qX, qb⟩ := q
  exact ⟨q0, va_X.moved (u := U) (U := U.calling g mk a) (Vm.Alike.refl U.vm) qX, qb⟩
/-- the law reads one of the first three ints -/
theorem lw_cell {index k0 : Nat} {rest : List Value} (C : CallFix p m c cc nL s args Ts own) (hX : va_X b L xs s s.heap) (hbl : b < s.heap.size) (hbA : ¬ A b) (hL : L ≤ 3075) (hk : k0 ≤ 2) (hG : GoodIn Ts (va_wsS own index yL_cell wsL_cell)) (hR : 0 + 1 ≤ R.frames ∧ 8 + (2 + 11) + 0 ≤ R.locals)
    (hst : st = [.int (nI k0), .ref b] ++ rest) (hcat : (rest.map fun v => v.category).sum ≤ 8) (hcl : cells ≤ R.cells) (hsl : slots ≤ R.slots) (hd : decode cc pc = .ok (.invokestatic index, 3))
    (k : gx_G p l e R s m args below meth c D cl A nL cells slots Q ws (pc + 3) lv (.int (ceV L xs k0) :: rest)) : gx_G p l e R s m args below meth c D cl A nL cells slots Q ws pc lv st := by
  intro H locs ls hP hD hS hl
  subst hst
  have hr := va_runS (locs := locs) (cells := cells) (slots := slots) (e := e) (below := below) (meth := meth) (H := H) (As := [.ref b, .int (nI k0)]) (rest := rest) (g := F0 m pc ls ([.int (nI k0), .ref b] ++ rest)) C (c_L_cell (l := l) (b := b) (L := L) (xs := xs) hL hk) (va_cwS 2 C.2.2.2.2 hG rfl rfl rfl (by decide +kernel) hR) ⟨ce_blind, fun U hU hW => ⟨rfl, by rw [hU]; exact (hX.kept (hS.2.1 b hbl hbA)).moved hW.alike, by rw [hU]; exact Nat.lt_of_lt_of_le hbl hS.1⟩⟩ rfl rfl hl.1 rfl (lv_room hcat) hd ⟨hcl, hsl⟩
  intro T hT X
  obtain ⟨v, st₀, t, T', L2, h0, X', hL2, e1, e2, ⟨hv, hF⟩, st⟩ := hr T hT X
  cases hv
  obtain ⟨k1, k2, k3⟩ := vx_keep h0 e1 hS (A1 := fun _ => False) (free := fun _ => False) (fun q _ h => False.elim h) (fun q h => False.elim h) hL2 hF
  obtain ⟨t2, a1, b1⟩ := k T'.heap (locs ++ L2) ls (hP.kept (fun j q hq => k2 q.1 ((hP j q hq).lt) (fun h => h))) hD k3 hl T' rfl X'
  exact ⟨t2, st t2 a1, b1⟩
end LAW1

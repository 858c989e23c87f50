section GXI
variable {p : Program} {l : Launch} {e : Env} {R : Room} {s : State} {m : MethodId} {args : Array Value} {below : List Frame} {meth : Method} {c : Code} {D : va_G} {cl : List vw_C} {tys : List (ClassId × FieldType)} {A : Nat → Prop} {cc : ByteArray} {nL cells slots : Nat} {Q : State → Prop} {Ts : List Cond} {own : String} {ws : va_W} {pc : Nat} {lv : List (Option Value)} {st : List Value} {P : va_W → Prop} {mc ms : Nat} {cI cG cL : ClassId}
/-- behind a constructor's run -/
theorem gx_afterC {wa wc wb : va_W} {st0 rest : List Value} {H : Heap} {locs : List Loc} {ls : Array Slot} {a9 : Array Value} (hA : ∀ q, s.heap.size ≤ q → A q) (hP : va_P D cl (wa ++ wc ++ wb) H) (hD : va_D A (wa ++ wc ++ wb)) (hS : va_S A s.heap H locs) (hl : gx_L ls nL lv)
    (hr : va_Run p l e R s m args below meth c H locs cells slots mc ms (F0 m pc ls st0) rest (gx_CQ D cl wc H.size P a9) (va_A wc H.size))
    (k : ∀ w2, P w2 → gx_G p l e R s m args below meth c D cl A nL (cells + mc) (slots + ms) Q (wa ++ wb ++ w2) (pc + 3) lv rest) : W p l e R s m args below meth c H locs cells slots Q (F0 m pc ls st0) := by
  intro T hT X
  obtain ⟨v, st₀, t, T', L, h0, X', hL, e1, e2, ⟨hv, w2, hp, hP2, hD2, hF⟩, st⟩ := hr T hT X
  cases hv
  have hin : ∀ q, va_A wc H.size q → A q := fun q h => h.elim (fun ⟨j, e9, hj⟩ => hD.2 _ _ (gx_mid (wa := wa) (wb := wb) hj)) (fun h => hA q (Nat.le_trans hS.1 h))
  obtain ⟨k1, k2, k3⟩ := vx_keep h0 e1 hS (fun q _ h => hin q h) hin hL hF
  obtain ⟨nd, nA⟩ := gx_Dn.mp hD
  obtain ⟨nd2, nA2⟩ := gx_Dn.mp hD2
  rw [List.map_append, List.map_append] at nd
  obtain ⟨nd1, ndb, nx⟩ := List.nodup_append.mp nd
  obtain ⟨nda, ndc, ny⟩ := List.nodup_append.mp nd1
  have hPm := gx_Pm.mp hP
  have old : ∀ q ∈ wa ++ wb, q ∈ wa ++ wc ++ wb := fun q hq => by
    rcases List.mem_append.mp hq with h | h
    · exact List.mem_append_left _ (List.mem_append_left _ h)
    · exact List.mem_append_right _ h
  have off : ∀ q ∈ wa ++ wb, ¬ va_A wc H.size q.1 := by
    intro q hq h
    rcases h with ⟨j, e9, hj⟩ | h
    · have hm : q.1 ∈ wc.map (·.1) := List.mem_map.mpr ⟨_, List.mem_of_getElem? hj, rfl⟩
      rcases List.mem_append.mp hq with h | h
      · exact ny q.1 (List.mem_map.mpr ⟨q, h, rfl⟩) q.1 hm rfl
      · exact nx q.1 (List.mem_append_right _ hm) q.1 (List.mem_map.mpr ⟨q, h, rfl⟩) rfl
    · have := (hPm q (old q hq)).lt
      omega
  have hP3 : va_P D cl (wa ++ wb ++ w2) T'.heap := by
    refine gx_Pm.mpr (fun q hq => ?_)
    rcases List.mem_append.mp hq with h | h
    · exact (hPm q (old q h)).kept (k2 q.1 ((hPm q (old q h)).lt) (off q h))
    · rw [e1]
      exact gx_Pm.mp hP2 q h
  have hD3 : va_D A (wa ++ wb ++ w2) := by
    refine gx_Dn.mpr ⟨?_, fun q hq => ?_⟩
    · rw [List.map_append, List.map_append]
      refine List.nodup_append.mpr ⟨List.nodup_append.mpr ⟨nda, ndb, fun x hx y hy => nx x (List.mem_append_left _ hx) y hy⟩, nd2, fun x hx y hy exy => ?_⟩
      rw [← List.map_append] at hx
      obtain ⟨q, hq, rfl⟩ := List.mem_map.mp hx
      obtain ⟨q2, hq2, rfl⟩ := List.mem_map.mp hy
      have := nA2 q2 hq2
      rw [← exy] at this
      exact off q hq this
    · rcases List.mem_append.mp hq with h | h
      · exact nA q (old q h)
      · exact hin _ (nA2 q h)
  obtain ⟨t2, a1, b1⟩ := k w2 hp T'.heap (locs ++ L) ls hP3 hD3 k3 hl T' rfl X'
  exact ⟨t2, st t2 a1, b1⟩
/-- new .. : its constructor is called -/
theorem gx_callI {y : MethodName} {wsy wsy2 : List Cond} {rm : Room} {As rest : List Value} {b n index maxL : Nat} {bytes : ByteArray} (wa wb : va_W) {wc : va_W} (C : CallFix p m c cc nL s args Ts own) (hT : ∀ w ∈ bigW, w ∈ Ts) (hK : va_K D cl tys s) (hW0 : gx_K s) (hA : ∀ q, s.heap.size ≤ q → A q)
    (hM : ∀ sz, gx_C l y wsy rm D cl tys (.ref b :: As) wc sz P mc ms) (hG : GoodIn Ts wsy) (hw : wsy = Cond.code y bytes maxL none :: wsy2) (hrc : rm.cells = mc) (hrs : rm.slots = ms) (hini : Cond.initialized y.cls ∈ bigW) (hlink : Cond.methodLink own index y ∈ bigW) (hinst : Cond.instanceMethod y ∈ bigW) (hnm : y.name = "<init>")
    (hyd : y.cls ≠ "java/lang/invoke/MethodHandle" ∧ y.cls ≠ "java/lang/invoke/VarHandle" ∧ (parseMethodDescriptor y.desc).map (fun d => d.parameters.length) = some n) (hR : rm.frames + 1 ≤ R.frames ∧ 8 + (maxL + 11) + rm.locals ≤ R.locals)
    (hn : As.length = n) (hst : st = As.reverse ++ .ref b :: rest) (hcat : (rest.map fun v => v.category).sum ≤ 8) (hcl : cells + mc ≤ R.cells) (hsl : slots + ms ≤ R.slots) (hd : decode cc pc = .ok (.invokespecial index, 3))
    (k : ∀ w2, P w2 → gx_G p l e R s m args below meth c D cl A nL (cells + mc) (slots + ms) Q (wa ++ wb ++ w2) (pc + 3) lv rest) : gx_G p l e R s m args below meth c D cl A nL cells slots Q (wa ++ wc ++ wb) pc lv st := by
  intro H locs ls hP hD hS hl
  have hPc : va_P D cl wc H := fun k9 q9 h9 => hP _ q9 (gx_mid h9)
  have hDc : va_D (fun _ => True) wc := ⟨fun i j x z hi hj hxz => by have := hD.1 _ _ x z (gx_mid (wa := wa) (wb := wb) hi) (gx_mid hj) hxz; omega, fun _ _ _ => trivial⟩
  subst hst
  exact gx_afterC hA hP hD hS hl (va_runI C (hM H.size) (cwI n C.2.2.2.2 hG hw hrc hrs (C.2.2.2.2 _ (hT _ hini)) (C.2.2.2.2 _ (hT _ hlink)) (C.2.2.2.2 _ (hT _ hinst)) hnm hyd hR) ⟨gx_Cblind, fun U hU hW => ⟨rfl, by rw [hU], by rw [hU]; exact hPc, va_K.moved hW.alike hK, hDc, hW0.warm hW⟩⟩ rfl hn hl.1 rfl (lv_room hcat) hd ⟨hcl, hsl⟩) k
/-- .. that of a nest mate, a private one -/
theorem gx_callIN {y : MethodName} {wsy wsy2 : List Cond} {rm : Room} {As rest : List Value} {b n index maxL : Nat} {bytes : ByteArray} {host : String} (wa wb : va_W) {wc : va_W} (C : CallFix p m c cc nL s args Ts own) (hT : ∀ w ∈ bigW, w ∈ Ts) (hK : va_K D cl tys s) (hW0 : gx_K s) (hA : ∀ q, s.heap.size ≤ q → A q)
    (hM : ∀ sz, gx_C l y wsy rm D cl tys (.ref b :: As) wc sz P mc ms) (hG : GoodIn Ts wsy) (hw : wsy = Cond.code y bytes maxL none :: wsy2) (hrc : rm.cells = mc) (hrs : rm.slots = ms) (hini : Cond.initialized y.cls ∈ bigW) (hlink : va_Nw (.methodLinkNest own index y host) s) (hinst : Cond.instanceMethod y ∈ bigW) (hnm : y.name = "<init>")
    (hyd : y.cls ≠ "java/lang/invoke/MethodHandle" ∧ y.cls ≠ "java/lang/invoke/VarHandle" ∧ (parseMethodDescriptor y.desc).map (fun d => d.parameters.length) = some n) (hR : rm.frames + 1 ≤ R.frames ∧ 8 + (maxL + 11) + rm.locals ≤ R.locals)
    (hn : As.length = n) (hst : st = As.reverse ++ .ref b :: rest) (hcat : (rest.map fun v => v.category).sum ≤ 8) (hcl : cells + mc ≤ R.cells) (hsl : slots + ms ≤ R.slots) (hd : decode cc pc = .ok (.invokespecial index, 3))
    (k : ∀ w2, P w2 → gx_G p l e R s m args below meth c D cl A nL (cells + mc) (slots + ms) Q (wa ++ wb ++ w2) (pc + 3) lv rest) : gx_G p l e R s m args below meth c D cl A nL cells slots Q (wa ++ wc ++ wb) pc lv st := by
  intro H locs ls hP hD hS hl
  have hPc : va_P D cl wc H := fun k9 q9 h9 => hP _ q9 (gx_mid h9)
  have hDc : va_D (fun _ => True) wc := ⟨fun i j x z hi hj hxz => by have := hD.1 _ _ x z (gx_mid (wa := wa) (wb := wb) hi) (gx_mid hj) hxz; omega, fun _ _ _ => trivial⟩
  subst hst
  exact gx_afterC hA hP hD hS hl (va_runIN C (hM H.size) ⟨va_cnB n C.2.2.2.2 hG hw hrc hrs hlink (C.2.2.2.2 _ (hT _ hini)) hyd hR, hnm, C.2.2.2.2 _ (hT _ hinst)⟩ ⟨gx_Cblind, fun U hU hW => ⟨rfl, by rw [hU], by rw [hU]; exact hPc, va_K.moved hW.alike hK, hDc, hW0.warm hW⟩⟩ rfl hn hl.1 rfl (lv_room hcat) hd ⟨hcl, hsl⟩) k
/-- a static method over one cell -/
theorem gx_S1v {y : MethodName} {wsy wsy2 : List Cond} {rm : Room} {As rest : List Value} {n index maxL a : Nat} {bytes : ByteArray} {ret : Option FieldType} {x x2 : va_E} {ws2 : va_W} (q0 : Nat) (C : CallFix p m c cc nL s args Ts own) (hK : va_K D cl tys s) (hq : ws[q0]? = some (a, x))
    (hM : gx_M l y wsy rm D cl tys As [(a, x)] [(a, x2)] none) (hG : GoodIn Ts (va_wsS own index y wsy)) (hw : wsy = Cond.code y bytes maxL ret :: wsy2) (hrc : rm.cells = 0) (hrs : rm.slots = 0)
    (hyd : y.cls ≠ "java/lang/invoke/MethodHandle" ∧ y.cls ≠ "java/lang/invoke/VarHandle" ∧ (parseMethodDescriptor y.desc).map (fun d => d.parameters.length) = some n) (hR : rm.frames + 1 ≤ R.frames ∧ 8 + (maxL + 11) + rm.locals ≤ R.locals)
    (hn : As.length = n) (hst : st = As.reverse ++ rest) (hcat : (rest.map fun v => v.category).sum ≤ 8) (hcl : cells ≤ R.cells) (hsl : slots ≤ R.slots) (hd : decode cc pc = .ok (.invokestatic index, 3)) (hw2 : ws.set q0 (a, x2) = ws2)
    (k : gx_G p l e R s m args below meth c D cl A nL cells slots Q ws2 (pc + 3) lv rest) : gx_G p l e R s m args below meth c D cl A nL cells slots Q ws pc lv st := by
  obtain ⟨hlt, hget⟩ := List.getElem?_eq_some_iff.mp hq
  have e2 : ws2 = ws.take q0 ++ [(a, x2)] ++ ws.drop (q0 + 1) := by
    rw [← hw2, List.set_eq_take_append_cons_drop, if_pos hlt, List.append_assoc]
    rfl
  have e1 : ws = ws.take q0 ++ [(a, x)] ++ ws.drop (q0 + 1) := by
    have h1 : ws.set q0 (a, x) = ws := by rw [← hget]; exact List.set_getElem_self hlt
    have h2 := List.set_eq_take_append_cons_drop (l := ws) (i := q0) (a := (a, x))
    rw [if_pos hlt, h1] at h2
    rw [List.append_assoc]
    exact h2
  have := gx_callS (rest := rest) (ws.take q0) (ws.drop (q0 + 1)) C hK hM rfl hG hw hrc hrs hyd hR hn hst hcat hcl hsl hd (by rw [← e2]; exact k)
  rw [← e1] at this
  exact this
end GXI
theorem fill_0 {x : Int32} {f : Nat → Int32} : (fun i => if i < 0 then x else f i) = f := by
  funext i
  rw [if_neg (Nat.not_lt_zero i)]
theorem fill_s {x : Int32} {f : Nat → Int32} {j : Nat} : upd (fun i => if i < j then x else f i) j x = (fun i => if i < j + 1 then x else f i) := by
  funext i
  by_cases h : i = j
  · subst h
    rw [pk_us, if_pos (by omega)]
  · rw [pk_un h]
    by_cases h2 : i < j
    · rw [if_pos h2, if_pos (by omega)]
    · rw [if_neg h2, if_neg (by omega)]
set_option maxHeartbeats 4000000 in
theorem lp_J7_fill {l : Launch} {D : va_G} {cI cG cL : ClassId} {a n : Nat} {x : Int32} {f : Nat → Int32} {p : Program} {e : Env} {s : State} {m : MethodId} {args : Array Value} {below : List Frame} {meth : Method} {c : Code} (C : CallFix p m c cJ7_fill 4 s args wsJ7_fill "java/util/Arrays") (hRt : meth.sig.returnType = none) (hlocks : meth.locks = false) (hK : va_K D vwCl (gT cI cG cL) s) (hn : n ≤ 1000) : ∀ (d j : Nat), j + d = n → gx_G p l e (headSpec wsJ7_fill ({ frames := 0, cells := 0, slots := 0, locals := 0 })).room s m args below meth c D vwCl (gx_in [(a, .inl (cI, n, .inl f))]) 4 0 0 (gx_Qm D vwCl below args s [(a, .inl (cI, n, .inl f))] [(a, .inl (cI, n, .inl (fun i => if i < n then x else f i)))] none) [(a, .inl (cI, n, .inl (fun i => if i < j then x else f i)))] 5 [some (.ref a), some (.int x), some (.int (nI j)), some (.int (nI n))] [] := by
  intro d
  induction d with
  | zero =>
    intro j hj
    obtain rfl : j = n := by omega
    refine gx_iload_n C dJ7_fill_5 rfl ?_
    refine gx_iload_n C dJ7_fill_6 rfl ?_
    refine gx_icmp_ge (tgt := 20) C dJ7_fill_7 (by decide) (fun _ => ?_) (fun c => absurd (Int32.le_refl _) c)
    exact gx_vret C hRt hlocks dJ7_fill_20 rfl
  | succ d ih =>
    intro j hj
    refine gx_iload_n C dJ7_fill_5 rfl ?_
    refine gx_iload_n C dJ7_fill_6 rfl ?_
    refine gx_icmp_ge (tgt := 20) C dJ7_fill_7 (by decide) (fun c => absurd c (nI_ge (by omega) (by omega))) (fun _ => ?_)
    refine gx_aload_n C dJ7_fill_10 rfl ?_
    refine gx_iload_n C dJ7_fill_11 rfl ?_
    refine gx_iload_n C dJ7_fill_12 rfl ?_
    refine gx_iastN (ws2 := [(a, .inl (cI, n, .inl (fun i => if i < j + 1 then x else f i)))]) C hK 0 0 rfl rfl (show j < n by omega) (by omega) dJ7_fill_13 (by rw [fill_s]; rfl) ?_
    refine gx_iincN (lv2 := [some _, some _, some _, some _]) C dJ7_fill_14 rfl (by decide) rfl ?_
    refine gx_goto (tgt := 5) C dJ7_fill_17 (by decide) ?_
    exact ih (j + 1) (by omega)
set_option maxHeartbeats 4000000 in
/-- Arrays.fill -/
theorem c_J7_fill {l : Launch} {D : va_G} {cI cG cL : ClassId} {a n : Nat} {x : Int32} {f : Nat → Int32} (hn : n ≤ 1000) : gx_M l yJ7_fill wsJ7_fill ({ frames := 0, cells := 0, slots := 0, locals := 0 }) D vwCl (gT cI cG cL) [.ref a, .int x] [(a, .inl (cI, n, .inl f))] [(a, .inl (cI, n, .inl (fun i => if i < n then x else f i)))] none := by
  refine gx_ofG (cc := cJ7_fill) (maxL := 4) (ret := none) [some (.ref a), some (.int x), none, none] (by decide) rfl rfl (Nat.le_of_ble_eq_true rfl) rfl ?_
  intro p e s m args below meth c C hRt hlocks hK
  have C : CallFix p m c cJ7_fill 4 s args wsJ7_fill "java/util/Arrays" := C
  refine gx_iconst (v := 0) C dJ7_fill_0 (by decide) ?_
  refine gx_istore_n (lv2 := [some _, some _, some _, none]) C dJ7_fill_1 (by decide) rfl ?_
  refine gx_aload_n C dJ7_fill_2 rfl ?_
  refine gx_alen C hK 0 0 rfl rfl dJ7_fill_3 ?_
  refine gx_istore_n (lv2 := [some _, some _, some _, some _]) C dJ7_fill_4 (by decide) rfl ?_
  refine gx_ws (ws2 := [(a, .inl (cI, n, .inl (fun i => if i < 0 then x else f i)))]) (by rw [fill_0]) ?_
  exact lp_J7_fill C hRt hlocks hK hn n 0 (by omega)

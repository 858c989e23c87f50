section GXF
variable {p : Program} {l : Launch} {e : Env} {R : Room} {s : State} {m : MethodId} {args : Array Value} {below : List Frame} {meth : Method} {c : Code} {D : va_G} {cl : List vw_C} {tys : List (ClassId × FieldType)} {A : Nat → Prop} {cc : ByteArray} {nL cells slots : Nat} {Q : State → Prop} {Ts : List Cond} {own : String} {pc : Nat} {lv : List (Option Value)} {st : List Value} {r : Int32}
theorem gx_fVi {y : MethodName} {wsy wsy2 : List Cond} {rm : Room} {As rest : List Value} {b ci q0 n index maxL : Nat} {q : vw_C} {fs : List Value} {bytes : ByteArray} {ret : Option FieldType} (wa wb : va_W) {wc wc2 : va_W} (C : CallFix p m c cc nL s args Ts own) (hK : va_K D cl tys s)
    (hM : gx_M l y wsy rm D cl tys (.ref b :: As) wc wc2 (some (.int r))) (hs : wc2.map (·.1) = wc.map (·.1)) (hG : GoodIn Ts (wsV own index q.1 y wsy)) (hw : wsy = Cond.code y bytes maxL ret :: wsy2) (hrc : rm.cells = 0) (hrs : rm.slots = 0)
    (hyd : y.cls = q.1 ∧ y.cls ≠ "java/lang/invoke/MethodHandle" ∧ y.cls ≠ "java/lang/invoke/VarHandle" ∧ (parseMethodDescriptor y.desc).map (fun d => d.parameters.length) = some n) (hR : rm.frames + 1 ≤ R.frames ∧ 8 + (maxL + 11) + rm.locals ≤ R.locals) (hc : cl[ci]? = some q) (hb : wc[q0]? = some (b, .inr (ci, fs)))
    (hn : As.length = n) (hst : st = As.reverse ++ .ref b :: rest) (hcat : (rest.map fun v => v.category).sum ≤ 8) (hcl : cells ≤ R.cells) (hsl : slots ≤ R.slots) (hd : decode cc pc = .ok (.invokevirtual index, 3))
    (k : gx_G p l e R s m args below meth c D cl A nL cells slots Q (wa ++ wc2 ++ wb) (pc + 3) lv (.int r :: rest)) : gx_G p l e R s m args below meth c D cl A nL cells slots Q (wa ++ wc ++ wb) pc lv st := gx_callV (q0 := q0) wa wb C hK hM hs hG hw hrc hrs hyd hR hc hb hn hst hcat hcl hsl hd k
end GXF
/-- the law's array of one long beside the class's world -/
abbrev oW (cL : ClassId) (ao : Nat) (f : Nat → Int64) : va_W := [(ao, .inl (cL, 1, .inr (.inl f)))]
abbrev hW (cI cG cL : ClassId) (ad : Nat → Nat) (ao n t : Nat) (B : Int32) (f : Nat → Int64) (u g : Nat → Nat → Int32) : va_W := oW cL ao f ++ yW cI cG ad n t B u g ++ ([] : va_W)
theorem hW_fst {cI cG cL : ClassId} {ad : Nat → Nat} {ao n t : Nat} {B : Int32} {f f2 : Nat → Int64} {u g u2 g2 : Nat → Nat → Int32} : (hW cI cG cL ad ao n t B f2 u2 g2).map (·.1) = (hW cI cG cL ad ao n t B f u g).map (·.1) := by
  rw [hW, hW, List.map_append, List.map_append, List.map_append, List.map_append, yW_fst (u := u) (g := g)]
  rfl
theorem h_in0 : vp_in 0 1 := vp_in_nI (n := 0) (N := 1) (by decide) (by decide)
abbrev rL : Room := { frames := 8, cells := 1, slots := 6, locals := 150 }
def h_rm (rm : Room) : Prop := rm.cells = 0 ∧ rm.slots = 0 ∧ rm.frames ≤ 7 ∧ rm.locals ≤ 121
def h_rx (rm : Room) : Prop := rm.cells = 1 ∧ rm.slots = 6 ∧ rm.frames ≤ 7 ∧ rm.locals ≤ 121
theorem h_room {a b c d k : Nat} (h1 : a ≤ 7) (h2 : b ≤ 121) (hk : k ≤ 7) (hc : c = 8) (hd : d = 150) : a + 1 ≤ c ∧ 8 + (k + 11) + b ≤ d := by omega

set_option maxHeartbeats 4000000 in
set_option maxRecDepth 100000 in
theorem n_L_box {l : Launch} {D : va_G} {cI cG cL : ClassId} {ad : Nat → Nat} {ao n t : Nat} {B : Int32} {u g : Nat → Nat → Int32} {f : Nat → Int64} {u2 g2 : Nat → Nat → Int32} {x1 x2 x3 x4 x5 r : Int32} {rm : Room} (hM : gx_M l yX3_box wsX3_box rm D vwCl (gT cI cG cL) [.ref (ad 0), .int x1, .int x2, .int x3, .int x4, .int x5] (yW cI cG ad n t B u g) (yW cI cG ad n t B u2 g2) (some (.int r))) (hrm : h_rm rm) : gx_N l yL_box wsL_box rL D vwCl (gT cI cG cL) [.ref (ad 0), .int x1, .int x2, .int x3, .int x4, .int x5, .ref ao] (hW cI cG cL ad ao n t B f u g) (hW cI cG cL ad ao n t B (vp_updL f 0 r.toInt64) u2 g2) (some (.int 0)) := by
  refine gx_ofN (cc := cL_box) (maxL := 8) (ret := (some .int)) (hh := [(0, 16, 19, 13), (0, 16, 23, 15)]) [some (.ref (ad 0)), some (.int x1), some (.int x2), some (.int x3), some (.int x4), some (.int x5), some (.ref ao), none] (by decide) rfl rfl (Nat.le_of_ble_eq_true rfl) rfl ?_
  intro p e s m args below meth c C hRt hlocks htab hK hE
  have C : CallFix p m c cL_box 8 s args (wsL_box) RL := C
  have hT : ∀ w ∈ bigW, w ∈ wsL_box := bgT
  obtain ⟨hr1, hr2, hr3, hr4⟩ := hrm
  refine gx_aload C dL_box_0 rfl ?_
  refine gx_iconst (v := 0) C dL_box_2 (by decide) ?_
  refine gx_aload_n C dL_box_3 rfl ?_
  refine gx_iload_n C dL_box_4 rfl ?_
  refine gx_iload_n C dL_box_5 rfl ?_
  refine gx_iload_n C dL_box_6 rfl ?_
  refine gx_iload C dL_box_7 rfl ?_
  refine gx_iload C dL_box_9 rfl ?_
  refine gx_fVi (n := 5) (q0 := 0) (oW cL ao f) [] C hK hM yW_fst (bgV hT m221 m222 m223 m1 m224) rfl hr1 hr2 (by decide +kernel) (h_room hr3 hr4 (by decide) rfl rfl) rfl rfl rfl rfl (Nat.le_of_ble_eq_true rfl) (Nat.zero_le _) (Nat.zero_le _) dL_box_11 ?_
  refine gx_i2l C dL_box_14 ?_
  refine gx_last (ws2 := (hW cI cG cL ad ao n t B (vp_updL f 0 r.toInt64) u2 g2)) C hK 0 2 rfl rfl h_in0 dL_box_15 rfl ?_
  refine gx_goto (tgt := 27) C dL_box_16 (by decide) ?_
  refine gx_iconst (v := 0) C dL_box_27 (by decide) ?_
  exact gx_iretN C hRt hlocks dL_box_28 (by decide) (by decide) rfl rfl
set_option maxHeartbeats 4000000 in
set_option maxRecDepth 100000 in
theorem n_L_box_IA {l : Launch} {D : va_G} {cI cG cL : ClassId} {ad : Nat → Nat} {ao n t : Nat} {B : Int32} {u g : Nat → Nat → Int32} {f : Nat → Int64} {x1 x2 x3 x4 x5 : Int32} {rm : Room} (hM : gx_X l yX3_box wsX3_box rm D vwCl (gT cI cG cL) [.ref (ad 0), .int x1, .int x2, .int x3, .int x4, .int x5] (yW cI cG ad n t B u g) xIA) (hrm : h_rx rm) : gx_N l yL_box wsL_box rL D vwCl (gT cI cG cL) [.ref (ad 0), .int x1, .int x2, .int x3, .int x4, .int x5, .ref ao] (hW cI cG cL ad ao n t B f u g) (hW cI cG cL ad ao n t B f u g) (some (.int 1)) := by
  refine gx_ofN (cc := cL_box) (maxL := 8) (ret := (some .int)) (hh := [(0, 16, 19, 13), (0, 16, 23, 15)]) [some (.ref (ad 0)), some (.int x1), some (.int x2), some (.int x3), some (.int x4), some (.int x5), some (.ref ao), none] (by decide) rfl rfl (Nat.le_of_ble_eq_true rfl) rfl ?_
  intro p e s m args below meth c C hRt hlocks htab hK hE
  have C : CallFix p m c cL_box 8 s args (wsL_box) RL := C
  have hT : ∀ w ∈ bigW, w ∈ wsL_box := bgT
  obtain ⟨hr1, hr2, hr3, hr4⟩ := hrm
  refine gx_aload C dL_box_0 rfl ?_
  refine gx_iconst (v := 0) C dL_box_2 (by decide) ?_
  refine gx_aload_n C dL_box_3 rfl ?_
  refine gx_iload_n C dL_box_4 rfl ?_
  refine gx_iload_n C dL_box_5 rfl ?_
  refine gx_iload_n C dL_box_6 rfl ?_
  refine gx_iload C dL_box_7 rfl ?_
  refine gx_iload C dL_box_9 rfl ?_
  refine gx_callVT (n := 5) (q0 := 0) (oW cL ao f) [] C hK hE hM (bgV hT m221 m222 m223 m1 m224) rfl hr1 hr2 (by decide +kernel) (h_room hr3 hr4 (by decide) rfl rfl) rfl rfl rfl rfl (Nat.le_of_ble_eq_true rfl) (Nat.le_of_ble_eq_true rfl) (Nat.le_of_ble_eq_true rfl) dL_box_11 [] ⟨0, 16, 19, 13⟩ [⟨0, 16, 23, 15⟩] htab (fun z hz => absurd hz List.not_mem_nil) (by decide) (by decide) (hT _ m219) (by decide) ?_
  intro q9
  refine gx_astore (lv2 := [some _, some _, some _, some _, some _, some _, some _, some _]) C dL_box_19 (by decide) rfl ?_
  refine gx_iconst (v := 1) C dL_box_21 (by decide) ?_
  exact gx_iretN C hRt hlocks dL_box_22 (by decide) (by decide) rfl rfl
set_option maxHeartbeats 4000000 in
set_option maxRecDepth 100000 in
theorem n_L_box_IS {l : Launch} {D : va_G} {cI cG cL : ClassId} {ad : Nat → Nat} {ao n t : Nat} {B : Int32} {u g : Nat → Nat → Int32} {f : Nat → Int64} {x1 x2 x3 x4 x5 : Int32} {rm : Room} (hM : gx_X l yX3_box wsX3_box rm D vwCl (gT cI cG cL) [.ref (ad 0), .int x1, .int x2, .int x3, .int x4, .int x5] (yW cI cG ad n t B u g) xIS) (hrm : h_rx rm) : gx_N l yL_box wsL_box rL D vwCl (gT cI cG cL) [.ref (ad 0), .int x1, .int x2, .int x3, .int x4, .int x5, .ref ao] (hW cI cG cL ad ao n t B f u g) (hW cI cG cL ad ao n t B f u g) (some (.int 2)) := by
  refine gx_ofN (cc := cL_box) (maxL := 8) (ret := (some .int)) (hh := [(0, 16, 19, 13), (0, 16, 23, 15)]) [some (.ref (ad 0)), some (.int x1), some (.int x2), some (.int x3), some (.int x4), some (.int x5), some (.ref ao), none] (by decide) rfl rfl (Nat.le_of_ble_eq_true rfl) rfl ?_
  intro p e s m args below meth c C hRt hlocks htab hK hE
  have C : CallFix p m c cL_box 8 s args (wsL_box) RL := C
  have hT : ∀ w ∈ bigW, w ∈ wsL_box := bgT
  obtain ⟨hr1, hr2, hr3, hr4⟩ := hrm
  refine gx_aload C dL_box_0 rfl ?_
  refine gx_iconst (v := 0) C dL_box_2 (by decide) ?_
  refine gx_aload_n C dL_box_3 rfl ?_
  refine gx_iload_n C dL_box_4 rfl ?_
  refine gx_iload_n C dL_box_5 rfl ?_
  refine gx_iload_n C dL_box_6 rfl ?_
  refine gx_iload C dL_box_7 rfl ?_
  refine gx_iload C dL_box_9 rfl ?_
  refine gx_callVT (n := 5) (q0 := 0) (oW cL ao f) [] C hK hE hM (bgV hT m221 m222 m223 m1 m224) rfl hr1 hr2 (by decide +kernel) (h_room hr3 hr4 (by decide) rfl rfl) rfl rfl rfl rfl (Nat.le_of_ble_eq_true rfl) (Nat.le_of_ble_eq_true rfl) (Nat.le_of_ble_eq_true rfl) dL_box_11 [⟨0, 16, 19, 13⟩] ⟨0, 16, 23, 15⟩ [] htab (fun z hz => by rw [List.mem_singleton.mp hz]; exact ⟨by decide, xIA, hT _ m219, hE.2.2.2.1⟩) (by decide) (by decide) (hT _ m220) (by decide) ?_
  intro q9
  refine gx_astore (lv2 := [some _, some _, some _, some _, some _, some _, some _, some _]) C dL_box_23 (by decide) rfl ?_
  refine gx_iconst (v := 2) C dL_box_25 (by decide) ?_
  exact gx_iretN C hRt hlocks dL_box_26 (by decide) (by decide) rfl rfl
set_option maxHeartbeats 4000000 in
set_option maxRecDepth 100000 in
theorem n_L_put {l : Launch} {D : va_G} {cI cG cL : ClassId} {ad : Nat → Nat} {ao n t : Nat} {B : Int32} {u g : Nat → Nat → Int32} {f : Nat → Int64} {u2 g2 : Nat → Nat → Int32} {x1 x2 r : Int32} {rm : Room} (hM : gx_M l yX3_put wsX3_put rm D vwCl (gT cI cG cL) [.ref (ad 0), .int x1, .int x2] (yW cI cG ad n t B u g) (yW cI cG ad n t B u2 g2) (some (.int r))) (hrm : h_rm rm) : gx_N l yL_put wsL_put rL D vwCl (gT cI cG cL) [.ref (ad 0), .int x1, .int x2, .ref ao] (hW cI cG cL ad ao n t B f u g) (hW cI cG cL ad ao n t B (vp_updL f 0 r.toInt64) u2 g2) (some (.int 0)) := by
  refine gx_ofN (cc := cL_put) (maxL := 5) (ret := (some .int)) (hh := [(0, 10, 13, 21)]) [some (.ref (ad 0)), some (.int x1), some (.int x2), some (.ref ao), none] (by decide) rfl rfl (Nat.le_of_ble_eq_true rfl) rfl ?_
  intro p e s m args below meth c C hRt hlocks htab hK hE
  have C : CallFix p m c cL_put 5 s args (wsL_put) RL := C
  have hT : ∀ w ∈ bigW, w ∈ wsL_put := bgT
  obtain ⟨hr1, hr2, hr3, hr4⟩ := hrm
  refine gx_aload_n C dL_put_0 rfl ?_
  refine gx_iconst (v := 0) C dL_put_1 (by decide) ?_
  refine gx_aload_n C dL_put_2 rfl ?_
  refine gx_iload_n C dL_put_3 rfl ?_
  refine gx_iload_n C dL_put_4 rfl ?_
  refine gx_fVi (n := 2) (q0 := 0) (oW cL ao f) [] C hK hM yW_fst (bgV hT m317 m318 m319 m1 m320) rfl hr1 hr2 (by decide +kernel) (h_room hr3 hr4 (by decide) rfl rfl) rfl rfl rfl rfl (Nat.le_of_ble_eq_true rfl) (Nat.zero_le _) (Nat.zero_le _) dL_put_5 ?_
  refine gx_i2l C dL_put_8 ?_
  refine gx_last (ws2 := (hW cI cG cL ad ao n t B (vp_updL f 0 r.toInt64) u2 g2)) C hK 0 2 rfl rfl h_in0 dL_put_9 rfl ?_
  refine gx_goto (tgt := 17) C dL_put_10 (by decide) ?_
  refine gx_iconst (v := 0) C dL_put_17 (by decide) ?_
  exact gx_iretN C hRt hlocks dL_put_18 (by decide) (by decide) rfl rfl
set_option maxHeartbeats 4000000 in
set_option maxRecDepth 100000 in
theorem n_L_put_IB {l : Launch} {D : va_G} {cI cG cL : ClassId} {ad : Nat → Nat} {ao n t : Nat} {B : Int32} {u g : Nat → Nat → Int32} {f : Nat → Int64} {x1 x2 : Int32} {rm : Room} (hM : gx_X l yX3_put wsX3_put rm D vwCl (gT cI cG cL) [.ref (ad 0), .int x1, .int x2] (yW cI cG ad n t B u g) xIB) (hrm : h_rx rm) : gx_N l yL_put wsL_put rL D vwCl (gT cI cG cL) [.ref (ad 0), .int x1, .int x2, .ref ao] (hW cI cG cL ad ao n t B f u g) (hW cI cG cL ad ao n t B f u g) (some (.int 1)) := by
  refine gx_ofN (cc := cL_put) (maxL := 5) (ret := (some .int)) (hh := [(0, 10, 13, 21)]) [some (.ref (ad 0)), some (.int x1), some (.int x2), some (.ref ao), none] (by decide) rfl rfl (Nat.le_of_ble_eq_true rfl) rfl ?_
  intro p e s m args below meth c C hRt hlocks htab hK hE
  have C : CallFix p m c cL_put 5 s args (wsL_put) RL := C
  have hT : ∀ w ∈ bigW, w ∈ wsL_put := bgT
  obtain ⟨hr1, hr2, hr3, hr4⟩ := hrm
  refine gx_aload_n C dL_put_0 rfl ?_
  refine gx_iconst (v := 0) C dL_put_1 (by decide) ?_
  refine gx_aload_n C dL_put_2 rfl ?_
  refine gx_iload_n C dL_put_3 rfl ?_
  refine gx_iload_n C dL_put_4 rfl ?_
  refine gx_callVT (n := 2) (q0 := 0) (oW cL ao f) [] C hK hE hM (bgV hT m317 m318 m319 m1 m320) rfl hr1 hr2 (by decide +kernel) (h_room hr3 hr4 (by decide) rfl rfl) rfl rfl rfl rfl (Nat.le_of_ble_eq_true rfl) (Nat.le_of_ble_eq_true rfl) (Nat.le_of_ble_eq_true rfl) dL_put_5 [] ⟨0, 10, 13, 21⟩ [] htab (fun z hz => absurd hz List.not_mem_nil) (by decide) (by decide) (hT _ m316) (by decide) ?_
  intro q9
  refine gx_astore (lv2 := [some _, some _, some _, some _, some _]) C dL_put_13 (by decide) rfl ?_
  refine gx_iconst (v := 1) C dL_put_15 (by decide) ?_
  exact gx_iretN C hRt hlocks dL_put_16 (by decide) (by decide) rfl rfl
set_option maxHeartbeats 4000000 in
set_option maxRecDepth 100000 in
theorem n_L_take {l : Launch} {D : va_G} {cI cG cL : ClassId} {ad : Nat → Nat} {ao n t : Nat} {B : Int32} {u g : Nat → Nat → Int32} {f : Nat → Int64} {u2 g2 : Nat → Nat → Int32} {x1 r : Int32} {rm : Room} (hM : gx_M l yX3_take wsX3_take rm D vwCl (gT cI cG cL) [.ref (ad 0), .int x1] (yW cI cG ad n t B u g) (yW cI cG ad n t B u2 g2) (some (.int r))) (hrm : h_rm rm) : gx_N l yL_take wsL_take rL D vwCl (gT cI cG cL) [.ref (ad 0), .int x1, .ref ao] (hW cI cG cL ad ao n t B f u g) (hW cI cG cL ad ao n t B (vp_updL f 0 r.toInt64) u2 g2) (some (.int 0)) := by
  refine gx_ofN (cc := cL_take) (maxL := 4) (ret := (some .int)) (hh := [(0, 9, 12, 21)]) [some (.ref (ad 0)), some (.int x1), some (.ref ao), none] (by decide) rfl rfl (Nat.le_of_ble_eq_true rfl) rfl ?_
  intro p e s m args below meth c C hRt hlocks htab hK hE
  have C : CallFix p m c cL_take 4 s args (wsL_take) RL := C
  have hT : ∀ w ∈ bigW, w ∈ wsL_take := bgT
  obtain ⟨hr1, hr2, hr3, hr4⟩ := hrm
  refine gx_aload_n C dL_take_0 rfl ?_
  refine gx_iconst (v := 0) C dL_take_1 (by decide) ?_
  refine gx_aload_n C dL_take_2 rfl ?_
  refine gx_iload_n C dL_take_3 rfl ?_
  refine gx_fVi (n := 1) (q0 := 0) (oW cL ao f) [] C hK hM yW_fst (bgV hT m377 m378 m379 m1 m380) rfl hr1 hr2 (by decide +kernel) (h_room hr3 hr4 (by decide) rfl rfl) rfl rfl rfl rfl (Nat.le_of_ble_eq_true rfl) (Nat.zero_le _) (Nat.zero_le _) dL_take_4 ?_
  refine gx_i2l C dL_take_7 ?_
  refine gx_last (ws2 := (hW cI cG cL ad ao n t B (vp_updL f 0 r.toInt64) u2 g2)) C hK 0 2 rfl rfl h_in0 dL_take_8 rfl ?_
  refine gx_goto (tgt := 15) C dL_take_9 (by decide) ?_
  refine gx_iconst (v := 0) C dL_take_15 (by decide) ?_
  exact gx_iretN C hRt hlocks dL_take_16 (by decide) (by decide) rfl rfl
set_option maxHeartbeats 4000000 in
set_option maxRecDepth 100000 in
theorem n_L_take_IB {l : Launch} {D : va_G} {cI cG cL : ClassId} {ad : Nat → Nat} {ao n t : Nat} {B : Int32} {u g : Nat → Nat → Int32} {f : Nat → Int64} {x1 : Int32} {rm : Room} (hM : gx_X l yX3_take wsX3_take rm D vwCl (gT cI cG cL) [.ref (ad 0), .int x1] (yW cI cG ad n t B u g) xIB) (hrm : h_rx rm) : gx_N l yL_take wsL_take rL D vwCl (gT cI cG cL) [.ref (ad 0), .int x1, .ref ao] (hW cI cG cL ad ao n t B f u g) (hW cI cG cL ad ao n t B f u g) (some (.int 1)) := by
  refine gx_ofN (cc := cL_take) (maxL := 4) (ret := (some .int)) (hh := [(0, 9, 12, 21)]) [some (.ref (ad 0)), some (.int x1), some (.ref ao), none] (by decide) rfl rfl (Nat.le_of_ble_eq_true rfl) rfl ?_
  intro p e s m args below meth c C hRt hlocks htab hK hE
  have C : CallFix p m c cL_take 4 s args (wsL_take) RL := C
  have hT : ∀ w ∈ bigW, w ∈ wsL_take := bgT
  obtain ⟨hr1, hr2, hr3, hr4⟩ := hrm
  refine gx_aload_n C dL_take_0 rfl ?_
  refine gx_iconst (v := 0) C dL_take_1 (by decide) ?_
  refine gx_aload_n C dL_take_2 rfl ?_
  refine gx_iload_n C dL_take_3 rfl ?_
  refine gx_callVT (n := 1) (q0 := 0) (oW cL ao f) [] C hK hE hM (bgV hT m377 m378 m379 m1 m380) rfl hr1 hr2 (by decide +kernel) (h_room hr3 hr4 (by decide) rfl rfl) rfl rfl rfl rfl (Nat.le_of_ble_eq_true rfl) (Nat.le_of_ble_eq_true rfl) (Nat.le_of_ble_eq_true rfl) dL_take_4 [] ⟨0, 9, 12, 21⟩ [] htab (fun z hz => absurd hz List.not_mem_nil) (by decide) (by decide) (hT _ m316) (by decide) ?_
  intro q9
  refine gx_astore_n (lv2 := [some _, some _, some _, some _]) C dL_take_12 (by decide) rfl ?_
  refine gx_iconst (v := 1) C dL_take_13 (by decide) ?_
  exact gx_iretN C hRt hlocks dL_take_14 (by decide) (by decide) rfl rfl
set_option maxHeartbeats 4000000 in
set_option maxRecDepth 100000 in
theorem n_L_shift {l : Launch} {D : va_G} {cI cG cL : ClassId} {ad : Nat → Nat} {ao n t : Nat} {B : Int32} {u g : Nat → Nat → Int32} {f : Nat → Int64} {u2 g2 : Nat → Nat → Int32} {x1 x2 r : Int32} {rm : Room} (hM : gx_M l yX3_shift wsX3_shift rm D vwCl (gT cI cG cL) [.ref (ad 0), .int x1, .int x2] (yW cI cG ad n t B u g) (yW cI cG ad n t B u2 g2) (some (.int r))) (hrm : h_rm rm) : gx_N l yL_shift wsL_shift rL D vwCl (gT cI cG cL) [.ref (ad 0), .int x1, .int x2, .ref ao] (hW cI cG cL ad ao n t B f u g) (hW cI cG cL ad ao n t B (vp_updL f 0 r.toInt64) u2 g2) (some (.int 0)) := by
  refine gx_ofN (cc := cL_shift) (maxL := 5) (ret := (some .int)) (hh := [(0, 10, 13, 21)]) [some (.ref (ad 0)), some (.int x1), some (.int x2), some (.ref ao), none] (by decide) rfl rfl (Nat.le_of_ble_eq_true rfl) rfl ?_
  intro p e s m args below meth c C hRt hlocks htab hK hE
  have C : CallFix p m c cL_shift 5 s args (wsL_shift) RL := C
  have hT : ∀ w ∈ bigW, w ∈ wsL_shift := bgT
  obtain ⟨hr1, hr2, hr3, hr4⟩ := hrm
  refine gx_aload_n C dL_shift_0 rfl ?_
  refine gx_iconst (v := 0) C dL_shift_1 (by decide) ?_
  refine gx_aload_n C dL_shift_2 rfl ?_
  refine gx_iload_n C dL_shift_3 rfl ?_
  refine gx_iload_n C dL_shift_4 rfl ?_
  refine gx_fVi (n := 2) (q0 := 0) (oW cL ao f) [] C hK hM yW_fst (bgV hT m392 m393 m394 m1 m395) rfl hr1 hr2 (by decide +kernel) (h_room hr3 hr4 (by decide) rfl rfl) rfl rfl rfl rfl (Nat.le_of_ble_eq_true rfl) (Nat.zero_le _) (Nat.zero_le _) dL_shift_5 ?_
  refine gx_i2l C dL_shift_8 ?_
  refine gx_last (ws2 := (hW cI cG cL ad ao n t B (vp_updL f 0 r.toInt64) u2 g2)) C hK 0 2 rfl rfl h_in0 dL_shift_9 rfl ?_
  refine gx_goto (tgt := 17) C dL_shift_10 (by decide) ?_
  refine gx_iconst (v := 0) C dL_shift_17 (by decide) ?_
  exact gx_iretN C hRt hlocks dL_shift_18 (by decide) (by decide) rfl rfl
set_option maxHeartbeats 4000000 in
set_option maxRecDepth 100000 in
theorem n_L_shift_IB {l : Launch} {D : va_G} {cI cG cL : ClassId} {ad : Nat → Nat} {ao n t : Nat} {B : Int32} {u g : Nat → Nat → Int32} {f : Nat → Int64} {x1 x2 : Int32} {rm : Room} (hM : gx_X l yX3_shift wsX3_shift rm D vwCl (gT cI cG cL) [.ref (ad 0), .int x1, .int x2] (yW cI cG ad n t B u g) xIB) (hrm : h_rx rm) : gx_N l yL_shift wsL_shift rL D vwCl (gT cI cG cL) [.ref (ad 0), .int x1, .int x2, .ref ao] (hW cI cG cL ad ao n t B f u g) (hW cI cG cL ad ao n t B f u g) (some (.int 1)) := by
  refine gx_ofN (cc := cL_shift) (maxL := 5) (ret := (some .int)) (hh := [(0, 10, 13, 21)]) [some (.ref (ad 0)), some (.int x1), some (.int x2), some (.ref ao), none] (by decide) rfl rfl (Nat.le_of_ble_eq_true rfl) rfl ?_
  intro p e s m args below meth c C hRt hlocks htab hK hE
  have C : CallFix p m c cL_shift 5 s args (wsL_shift) RL := C
  have hT : ∀ w ∈ bigW, w ∈ wsL_shift := bgT
  obtain ⟨hr1, hr2, hr3, hr4⟩ := hrm
  refine gx_aload_n C dL_shift_0 rfl ?_
  refine gx_iconst (v := 0) C dL_shift_1 (by decide) ?_
  refine gx_aload_n C dL_shift_2 rfl ?_
  refine gx_iload_n C dL_shift_3 rfl ?_
  refine gx_iload_n C dL_shift_4 rfl ?_
  refine gx_callVT (n := 2) (q0 := 0) (oW cL ao f) [] C hK hE hM (bgV hT m392 m393 m394 m1 m395) rfl hr1 hr2 (by decide +kernel) (h_room hr3 hr4 (by decide) rfl rfl) rfl rfl rfl rfl (Nat.le_of_ble_eq_true rfl) (Nat.le_of_ble_eq_true rfl) (Nat.le_of_ble_eq_true rfl) dL_shift_5 [] ⟨0, 10, 13, 21⟩ [] htab (fun z hz => absurd hz List.not_mem_nil) (by decide) (by decide) (hT _ m316) (by decide) ?_
  intro q9
  refine gx_astore (lv2 := [some _, some _, some _, some _, some _]) C dL_shift_13 (by decide) rfl ?_
  refine gx_iconst (v := 1) C dL_shift_15 (by decide) ?_
  exact gx_iretN C hRt hlocks dL_shift_16 (by decide) (by decide) rfl rfl
set_option maxHeartbeats 4000000 in
set_option maxRecDepth 100000 in
theorem n_L_choose {l : Launch} {D : va_G} {cI cG cL : ClassId} {ad : Nat → Nat} {ao n t : Nat} {B : Int32} {u g : Nat → Nat → Int32} {f : Nat → Int64} {u2 g2 : Nat → Nat → Int32} {x1 r : Int32} {rm : Room} (hM : gx_M l yX3_choose wsX3_choose rm D vwCl (gT cI cG cL) [.ref (ad 0), .int x1] (yW cI cG ad n t B u g) (yW cI cG ad n t B u2 g2) (some (.int r))) (hrm : h_rm rm) : gx_N l yL_choose wsL_choose rL D vwCl (gT cI cG cL) [.ref (ad 0), .int x1, .ref ao] (hW cI cG cL ad ao n t B f u g) (hW cI cG cL ad ao n t B (vp_updL f 0 r.toInt64) u2 g2) (some (.int 0)) := by
  refine gx_ofN (cc := cL_choose) (maxL := 4) (ret := (some .int)) (hh := [(0, 9, 12, 21)]) [some (.ref (ad 0)), some (.int x1), some (.ref ao), none] (by decide) rfl rfl (Nat.le_of_ble_eq_true rfl) rfl ?_
  intro p e s m args below meth c C hRt hlocks htab hK hE
  have C : CallFix p m c cL_choose 4 s args (wsL_choose) RL := C
  have hT : ∀ w ∈ bigW, w ∈ wsL_choose := bgT
  obtain ⟨hr1, hr2, hr3, hr4⟩ := hrm
  refine gx_aload_n C dL_choose_0 rfl ?_
  refine gx_iconst (v := 0) C dL_choose_1 (by decide) ?_
  refine gx_aload_n C dL_choose_2 rfl ?_
  refine gx_iload_n C dL_choose_3 rfl ?_
  refine gx_fVi (n := 1) (q0 := 0) (oW cL ao f) [] C hK hM yW_fst (bgV hT m403 m404 m405 m1 m406) rfl hr1 hr2 (by decide +kernel) (h_room hr3 hr4 (by decide) rfl rfl) rfl rfl rfl rfl (Nat.le_of_ble_eq_true rfl) (Nat.zero_le _) (Nat.zero_le _) dL_choose_4 ?_
  refine gx_i2l C dL_choose_7 ?_
  refine gx_last (ws2 := (hW cI cG cL ad ao n t B (vp_updL f 0 r.toInt64) u2 g2)) C hK 0 2 rfl rfl h_in0 dL_choose_8 rfl ?_
  refine gx_goto (tgt := 15) C dL_choose_9 (by decide) ?_
  refine gx_iconst (v := 0) C dL_choose_15 (by decide) ?_
  exact gx_iretN C hRt hlocks dL_choose_16 (by decide) (by decide) rfl rfl
set_option maxHeartbeats 4000000 in
set_option maxRecDepth 100000 in
theorem n_L_choose_IB {l : Launch} {D : va_G} {cI cG cL : ClassId} {ad : Nat → Nat} {ao n t : Nat} {B : Int32} {u g : Nat → Nat → Int32} {f : Nat → Int64} {x1 : Int32} {rm : Room} (hM : gx_X l yX3_choose wsX3_choose rm D vwCl (gT cI cG cL) [.ref (ad 0), .int x1] (yW cI cG ad n t B u g) xIB) (hrm : h_rx rm) : gx_N l yL_choose wsL_choose rL D vwCl (gT cI cG cL) [.ref (ad 0), .int x1, .ref ao] (hW cI cG cL ad ao n t B f u g) (hW cI cG cL ad ao n t B f u g) (some (.int 1)) := by
  refine gx_ofN (cc := cL_choose) (maxL := 4) (ret := (some .int)) (hh := [(0, 9, 12, 21)]) [some (.ref (ad 0)), some (.int x1), some (.ref ao), none] (by decide) rfl rfl (Nat.le_of_ble_eq_true rfl) rfl ?_
  intro p e s m args below meth c C hRt hlocks htab hK hE
  have C : CallFix p m c cL_choose 4 s args (wsL_choose) RL := C
  have hT : ∀ w ∈ bigW, w ∈ wsL_choose := bgT
  obtain ⟨hr1, hr2, hr3, hr4⟩ := hrm
  refine gx_aload_n C dL_choose_0 rfl ?_
  refine gx_iconst (v := 0) C dL_choose_1 (by decide) ?_
  refine gx_aload_n C dL_choose_2 rfl ?_
  refine gx_iload_n C dL_choose_3 rfl ?_
  refine gx_callVT (n := 1) (q0 := 0) (oW cL ao f) [] C hK hE hM (bgV hT m403 m404 m405 m1 m406) rfl hr1 hr2 (by decide +kernel) (h_room hr3 hr4 (by decide) rfl rfl) rfl rfl rfl rfl (Nat.le_of_ble_eq_true rfl) (Nat.le_of_ble_eq_true rfl) (Nat.le_of_ble_eq_true rfl) dL_choose_4 [] ⟨0, 9, 12, 21⟩ [] htab (fun z hz => absurd hz List.not_mem_nil) (by decide) (by decide) (hT _ m316) (by decide) ?_
  intro q9
  refine gx_astore_n (lv2 := [some _, some _, some _, some _]) C dL_choose_12 (by decide) rfl ?_
  refine gx_iconst (v := 1) C dL_choose_13 (by decide) ?_
  exact gx_iretN C hRt hlocks dL_choose_14 (by decide) (by decide) rfl rfl
set_option maxHeartbeats 4000000 in
set_option maxRecDepth 100000 in
theorem n_L_score {l : Launch} {D : va_G} {cI cG cL : ClassId} {ad : Nat → Nat} {ao n t : Nat} {B : Int32} {u g : Nat → Nat → Int32} {f : Nat → Int64} {u2 g2 : Nat → Nat → Int32} {x1 x2 r : Int32} {rm : Room} (hM : gx_M l yX3_score wsX3_score rm D vwCl (gT cI cG cL) [.ref (ad 0), .int x1, .int x2] (yW cI cG ad n t B u g) (yW cI cG ad n t B u2 g2) (some (.int r))) (hrm : h_rm rm) : gx_N l yL_score wsL_score rL D vwCl (gT cI cG cL) [.ref (ad 0), .int x1, .int x2, .ref ao] (hW cI cG cL ad ao n t B f u g) (hW cI cG cL ad ao n t B (vp_updL f 0 r.toInt64) u2 g2) (some (.int 0)) := by
  refine gx_ofN (cc := cL_score) (maxL := 5) (ret := (some .int)) (hh := [(0, 10, 13, 21), (0, 10, 17, 15)]) [some (.ref (ad 0)), some (.int x1), some (.int x2), some (.ref ao), none] (by decide) rfl rfl (Nat.le_of_ble_eq_true rfl) rfl ?_
  intro p e s m args below meth c C hRt hlocks htab hK hE
  have C : CallFix p m c cL_score 5 s args (wsL_score) RL := C
  have hT : ∀ w ∈ bigW, w ∈ wsL_score := bgT
  obtain ⟨hr1, hr2, hr3, hr4⟩ := hrm
  refine gx_aload_n C dL_score_0 rfl ?_
  refine gx_iconst (v := 0) C dL_score_1 (by decide) ?_
  refine gx_aload_n C dL_score_2 rfl ?_
  refine gx_iload_n C dL_score_3 rfl ?_
  refine gx_iload_n C dL_score_4 rfl ?_
  refine gx_fVi (n := 2) (q0 := 0) (oW cL ao f) [] C hK hM yW_fst (bgV hT m422 m423 m424 m1 m425) rfl hr1 hr2 (by decide +kernel) (h_room hr3 hr4 (by decide) rfl rfl) rfl rfl rfl rfl (Nat.le_of_ble_eq_true rfl) (Nat.zero_le _) (Nat.zero_le _) dL_score_5 ?_
  refine gx_i2l C dL_score_8 ?_
  refine gx_last (ws2 := (hW cI cG cL ad ao n t B (vp_updL f 0 r.toInt64) u2 g2)) C hK 0 2 rfl rfl h_in0 dL_score_9 rfl ?_
  refine gx_goto (tgt := 21) C dL_score_10 (by decide) ?_
  refine gx_iconst (v := 0) C dL_score_21 (by decide) ?_
  exact gx_iretN C hRt hlocks dL_score_22 (by decide) (by decide) rfl rfl
set_option maxHeartbeats 4000000 in
set_option maxRecDepth 100000 in
theorem n_L_score_IB {l : Launch} {D : va_G} {cI cG cL : ClassId} {ad : Nat → Nat} {ao n t : Nat} {B : Int32} {u g : Nat → Nat → Int32} {f : Nat → Int64} {x1 x2 : Int32} {rm : Room} (hM : gx_X l yX3_score wsX3_score rm D vwCl (gT cI cG cL) [.ref (ad 0), .int x1, .int x2] (yW cI cG ad n t B u g) xIB) (hrm : h_rx rm) : gx_N l yL_score wsL_score rL D vwCl (gT cI cG cL) [.ref (ad 0), .int x1, .int x2, .ref ao] (hW cI cG cL ad ao n t B f u g) (hW cI cG cL ad ao n t B f u g) (some (.int 1)) := by
  refine gx_ofN (cc := cL_score) (maxL := 5) (ret := (some .int)) (hh := [(0, 10, 13, 21), (0, 10, 17, 15)]) [some (.ref (ad 0)), some (.int x1), some (.int x2), some (.ref ao), none] (by decide) rfl rfl (Nat.le_of_ble_eq_true rfl) rfl ?_
  intro p e s m args below meth c C hRt hlocks htab hK hE
  have C : CallFix p m c cL_score 5 s args (wsL_score) RL := C
  have hT : ∀ w ∈ bigW, w ∈ wsL_score := bgT
  obtain ⟨hr1, hr2, hr3, hr4⟩ := hrm
  refine gx_aload_n C dL_score_0 rfl ?_
  refine gx_iconst (v := 0) C dL_score_1 (by decide) ?_
  refine gx_aload_n C dL_score_2 rfl ?_
  refine gx_iload_n C dL_score_3 rfl ?_
  refine gx_iload_n C dL_score_4 rfl ?_
  refine gx_callVT (n := 2) (q0 := 0) (oW cL ao f) [] C hK hE hM (bgV hT m422 m423 m424 m1 m425) rfl hr1 hr2 (by decide +kernel) (h_room hr3 hr4 (by decide) rfl rfl) rfl rfl rfl rfl (Nat.le_of_ble_eq_true rfl) (Nat.le_of_ble_eq_true rfl) (Nat.le_of_ble_eq_true rfl) dL_score_5 [] ⟨0, 10, 13, 21⟩ [⟨0, 10, 17, 15⟩] htab (fun z hz => absurd hz List.not_mem_nil) (by decide) (by decide) (hT _ m316) (by decide) ?_
  intro q9
  refine gx_astore (lv2 := [some _, some _, some _, some _, some _]) C dL_score_13 (by decide) rfl ?_
  refine gx_iconst (v := 1) C dL_score_15 (by decide) ?_
  exact gx_iretN C hRt hlocks dL_score_16 (by decide) (by decide) rfl rfl
set_option maxHeartbeats 4000000 in
set_option maxRecDepth 100000 in
theorem n_L_score_IS {l : Launch} {D : va_G} {cI cG cL : ClassId} {ad : Nat → Nat} {ao n t : Nat} {B : Int32} {u g : Nat → Nat → Int32} {f : Nat → Int64} {x1 x2 : Int32} {rm : Room} (hM : gx_X l yX3_score wsX3_score rm D vwCl (gT cI cG cL) [.ref (ad 0), .int x1, .int x2] (yW cI cG ad n t B u g) xIS) (hrm : h_rx rm) : gx_N l yL_score wsL_score rL D vwCl (gT cI cG cL) [.ref (ad 0), .int x1, .int x2, .ref ao] (hW cI cG cL ad ao n t B f u g) (hW cI cG cL ad ao n t B f u g) (some (.int 2)) := by
  refine gx_ofN (cc := cL_score) (maxL := 5) (ret := (some .int)) (hh := [(0, 10, 13, 21), (0, 10, 17, 15)]) [some (.ref (ad 0)), some (.int x1), some (.int x2), some (.ref ao), none] (by decide) rfl rfl (Nat.le_of_ble_eq_true rfl) rfl ?_
  intro p e s m args below meth c C hRt hlocks htab hK hE
  have C : CallFix p m c cL_score 5 s args (wsL_score) RL := C
  have hT : ∀ w ∈ bigW, w ∈ wsL_score := bgT
  obtain ⟨hr1, hr2, hr3, hr4⟩ := hrm
  refine gx_aload_n C dL_score_0 rfl ?_
  refine gx_iconst (v := 0) C dL_score_1 (by decide) ?_
  refine gx_aload_n C dL_score_2 rfl ?_
  refine gx_iload_n C dL_score_3 rfl ?_
  refine gx_iload_n C dL_score_4 rfl ?_
  refine gx_callVT (n := 2) (q0 := 0) (oW cL ao f) [] C hK hE hM (bgV hT m422 m423 m424 m1 m425) rfl hr1 hr2 (by decide +kernel) (h_room hr3 hr4 (by decide) rfl rfl) rfl rfl rfl rfl (Nat.le_of_ble_eq_true rfl) (Nat.le_of_ble_eq_true rfl) (Nat.le_of_ble_eq_true rfl) dL_score_5 [⟨0, 10, 13, 21⟩] ⟨0, 10, 17, 15⟩ [] htab (fun z hz => by rw [List.mem_singleton.mp hz]; exact ⟨by decide, xIB, hT _ m316, hE.2.2.2.2⟩) (by decide) (by decide) (hT _ m220) (by decide) ?_
  intro q9
  refine gx_astore (lv2 := [some _, some _, some _, some _, some _]) C dL_score_17 (by decide) rfl ?_
  refine gx_iconst (v := 2) C dL_score_19 (by decide) ?_
  exact gx_iretN C hRt hlocks dL_score_20 (by decide) (by decide) rfl rfl
set_option maxHeartbeats 4000000 in
set_option maxRecDepth 100000 in
theorem n_L_night {l : Launch} {D : va_G} {cI cG cL : ClassId} {ad : Nat → Nat} {ao n t : Nat} {B : Int32} {u g : Nat → Nat → Int32} {f : Nat → Int64} {u2 g2 : Nat → Nat → Int32} {x1 r : Int32} {rm : Room} (hM : gx_M l yX3_night wsX3_night rm D vwCl (gT cI cG cL) [.ref (ad 0), .int x1] (yW cI cG ad n t B u g) (yW cI cG ad n t B u2 g2) (some (.int r))) (hrm : h_rm rm) : gx_N l yL_night wsL_night rL D vwCl (gT cI cG cL) [.ref (ad 0), .int x1, .ref ao] (hW cI cG cL ad ao n t B f u g) (hW cI cG cL ad ao n t B (vp_updL f 0 r.toInt64) u2 g2) (some (.int 0)) := by
  refine gx_ofN (cc := cL_night) (maxL := 4) (ret := (some .int)) (hh := [(0, 9, 12, 13)]) [some (.ref (ad 0)), some (.int x1), some (.ref ao), none] (by decide) rfl rfl (Nat.le_of_ble_eq_true rfl) rfl ?_
  intro p e s m args below meth c C hRt hlocks htab hK hE
  have C : CallFix p m c cL_night 4 s args (wsL_night) RL := C
  have hT : ∀ w ∈ bigW, w ∈ wsL_night := bgT
  obtain ⟨hr1, hr2, hr3, hr4⟩ := hrm
  refine gx_aload_n C dL_night_0 rfl ?_
  refine gx_iconst (v := 0) C dL_night_1 (by decide) ?_
  refine gx_aload_n C dL_night_2 rfl ?_
  refine gx_iload_n C dL_night_3 rfl ?_
  refine gx_fVi (n := 1) (q0 := 0) (oW cL ao f) [] C hK hM yW_fst (bgV hT m430 m431 m432 m1 m433) rfl hr1 hr2 (by decide +kernel) (h_room hr3 hr4 (by decide) rfl rfl) rfl rfl rfl rfl (Nat.le_of_ble_eq_true rfl) (Nat.zero_le _) (Nat.zero_le _) dL_night_4 ?_
  refine gx_i2l C dL_night_7 ?_
  refine gx_last (ws2 := (hW cI cG cL ad ao n t B (vp_updL f 0 r.toInt64) u2 g2)) C hK 0 2 rfl rfl h_in0 dL_night_8 rfl ?_
  refine gx_goto (tgt := 15) C dL_night_9 (by decide) ?_
  refine gx_iconst (v := 0) C dL_night_15 (by decide) ?_
  exact gx_iretN C hRt hlocks dL_night_16 (by decide) (by decide) rfl rfl
set_option maxHeartbeats 4000000 in
set_option maxRecDepth 100000 in
theorem n_L_night_IA {l : Launch} {D : va_G} {cI cG cL : ClassId} {ad : Nat → Nat} {ao n t : Nat} {B : Int32} {u g : Nat → Nat → Int32} {f : Nat → Int64} {x1 : Int32} {rm : Room} (hM : gx_X l yX3_night wsX3_night rm D vwCl (gT cI cG cL) [.ref (ad 0), .int x1] (yW cI cG ad n t B u g) xIA) (hrm : h_rx rm) : gx_N l yL_night wsL_night rL D vwCl (gT cI cG cL) [.ref (ad 0), .int x1, .ref ao] (hW cI cG cL ad ao n t B f u g) (hW cI cG cL ad ao n t B f u g) (some (.int 1)) := by
  refine gx_ofN (cc := cL_night) (maxL := 4) (ret := (some .int)) (hh := [(0, 9, 12, 13)]) [some (.ref (ad 0)), some (.int x1), some (.ref ao), none] (by decide) rfl rfl (Nat.le_of_ble_eq_true rfl) rfl ?_
  intro p e s m args below meth c C hRt hlocks htab hK hE
  have C : CallFix p m c cL_night 4 s args (wsL_night) RL := C
  have hT : ∀ w ∈ bigW, w ∈ wsL_night := bgT
  obtain ⟨hr1, hr2, hr3, hr4⟩ := hrm
  refine gx_aload_n C dL_night_0 rfl ?_
  refine gx_iconst (v := 0) C dL_night_1 (by decide) ?_
  refine gx_aload_n C dL_night_2 rfl ?_
  refine gx_iload_n C dL_night_3 rfl ?_
  refine gx_callVT (n := 1) (q0 := 0) (oW cL ao f) [] C hK hE hM (bgV hT m430 m431 m432 m1 m433) rfl hr1 hr2 (by decide +kernel) (h_room hr3 hr4 (by decide) rfl rfl) rfl rfl rfl rfl (Nat.le_of_ble_eq_true rfl) (Nat.le_of_ble_eq_true rfl) (Nat.le_of_ble_eq_true rfl) dL_night_4 [] ⟨0, 9, 12, 13⟩ [] htab (fun z hz => absurd hz List.not_mem_nil) (by decide) (by decide) (hT _ m219) (by decide) ?_
  intro q9
  refine gx_astore_n (lv2 := [some _, some _, some _, some _]) C dL_night_12 (by decide) rfl ?_
  refine gx_iconst (v := 1) C dL_night_13 (by decide) ?_
  exact gx_iretN C hRt hlocks dL_night_14 (by decide) (by decide) rfl rfl
set_option maxHeartbeats 4000000 in
set_option maxRecDepth 100000 in
theorem n_L_where {l : Launch} {D : va_G} {cI cG cL : ClassId} {ad : Nat → Nat} {ao n t : Nat} {B : Int32} {u g : Nat → Nat → Int32} {f : Nat → Int64} {u2 g2 : Nat → Nat → Int32} {x1 x2 r : Int32} {rm : Room} (hM : gx_M l yX3_where wsX3_where rm D vwCl (gT cI cG cL) [.ref (ad 0), .int x1, .int x2] (yW cI cG ad n t B u g) (yW cI cG ad n t B u2 g2) (some (.int r))) (hrm : h_rm rm) : gx_N l yL_where wsL_where rL D vwCl (gT cI cG cL) [.ref (ad 0), .int x1, .int x2, .ref ao] (hW cI cG cL ad ao n t B f u g) (hW cI cG cL ad ao n t B (vp_updL f 0 r.toInt64) u2 g2) (some (.int 0)) := by
  refine gx_ofN (cc := cL_where) (maxL := 5) (ret := (some .int)) (hh := [(0, 10, 13, 21)]) [some (.ref (ad 0)), some (.int x1), some (.int x2), some (.ref ao), none] (by decide) rfl rfl (Nat.le_of_ble_eq_true rfl) rfl ?_
  intro p e s m args below meth c C hRt hlocks htab hK hE
  have C : CallFix p m c cL_where 5 s args (wsL_where) RL := C
  have hT : ∀ w ∈ bigW, w ∈ wsL_where := bgT
  obtain ⟨hr1, hr2, hr3, hr4⟩ := hrm
  refine gx_aload_n C dL_where_0 rfl ?_
  refine gx_iconst (v := 0) C dL_where_1 (by decide) ?_
  refine gx_aload_n C dL_where_2 rfl ?_
  refine gx_iload_n C dL_where_3 rfl ?_
  refine gx_iload_n C dL_where_4 rfl ?_
  refine gx_fVi (n := 2) (q0 := 0) (oW cL ao f) [] C hK hM yW_fst (bgV hT m442 m443 m444 m1 m445) rfl hr1 hr2 (by decide +kernel) (h_room hr3 hr4 (by decide) rfl rfl) rfl rfl rfl rfl (Nat.le_of_ble_eq_true rfl) (Nat.zero_le _) (Nat.zero_le _) dL_where_5 ?_
  refine gx_i2l C dL_where_8 ?_
  refine gx_last (ws2 := (hW cI cG cL ad ao n t B (vp_updL f 0 r.toInt64) u2 g2)) C hK 0 2 rfl rfl h_in0 dL_where_9 rfl ?_
  refine gx_goto (tgt := 17) C dL_where_10 (by decide) ?_
  refine gx_iconst (v := 0) C dL_where_17 (by decide) ?_
  exact gx_iretN C hRt hlocks dL_where_18 (by decide) (by decide) rfl rfl
set_option maxHeartbeats 4000000 in
set_option maxRecDepth 100000 in
theorem n_L_where_IB {l : Launch} {D : va_G} {cI cG cL : ClassId} {ad : Nat → Nat} {ao n t : Nat} {B : Int32} {u g : Nat → Nat → Int32} {f : Nat → Int64} {x1 x2 : Int32} {rm : Room} (hM : gx_X l yX3_where wsX3_where rm D vwCl (gT cI cG cL) [.ref (ad 0), .int x1, .int x2] (yW cI cG ad n t B u g) xIB) (hrm : h_rx rm) : gx_N l yL_where wsL_where rL D vwCl (gT cI cG cL) [.ref (ad 0), .int x1, .int x2, .ref ao] (hW cI cG cL ad ao n t B f u g) (hW cI cG cL ad ao n t B f u g) (some (.int 1)) := by
  refine gx_ofN (cc := cL_where) (maxL := 5) (ret := (some .int)) (hh := [(0, 10, 13, 21)]) [some (.ref (ad 0)), some (.int x1), some (.int x2), some (.ref ao), none] (by decide) rfl rfl (Nat.le_of_ble_eq_true rfl) rfl ?_
  intro p e s m args below meth c C hRt hlocks htab hK hE
  have C : CallFix p m c cL_where 5 s args (wsL_where) RL := C
  have hT : ∀ w ∈ bigW, w ∈ wsL_where := bgT
  obtain ⟨hr1, hr2, hr3, hr4⟩ := hrm
  refine gx_aload_n C dL_where_0 rfl ?_
  refine gx_iconst (v := 0) C dL_where_1 (by decide) ?_
  refine gx_aload_n C dL_where_2 rfl ?_
  refine gx_iload_n C dL_where_3 rfl ?_
  refine gx_iload_n C dL_where_4 rfl ?_
  refine gx_callVT (n := 2) (q0 := 0) (oW cL ao f) [] C hK hE hM (bgV hT m442 m443 m444 m1 m445) rfl hr1 hr2 (by decide +kernel) (h_room hr3 hr4 (by decide) rfl rfl) rfl rfl rfl rfl (Nat.le_of_ble_eq_true rfl) (Nat.le_of_ble_eq_true rfl) (Nat.le_of_ble_eq_true rfl) dL_where_5 [] ⟨0, 10, 13, 21⟩ [] htab (fun z hz => absurd hz List.not_mem_nil) (by decide) (by decide) (hT _ m316) (by decide) ?_
  intro q9
  refine gx_astore (lv2 := [some _, some _, some _, some _, some _]) C dL_where_13 (by decide) rfl ?_
  refine gx_iconst (v := 1) C dL_where_15 (by decide) ?_
  exact gx_iretN C hRt hlocks dL_where_16 (by decide) (by decide) rfl rfl
set_option maxHeartbeats 4000000 in
set_option maxRecDepth 100000 in
theorem n_L_at {l : Launch} {D : va_G} {cI cG cL : ClassId} {ad : Nat → Nat} {ao n t : Nat} {B : Int32} {u g : Nat → Nat → Int32} {f : Nat → Int64} {u2 g2 : Nat → Nat → Int32} {x1 x2 r : Int32} {rm : Room} (hM : gx_M l yX3_at wsX3_at rm D vwCl (gT cI cG cL) [.ref (ad 0), .int x1, .int x2] (yW cI cG ad n t B u g) (yW cI cG ad n t B u2 g2) (some (.int r))) (hrm : h_rm rm) : gx_N l yL_at wsL_at rL D vwCl (gT cI cG cL) [.ref (ad 0), .int x1, .int x2, .ref ao] (hW cI cG cL ad ao n t B f u g) (hW cI cG cL ad ao n t B (vp_updL f 0 r.toInt64) u2 g2) (some (.int 0)) := by
  refine gx_ofN (cc := cL_at) (maxL := 5) (ret := (some .int)) (hh := [(0, 10, 13, 21)]) [some (.ref (ad 0)), some (.int x1), some (.int x2), some (.ref ao), none] (by decide) rfl rfl (Nat.le_of_ble_eq_true rfl) rfl ?_
  intro p e s m args below meth c C hRt hlocks htab hK hE
  have C : CallFix p m c cL_at 5 s args (wsL_at) RL := C
  have hT : ∀ w ∈ bigW, w ∈ wsL_at := bgT
  obtain ⟨hr1, hr2, hr3, hr4⟩ := hrm
  refine gx_aload_n C dL_at_0 rfl ?_
  refine gx_iconst (v := 0) C dL_at_1 (by decide) ?_
  refine gx_aload_n C dL_at_2 rfl ?_
  refine gx_iload_n C dL_at_3 rfl ?_
  refine gx_iload_n C dL_at_4 rfl ?_
  refine gx_fVi (n := 2) (q0 := 0) (oW cL ao f) [] C hK hM yW_fst (bgV hT m451 m452 m453 m1 m454) rfl hr1 hr2 (by decide +kernel) (h_room hr3 hr4 (by decide) rfl rfl) rfl rfl rfl rfl (Nat.le_of_ble_eq_true rfl) (Nat.zero_le _) (Nat.zero_le _) dL_at_5 ?_
  refine gx_i2l C dL_at_8 ?_
  refine gx_last (ws2 := (hW cI cG cL ad ao n t B (vp_updL f 0 r.toInt64) u2 g2)) C hK 0 2 rfl rfl h_in0 dL_at_9 rfl ?_
  refine gx_goto (tgt := 17) C dL_at_10 (by decide) ?_
  refine gx_iconst (v := 0) C dL_at_17 (by decide) ?_
  exact gx_iretN C hRt hlocks dL_at_18 (by decide) (by decide) rfl rfl
set_option maxHeartbeats 4000000 in
set_option maxRecDepth 100000 in
theorem n_L_at_IB {l : Launch} {D : va_G} {cI cG cL : ClassId} {ad : Nat → Nat} {ao n t : Nat} {B : Int32} {u g : Nat → Nat → Int32} {f : Nat → Int64} {x1 x2 : Int32} {rm : Room} (hM : gx_X l yX3_at wsX3_at rm D vwCl (gT cI cG cL) [.ref (ad 0), .int x1, .int x2] (yW cI cG ad n t B u g) xIB) (hrm : h_rx rm) : gx_N l yL_at wsL_at rL D vwCl (gT cI cG cL) [.ref (ad 0), .int x1, .int x2, .ref ao] (hW cI cG cL ad ao n t B f u g) (hW cI cG cL ad ao n t B f u g) (some (.int 1)) := by
  refine gx_ofN (cc := cL_at) (maxL := 5) (ret := (some .int)) (hh := [(0, 10, 13, 21)]) [some (.ref (ad 0)), some (.int x1), some (.int x2), some (.ref ao), none] (by decide) rfl rfl (Nat.le_of_ble_eq_true rfl) rfl ?_
  intro p e s m args below meth c C hRt hlocks htab hK hE
  have C : CallFix p m c cL_at 5 s args (wsL_at) RL := C
  have hT : ∀ w ∈ bigW, w ∈ wsL_at := bgT
  obtain ⟨hr1, hr2, hr3, hr4⟩ := hrm
  refine gx_aload_n C dL_at_0 rfl ?_
  refine gx_iconst (v := 0) C dL_at_1 (by decide) ?_
  refine gx_aload_n C dL_at_2 rfl ?_
  refine gx_iload_n C dL_at_3 rfl ?_
  refine gx_iload_n C dL_at_4 rfl ?_
  refine gx_callVT (n := 2) (q0 := 0) (oW cL ao f) [] C hK hE hM (bgV hT m451 m452 m453 m1 m454) rfl hr1 hr2 (by decide +kernel) (h_room hr3 hr4 (by decide) rfl rfl) rfl rfl rfl rfl (Nat.le_of_ble_eq_true rfl) (Nat.le_of_ble_eq_true rfl) (Nat.le_of_ble_eq_true rfl) dL_at_5 [] ⟨0, 10, 13, 21⟩ [] htab (fun z hz => absurd hz List.not_mem_nil) (by decide) (by decide) (hT _ m316) (by decide) ?_
  intro q9
  refine gx_astore (lv2 := [some _, some _, some _, some _, some _]) C dL_at_13 (by decide) rfl ?_
  refine gx_iconst (v := 1) C dL_at_15 (by decide) ?_
  exact gx_iretN C hRt hlocks dL_at_16 (by decide) (by decide) rfl rfl

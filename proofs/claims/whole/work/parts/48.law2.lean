def R_law : String := "YardStacksLaw"
def lw_P (b : Addr) (xs : List Int32) (args : Array Value) (s : State) : Prop := args = #[.ref b] ∧ s.IntsAt b xs ∧ xs.length ≤ 3075 ∧ (Jvm.Cond.and given_1 narrow_1).before args s = true
def lw_Q (_ : Array Value) (s : State) (o : Outcome) (t : State) : Prop := o = .returned (some (.int 1)) ∧ Framed s o t [] 601024 7293000
def lw_Z (below : List Frame) (a : Array Value) (s : State) : State → Prop := fun t => ∃ o, t.status = .running ∧ Ended t below o ∧ lw_Q a s o t
/-- the law's own end, with 1 on the stack, nothing written that was there before, its room as the claim has it -/
theorem lw_ret {p : Program} {l : Launch} {e : Env} {s : State} {m : MethodId} {below : List Frame} {meth : Method} {c : Code} {b : Nat} (hx : p.tables.exec = Jvm.exec) (hb : c.code = code) (hr : meth.sig.returnType = ret) (hlocks : meth.locks = false) {pc : Nat} {H : Heap} {ls : Array Slot} (hdg : decode code pc = .ok (.ireturn, 1)) : W p l e room_1 s m #[Value.ref b] below meth c H [] 601024 7293000 (lw_Z below #[Value.ref b] s) (F0 m pc ls [.int 1]) := by
  intro T hT X
  obtain ⟨fs, hret, hrun, hended, hW, hframe⟩ := X.leave (v := some (.int 1)) (hlocks := hlocks) (fun h => by rw [hr] at h; cases h)
  have hmeth' : T.vm.method? m = some meth := X.method'
  refine ⟨T.setFrames fs, ?_, .returned (some (.int 1)), hrun, hended, rfl, ⟨_, rfl⟩, hW, hframe⟩
  jvm_step X.here [X.here.top, hx, hb, hdg, hmeth', hr, ret, narrow_b1]
  (try refine ⟨rfl, ?_⟩); (try refine ⟨rfl, ?_⟩)
  first | (intro acts; rw [hret _ acts rfl rfl rfl]) | rw [hret _ _ rfl rfl rfl]
  exact Steps.refl _
/-- what holds at the law's entry: the machine, the code, the tables' words (any of lw_tbl by 'hts w (by decide +kernel)'), the script of L ints xs at the cell b, what the Statement gives of the start (any of its parts by flat_of_before) -/
def lw_At (p : Program) (s : State) (m : MethodId) (meth : Method) (c : Code) (b L : Nat) (xs : Nat → Int32) : Prop :=
  p.tables.exec = Jvm.exec ∧ c.code = code ∧ meth.sig.returnType = ret ∧ c.maxLocals = 7 ∧ s.vm.findClass R_law = some m.cls ∧ (∀ w ∈ lw_tbl, w.before #[Value.ref b] s = true) ∧ va_X b L xs s s.heap ∧ b < s.heap.size ∧ meth.locks = false ∧ (Jvm.Cond.and given_1 narrow_1).before #[Value.ref b] s = true

section LAW2
variable {p : Program} {l : Launch} {e : Env} {s : State} {m : MethodId} {below : List Frame} {meth : Method} {c : Code} {D : va_G} {b L : Nat} {xs : Nat → Int32} {cI cG cL : ClassId} {ad am : Nat → Nat} {ao n t : Nat} {B : Int32} {f : Nat → Int64} {u g v : Nat → Nat → Int32} {mk i cells slots : Nat} {w5 w6 : Option Value} {Q : State → Prop}
theorem lw_room {rm : Room} {k : Nat} (h1 : rm.frames ≤ 7) (h2 : rm.locals ≤ 121) (hk : k ≤ 18) : rm.frames + 1 ≤ room_1.frames ∧ 8 + (k + 11) + rm.locals ≤ room_1.locals := by
  constructor
  · show rm.frames + 1 ≤ 11
    omega
  · show 8 + (k + 11) + rm.locals ≤ 386
    omega
theorem lg_self {x : Int64} : lg_cmp x x = 0 := by simp [lg_cmp]

set_option maxHeartbeats 4000000 in
set_option maxRecDepth 100000 in
theorem lw_box (hL : L ≤ 3075) (C : CallFix p m c cL_law 7 s #[.ref b] bigW "YardStacksLaw") (hX : va_X b L xs s s.heap) (hbl : b < s.heap.size) (hK : va_K D vwCl (gT cI cG cL) s) (hE : gx_E (fun q => s.heap.size ≤ q) s s.heap) (hi : i + 6 ≤ L) (hc : cells + 1 ≤ room_1.cells) (hs : slots + 6 ≤ room_1.slots) (hst : sN l D cI cG cL ad am ao n t B yL_box wsL_box yX4_box wsX4_box [.int (xs (i + 1)), .int (xs (i + 2)), .int (xs (i + 3)), .int (xs (i + 4)), .int (xs (i + 5))] f u g v mk) (k860 : ∀ (f2 : Nat → Int64) (u2 g2 v2 : Nat → Nat → Int32) (T2 mk2 k2 : Nat) (w5 w6 : Option Value), rlm n t u2 g2 v2 T2 mk2 k2 → mk2 ≤ mk + 50 → gx_G p l e room_1 s m #[.ref b] below meth c D vwCl (fun q => s.heap.size ≤ q) 7 (cells + 1) (slots + 6) Q (LW cI cG cL ad am ao n t B f2 u2 g2 v2) 860 [some (.ref b), some (.ref (ad 0)), some (.ref (am 0)), some (.ref ao), some (.int (nI i)), w5, w6] []) : gx_G p l e room_1 s m #[.ref b] below meth c D vwCl (fun q => s.heap.size ≤ q) 7 (cells) (slots) Q (LW cI cG cL ad am ao n t B f u g v) 136 [some (.ref b), some (.ref (ad 0)), some (.ref (am 0)), some (.ref ao), some (.int (nI i)), w5, w6] [] := by
  obtain ⟨kk, bb, f2, u2, g2, v2, T2, mk2, k2, rm, hN, hM, ⟨hr1, hr2, hr3, hr4⟩, hthr, hans, hrl, hmk⟩ := hst
  have hbA : ¬ s.heap.size ≤ b := by omega
  have hT : ∀ w ∈ bigW, w ∈ bigW := fun _ h => h
  refine gx_aload_n C dL_law_136 rfl ?_
  refine gx_arg (k0 := 1) (kz := 1) C hX hbl hbA hL rfl rfl rfl (by omega) dL_law_137 dL_law_138 dL_law_140 dL_law_141 dL_law_142 ?_
  refine gx_arg (k0 := 2) (kz := 2) C hX hbl hbA hL rfl rfl rfl (by omega) dL_law_143 dL_law_144 dL_law_146 dL_law_147 dL_law_148 ?_
  refine gx_arg (k0 := 3) (kz := 3) C hX hbl hbA hL rfl rfl rfl (by omega) dL_law_149 dL_law_150 dL_law_152 dL_law_153 dL_law_154 ?_
  refine gx_arg (k0 := 4) (kz := 4) C hX hbl hbA hL rfl rfl rfl (by omega) dL_law_155 dL_law_156 dL_law_158 dL_law_159 dL_law_160 ?_
  refine gx_arg (k0 := 5) (kz := 5) C hX hbl hbA hL rfl rfl rfl (by omega) dL_law_161 dL_law_162 dL_law_164 dL_law_165 dL_law_166 ?_
  refine gx_aload_n C dL_law_167 rfl ?_
  refine lw_N (np := 7) C hK hE hN (bgS hT m216 m217 m0 m218) rfl (by decide +kernel) ⟨(Nat.le_of_ble_eq_true rfl), (Nat.le_of_ble_eq_true rfl)⟩ rfl rfl (Nat.le_of_ble_eq_true rfl) hc hs dL_law_168 ?_
  refine gx_istore (lv2 := [some _, some _, some _, some _, some _, some _, w6]) C dL_law_171 (by decide) rfl ?_
  refine gx_aload_n C dL_law_173 rfl ?_
  refine gx_arg (k0 := 1) (kz := 1) C hX hbl hbA hL rfl rfl rfl (by omega) dL_law_174 dL_law_175 dL_law_177 dL_law_178 dL_law_179 ?_
  refine gx_arg (k0 := 2) (kz := 2) C hX hbl hbA hL rfl rfl rfl (by omega) dL_law_180 dL_law_181 dL_law_183 dL_law_184 dL_law_185 ?_
  refine gx_arg (k0 := 3) (kz := 3) C hX hbl hbA hL rfl rfl rfl (by omega) dL_law_186 dL_law_187 dL_law_189 dL_law_190 dL_law_191 ?_
  refine gx_arg (k0 := 4) (kz := 4) C hX hbl hbA hL rfl rfl rfl (by omega) dL_law_192 dL_law_193 dL_law_195 dL_law_196 dL_law_197 ?_
  refine gx_arg (k0 := 5) (kz := 5) C hX hbl hbA hL rfl rfl rfl (by omega) dL_law_198 dL_law_199 dL_law_201 dL_law_202 dL_law_203 ?_
  refine lw_M (np := 5) (q0 := 0) C hK hM (bgV hT m524 m525 m526 m7 m527) rfl hr1 hr2 (by decide +kernel) (lw_room hr3 hr4 (by decide)) rfl rfl rfl rfl (Nat.le_of_ble_eq_true rfl) hc hs dL_law_204 ?_
  refine gx_istore (lv2 := [some _, some _, some _, some _, some _, some _, some _]) C dL_law_207 (by decide) rfl ?_
  refine gx_aload_n C dL_law_209 rfl ?_
  refine lw_M (np := 0) (q0 := 0) C hK (c_X4_thrown (l := l) (D := D) (cI := cI) (cG := cG) (cL := cL) (ad := am) (n := n) (t := t) (B := B) (v := v2)) (bgV hT m520 m521 m522 m7 m523) rfl rfl rfl (by decide +kernel) ⟨(Nat.le_of_ble_eq_true rfl), (Nat.le_of_ble_eq_true rfl)⟩ rfl rfl rfl rfl (Nat.le_of_ble_eq_true rfl) hc hs dL_law_210 ?_
  refine gx_iload C dL_law_213 rfl ?_
  refine gx_icmp_eq (tgt := 220) C dL_law_215 (by decide) (fun _ => ?_) (fun c => absurd hthr c)
  refine gx_iload C dL_law_220 rfl ?_
  refine gx_if_ne (tgt := 237) C dL_law_222 (by decide) (fun _ => ?_) (fun c0 => ?_)
  · refine gx_goto (tgt := 860) C dL_law_237 (by decide) ?_
    exact k860 f2 u2 g2 v2 T2 mk2 k2 _ _ hrl hmk
  · refine gx_aload_n C dL_law_225 rfl ?_
    refine gx_iconst (v := 0) C dL_law_226 (by decide) ?_
    refine gx_lald C hK 0 2 rfl rfl h_in0 dL_law_227 ?_
    refine gx_iload C dL_law_228 rfl ?_
    refine gx_i2l C dL_law_230 ?_
    refine gx_lcmp C dL_law_231 ?_
    rw [show f2 (0 : Int32).toNatClampNeg = bb.toInt64 from hans c0, lg_self]
    refine gx_if_eq (tgt := 237) C dL_law_232 (by decide) (fun _ => ?_) (fun c => absurd rfl c)
    refine gx_goto (tgt := 860) C dL_law_237 (by decide) ?_
    exact k860 f2 u2 g2 v2 T2 mk2 k2 _ _ hrl hmk
set_option maxHeartbeats 4000000 in
set_option maxRecDepth 100000 in
theorem lw_ground (hL : L ≤ 3075) (C : CallFix p m c cL_law 7 s #[.ref b] bigW "YardStacksLaw") (hX : va_X b L xs s s.heap) (hbl : b < s.heap.size) (hK : va_K D vwCl (gT cI cG cL) s) (hE : gx_E (fun q => s.heap.size ≤ q) s s.heap) (hi : i + 6 ≤ L) (hc : cells + 1 ≤ room_1.cells) (hs : slots + 6 ≤ room_1.slots) (hst : sD l D cI cG cL ad am n t B yX3_ground wsX3_ground yX4_ground wsX4_ground [.int (xs (i + 1)), .int (xs (i + 2))] u g v mk) (k860 : ∀ (f2 : Nat → Int64) (u2 g2 v2 : Nat → Nat → Int32) (T2 mk2 k2 : Nat) (w5 w6 : Option Value), rlm n t u2 g2 v2 T2 mk2 k2 → mk2 ≤ mk + 50 → gx_G p l e room_1 s m #[.ref b] below meth c D vwCl (fun q => s.heap.size ≤ q) 7 (cells + 1) (slots + 6) Q (LW cI cG cL ad am ao n t B f2 u2 g2 v2) 860 [some (.ref b), some (.ref (ad 0)), some (.ref (am 0)), some (.ref ao), some (.int (nI i)), w5, w6] []) : gx_G p l e room_1 s m #[.ref b] below meth c D vwCl (fun q => s.heap.size ≤ q) 7 (cells) (slots) Q (LW cI cG cL ad am ao n t B f u g v) 240 [some (.ref b), some (.ref (ad 0)), some (.ref (am 0)), some (.ref ao), some (.int (nI i)), w5, w6] [] := by
  obtain ⟨bb, u2, g2, v2, T2, mk2, k2, rm, rm2, hN, ⟨hq1, hq2, hq3, hq4⟩, hM, ⟨hr1, hr2, hr3, hr4⟩, hrl, hmk⟩ := hst
  have hbA : ¬ s.heap.size ≤ b := by omega
  have hT : ∀ w ∈ bigW, w ∈ bigW := fun _ h => h
  refine gx_widen (k := cells + 1) (n := slots + 6) (Nat.le_succ _) (Nat.le_add_right _ _) ?_
  refine gx_aload_n C dL_law_240 rfl ?_
  refine gx_arg (k0 := 1) (kz := 1) C hX hbl hbA hL rfl rfl rfl (by omega) dL_law_241 dL_law_242 dL_law_244 dL_law_245 dL_law_246 ?_
  refine gx_arg (k0 := 2) (kz := 2) C hX hbl hbA hL rfl rfl rfl (by omega) dL_law_247 dL_law_248 dL_law_250 dL_law_251 dL_law_252 ?_
  refine lw_Y (np := 2) (q0 := 0) C hK hN (bgV hT m141 m142 m143 m1 m144) rfl hq1 hq2 (by decide +kernel) (lw_room hq3 hq4 (by decide)) rfl rfl rfl rfl (Nat.le_of_ble_eq_true rfl) hc hs dL_law_253 ?_
  refine gx_aload_n C dL_law_256 rfl ?_
  refine gx_arg (k0 := 1) (kz := 1) C hX hbl hbA hL rfl rfl rfl (by omega) dL_law_257 dL_law_258 dL_law_260 dL_law_261 dL_law_262 ?_
  refine gx_arg (k0 := 2) (kz := 2) C hX hbl hbA hL rfl rfl rfl (by omega) dL_law_263 dL_law_264 dL_law_266 dL_law_267 dL_law_268 ?_
  refine lw_M (np := 2) (q0 := 0) C hK hM (bgV hT m535 m536 m537 m7 m538) rfl hr1 hr2 (by decide +kernel) (lw_room hr3 hr4 (by decide)) rfl rfl rfl rfl (Nat.le_of_ble_eq_true rfl) hc hs dL_law_269 ?_
  refine gx_icmp_eq (tgt := 860) C dL_law_272 (by decide) (fun _ => ?_) (fun c => absurd rfl c)
  exact k860 f u2 g2 v2 T2 mk2 k2 _ _ hrl hmk
set_option maxHeartbeats 4000000 in
set_option maxRecDepth 100000 in
theorem lw_reserve (hL : L ≤ 3075) (C : CallFix p m c cL_law 7 s #[.ref b] bigW "YardStacksLaw") (hX : va_X b L xs s s.heap) (hbl : b < s.heap.size) (hK : va_K D vwCl (gT cI cG cL) s) (hE : gx_E (fun q => s.heap.size ≤ q) s s.heap) (hi : i + 6 ≤ L) (hc : cells + 1 ≤ room_1.cells) (hs : slots + 6 ≤ room_1.slots) (hst : sD l D cI cG cL ad am n t B yX3_reserve wsX3_reserve yX4_reserve wsX4_reserve [.int (xs (i + 1)), .int (xs (i + 2))] u g v mk) (k860 : ∀ (f2 : Nat → Int64) (u2 g2 v2 : Nat → Nat → Int32) (T2 mk2 k2 : Nat) (w5 w6 : Option Value), rlm n t u2 g2 v2 T2 mk2 k2 → mk2 ≤ mk + 50 → gx_G p l e room_1 s m #[.ref b] below meth c D vwCl (fun q => s.heap.size ≤ q) 7 (cells + 1) (slots + 6) Q (LW cI cG cL ad am ao n t B f2 u2 g2 v2) 860 [some (.ref b), some (.ref (ad 0)), some (.ref (am 0)), some (.ref ao), some (.int (nI i)), w5, w6] []) : gx_G p l e room_1 s m #[.ref b] below meth c D vwCl (fun q => s.heap.size ≤ q) 7 (cells) (slots) Q (LW cI cG cL ad am ao n t B f u g v) 277 [some (.ref b), some (.ref (ad 0)), some (.ref (am 0)), some (.ref ao), some (.int (nI i)), w5, w6] [] := by
  obtain ⟨bb, u2, g2, v2, T2, mk2, k2, rm, rm2, hN, ⟨hq1, hq2, hq3, hq4⟩, hM, ⟨hr1, hr2, hr3, hr4⟩, hrl, hmk⟩ := hst
  have hbA : ¬ s.heap.size ≤ b := by omega
  have hT : ∀ w ∈ bigW, w ∈ bigW := fun _ h => h
  refine gx_widen (k := cells + 1) (n := slots + 6) (Nat.le_succ _) (Nat.le_add_right _ _) ?_
  refine gx_aload_n C dL_law_277 rfl ?_
  refine gx_arg (k0 := 1) (kz := 1) C hX hbl hbA hL rfl rfl rfl (by omega) dL_law_278 dL_law_279 dL_law_281 dL_law_282 dL_law_283 ?_
  refine gx_arg (k0 := 2) (kz := 2) C hX hbl hbA hL rfl rfl rfl (by omega) dL_law_284 dL_law_285 dL_law_287 dL_law_288 dL_law_289 ?_
  refine lw_Y (np := 2) (q0 := 0) C hK hN (bgV hT m152 m153 m154 m1 m155) rfl hq1 hq2 (by decide +kernel) (lw_room hq3 hq4 (by decide)) rfl rfl rfl rfl (Nat.le_of_ble_eq_true rfl) hc hs dL_law_290 ?_
  refine gx_aload_n C dL_law_293 rfl ?_
  refine gx_arg (k0 := 1) (kz := 1) C hX hbl hbA hL rfl rfl rfl (by omega) dL_law_294 dL_law_295 dL_law_297 dL_law_298 dL_law_299 ?_
  refine gx_arg (k0 := 2) (kz := 2) C hX hbl hbA hL rfl rfl rfl (by omega) dL_law_300 dL_law_301 dL_law_303 dL_law_304 dL_law_305 ?_
  refine lw_M (np := 2) (q0 := 0) C hK hM (bgV hT m547 m548 m549 m7 m550) rfl hr1 hr2 (by decide +kernel) (lw_room hr3 hr4 (by decide)) rfl rfl rfl rfl (Nat.le_of_ble_eq_true rfl) hc hs dL_law_306 ?_
  refine gx_icmp_eq (tgt := 860) C dL_law_309 (by decide) (fun _ => ?_) (fun c => absurd rfl c)
  exact k860 f u2 g2 v2 T2 mk2 k2 _ _ hrl hmk
set_option maxHeartbeats 4000000 in
set_option maxRecDepth 100000 in
theorem lw_put (hL : L ≤ 3075) (C : CallFix p m c cL_law 7 s #[.ref b] bigW "YardStacksLaw") (hX : va_X b L xs s s.heap) (hbl : b < s.heap.size) (hK : va_K D vwCl (gT cI cG cL) s) (hE : gx_E (fun q => s.heap.size ≤ q) s s.heap) (hi : i + 6 ≤ L) (hc : cells + 1 ≤ room_1.cells) (hs : slots + 6 ≤ room_1.slots) (hst : sN l D cI cG cL ad am ao n t B yL_put wsL_put yX4_put wsX4_put [.int (xs (i + 1)), .int (xs (i + 2))] f u g v mk) (k860 : ∀ (f2 : Nat → Int64) (u2 g2 v2 : Nat → Nat → Int32) (T2 mk2 k2 : Nat) (w5 w6 : Option Value), rlm n t u2 g2 v2 T2 mk2 k2 → mk2 ≤ mk + 50 → gx_G p l e room_1 s m #[.ref b] below meth c D vwCl (fun q => s.heap.size ≤ q) 7 (cells + 1) (slots + 6) Q (LW cI cG cL ad am ao n t B f2 u2 g2 v2) 860 [some (.ref b), some (.ref (ad 0)), some (.ref (am 0)), some (.ref ao), some (.int (nI i)), w5, w6] []) : gx_G p l e room_1 s m #[.ref b] below meth c D vwCl (fun q => s.heap.size ≤ q) 7 (cells) (slots) Q (LW cI cG cL ad am ao n t B f u g v) 314 [some (.ref b), some (.ref (ad 0)), some (.ref (am 0)), some (.ref ao), some (.int (nI i)), w5, w6] [] := by
  obtain ⟨kk, bb, f2, u2, g2, v2, T2, mk2, k2, rm, hN, hM, ⟨hr1, hr2, hr3, hr4⟩, hthr, hans, hrl, hmk⟩ := hst
  have hbA : ¬ s.heap.size ≤ b := by omega
  have hT : ∀ w ∈ bigW, w ∈ bigW := fun _ h => h
  refine gx_aload_n C dL_law_314 rfl ?_
  refine gx_arg (k0 := 1) (kz := 1) C hX hbl hbA hL rfl rfl rfl (by omega) dL_law_315 dL_law_316 dL_law_318 dL_law_319 dL_law_320 ?_
  refine gx_arg (k0 := 2) (kz := 2) C hX hbl hbA hL rfl rfl rfl (by omega) dL_law_321 dL_law_322 dL_law_324 dL_law_325 dL_law_326 ?_
  refine gx_aload_n C dL_law_327 rfl ?_
  refine lw_N (np := 4) C hK hE hN (bgS hT m313 m314 m0 m315) rfl (by decide +kernel) ⟨(Nat.le_of_ble_eq_true rfl), (Nat.le_of_ble_eq_true rfl)⟩ rfl rfl (Nat.le_of_ble_eq_true rfl) hc hs dL_law_328 ?_
  refine gx_istore (lv2 := [some _, some _, some _, some _, some _, some _, w6]) C dL_law_331 (by decide) rfl ?_
  refine gx_aload_n C dL_law_333 rfl ?_
  refine gx_arg (k0 := 1) (kz := 1) C hX hbl hbA hL rfl rfl rfl (by omega) dL_law_334 dL_law_335 dL_law_337 dL_law_338 dL_law_339 ?_
  refine gx_arg (k0 := 2) (kz := 2) C hX hbl hbA hL rfl rfl rfl (by omega) dL_law_340 dL_law_341 dL_law_343 dL_law_344 dL_law_345 ?_
  refine lw_M (np := 2) (q0 := 0) C hK hM (bgV hT m551 m552 m553 m7 m554) rfl hr1 hr2 (by decide +kernel) (lw_room hr3 hr4 (by decide)) rfl rfl rfl rfl (Nat.le_of_ble_eq_true rfl) hc hs dL_law_346 ?_
  refine gx_istore (lv2 := [some _, some _, some _, some _, some _, some _, some _]) C dL_law_349 (by decide) rfl ?_
  refine gx_aload_n C dL_law_351 rfl ?_
  refine lw_M (np := 0) (q0 := 0) C hK (c_X4_thrown (l := l) (D := D) (cI := cI) (cG := cG) (cL := cL) (ad := am) (n := n) (t := t) (B := B) (v := v2)) (bgV hT m520 m521 m522 m7 m523) rfl rfl rfl (by decide +kernel) ⟨(Nat.le_of_ble_eq_true rfl), (Nat.le_of_ble_eq_true rfl)⟩ rfl rfl rfl rfl (Nat.le_of_ble_eq_true rfl) hc hs dL_law_352 ?_
  refine gx_iload C dL_law_355 rfl ?_
  refine gx_icmp_eq (tgt := 362) C dL_law_357 (by decide) (fun _ => ?_) (fun c => absurd hthr c)
  refine gx_iload C dL_law_362 rfl ?_
  refine gx_if_ne (tgt := 379) C dL_law_364 (by decide) (fun _ => ?_) (fun c0 => ?_)
  · refine gx_goto (tgt := 860) C dL_law_379 (by decide) ?_
    exact k860 f2 u2 g2 v2 T2 mk2 k2 _ _ hrl hmk
  · refine gx_aload_n C dL_law_367 rfl ?_
    refine gx_iconst (v := 0) C dL_law_368 (by decide) ?_
    refine gx_lald C hK 0 2 rfl rfl h_in0 dL_law_369 ?_
    refine gx_iload C dL_law_370 rfl ?_
    refine gx_i2l C dL_law_372 ?_
    refine gx_lcmp C dL_law_373 ?_
    rw [show f2 (0 : Int32).toNatClampNeg = bb.toInt64 from hans c0, lg_self]
    refine gx_if_eq (tgt := 379) C dL_law_374 (by decide) (fun _ => ?_) (fun c => absurd rfl c)
    refine gx_goto (tgt := 860) C dL_law_379 (by decide) ?_
    exact k860 f2 u2 g2 v2 T2 mk2 k2 _ _ hrl hmk
set_option maxHeartbeats 4000000 in
set_option maxRecDepth 100000 in
theorem lw_take (hL : L ≤ 3075) (C : CallFix p m c cL_law 7 s #[.ref b] bigW "YardStacksLaw") (hX : va_X b L xs s s.heap) (hbl : b < s.heap.size) (hK : va_K D vwCl (gT cI cG cL) s) (hE : gx_E (fun q => s.heap.size ≤ q) s s.heap) (hi : i + 6 ≤ L) (hc : cells + 1 ≤ room_1.cells) (hs : slots + 6 ≤ room_1.slots) (hst : sN l D cI cG cL ad am ao n t B yL_take wsL_take yX4_take wsX4_take [.int (xs (i + 1))] f u g v mk) (k860 : ∀ (f2 : Nat → Int64) (u2 g2 v2 : Nat → Nat → Int32) (T2 mk2 k2 : Nat) (w5 w6 : Option Value), rlm n t u2 g2 v2 T2 mk2 k2 → mk2 ≤ mk + 50 → gx_G p l e room_1 s m #[.ref b] below meth c D vwCl (fun q => s.heap.size ≤ q) 7 (cells + 1) (slots + 6) Q (LW cI cG cL ad am ao n t B f2 u2 g2 v2) 860 [some (.ref b), some (.ref (ad 0)), some (.ref (am 0)), some (.ref ao), some (.int (nI i)), w5, w6] []) : gx_G p l e room_1 s m #[.ref b] below meth c D vwCl (fun q => s.heap.size ≤ q) 7 (cells) (slots) Q (LW cI cG cL ad am ao n t B f u g v) 382 [some (.ref b), some (.ref (ad 0)), some (.ref (am 0)), some (.ref ao), some (.int (nI i)), w5, w6] [] := by
  obtain ⟨kk, bb, f2, u2, g2, v2, T2, mk2, k2, rm, hN, hM, ⟨hr1, hr2, hr3, hr4⟩, hthr, hans, hrl, hmk⟩ := hst
  have hbA : ¬ s.heap.size ≤ b := by omega
  have hT : ∀ w ∈ bigW, w ∈ bigW := fun _ h => h
  refine gx_aload_n C dL_law_382 rfl ?_
  refine gx_arg (k0 := 1) (kz := 1) C hX hbl hbA hL rfl rfl rfl (by omega) dL_law_383 dL_law_384 dL_law_386 dL_law_387 dL_law_388 ?_
  refine gx_aload_n C dL_law_389 rfl ?_
  refine lw_N (np := 3) C hK hE hN (bgS hT m374 m375 m0 m376) rfl (by decide +kernel) ⟨(Nat.le_of_ble_eq_true rfl), (Nat.le_of_ble_eq_true rfl)⟩ rfl rfl (Nat.le_of_ble_eq_true rfl) hc hs dL_law_390 ?_
  refine gx_istore (lv2 := [some _, some _, some _, some _, some _, some _, w6]) C dL_law_393 (by decide) rfl ?_
  refine gx_aload_n C dL_law_395 rfl ?_
  refine gx_arg (k0 := 1) (kz := 1) C hX hbl hbA hL rfl rfl rfl (by omega) dL_law_396 dL_law_397 dL_law_399 dL_law_400 dL_law_401 ?_
  refine lw_M (np := 1) (q0 := 0) C hK hM (bgV hT m583 m584 m585 m7 m586) rfl hr1 hr2 (by decide +kernel) (lw_room hr3 hr4 (by decide)) rfl rfl rfl rfl (Nat.le_of_ble_eq_true rfl) hc hs dL_law_402 ?_
  refine gx_istore (lv2 := [some _, some _, some _, some _, some _, some _, some _]) C dL_law_405 (by decide) rfl ?_
  refine gx_aload_n C dL_law_407 rfl ?_
  refine lw_M (np := 0) (q0 := 0) C hK (c_X4_thrown (l := l) (D := D) (cI := cI) (cG := cG) (cL := cL) (ad := am) (n := n) (t := t) (B := B) (v := v2)) (bgV hT m520 m521 m522 m7 m523) rfl rfl rfl (by decide +kernel) ⟨(Nat.le_of_ble_eq_true rfl), (Nat.le_of_ble_eq_true rfl)⟩ rfl rfl rfl rfl (Nat.le_of_ble_eq_true rfl) hc hs dL_law_408 ?_
  refine gx_iload C dL_law_411 rfl ?_
  refine gx_icmp_eq (tgt := 418) C dL_law_413 (by decide) (fun _ => ?_) (fun c => absurd hthr c)
  refine gx_iload C dL_law_418 rfl ?_
  refine gx_if_ne (tgt := 435) C dL_law_420 (by decide) (fun _ => ?_) (fun c0 => ?_)
  · refine gx_goto (tgt := 860) C dL_law_435 (by decide) ?_
    exact k860 f2 u2 g2 v2 T2 mk2 k2 _ _ hrl hmk
  · refine gx_aload_n C dL_law_423 rfl ?_
    refine gx_iconst (v := 0) C dL_law_424 (by decide) ?_
    refine gx_lald C hK 0 2 rfl rfl h_in0 dL_law_425 ?_
    refine gx_iload C dL_law_426 rfl ?_
    refine gx_i2l C dL_law_428 ?_
    refine gx_lcmp C dL_law_429 ?_
    rw [show f2 (0 : Int32).toNatClampNeg = bb.toInt64 from hans c0, lg_self]
    refine gx_if_eq (tgt := 435) C dL_law_430 (by decide) (fun _ => ?_) (fun c => absurd rfl c)
    refine gx_goto (tgt := 860) C dL_law_435 (by decide) ?_
    exact k860 f2 u2 g2 v2 T2 mk2 k2 _ _ hrl hmk
set_option maxHeartbeats 4000000 in
set_option maxRecDepth 100000 in
theorem lw_shift (hL : L ≤ 3075) (C : CallFix p m c cL_law 7 s #[.ref b] bigW "YardStacksLaw") (hX : va_X b L xs s s.heap) (hbl : b < s.heap.size) (hK : va_K D vwCl (gT cI cG cL) s) (hE : gx_E (fun q => s.heap.size ≤ q) s s.heap) (hi : i + 6 ≤ L) (hc : cells + 1 ≤ room_1.cells) (hs : slots + 6 ≤ room_1.slots) (hst : sN l D cI cG cL ad am ao n t B yL_shift wsL_shift yX4_shift wsX4_shift [.int (xs (i + 1)), .int (xs (i + 2))] f u g v mk) (k860 : ∀ (f2 : Nat → Int64) (u2 g2 v2 : Nat → Nat → Int32) (T2 mk2 k2 : Nat) (w5 w6 : Option Value), rlm n t u2 g2 v2 T2 mk2 k2 → mk2 ≤ mk + 50 → gx_G p l e room_1 s m #[.ref b] below meth c D vwCl (fun q => s.heap.size ≤ q) 7 (cells + 1) (slots + 6) Q (LW cI cG cL ad am ao n t B f2 u2 g2 v2) 860 [some (.ref b), some (.ref (ad 0)), some (.ref (am 0)), some (.ref ao), some (.int (nI i)), w5, w6] []) : gx_G p l e room_1 s m #[.ref b] below meth c D vwCl (fun q => s.heap.size ≤ q) 7 (cells) (slots) Q (LW cI cG cL ad am ao n t B f u g v) 438 [some (.ref b), some (.ref (ad 0)), some (.ref (am 0)), some (.ref ao), some (.int (nI i)), w5, w6] [] := by
  obtain ⟨kk, bb, f2, u2, g2, v2, T2, mk2, k2, rm, hN, hM, ⟨hr1, hr2, hr3, hr4⟩, hthr, hans, hrl, hmk⟩ := hst
  have hbA : ¬ s.heap.size ≤ b := by omega
  have hT : ∀ w ∈ bigW, w ∈ bigW := fun _ h => h
  refine gx_aload_n C dL_law_438 rfl ?_
  refine gx_arg (k0 := 1) (kz := 1) C hX hbl hbA hL rfl rfl rfl (by omega) dL_law_439 dL_law_440 dL_law_442 dL_law_443 dL_law_444 ?_
  refine gx_arg (k0 := 2) (kz := 2) C hX hbl hbA hL rfl rfl rfl (by omega) dL_law_445 dL_law_446 dL_law_448 dL_law_449 dL_law_450 ?_
  refine gx_aload_n C dL_law_451 rfl ?_
  refine lw_N (np := 4) C hK hE hN (bgS hT m389 m390 m0 m391) rfl (by decide +kernel) ⟨(Nat.le_of_ble_eq_true rfl), (Nat.le_of_ble_eq_true rfl)⟩ rfl rfl (Nat.le_of_ble_eq_true rfl) hc hs dL_law_452 ?_
  refine gx_istore (lv2 := [some _, some _, some _, some _, some _, some _, w6]) C dL_law_455 (by decide) rfl ?_
  refine gx_aload_n C dL_law_457 rfl ?_
  refine gx_arg (k0 := 1) (kz := 1) C hX hbl hbA hL rfl rfl rfl (by omega) dL_law_458 dL_law_459 dL_law_461 dL_law_462 dL_law_463 ?_
  refine gx_arg (k0 := 2) (kz := 2) C hX hbl hbA hL rfl rfl rfl (by omega) dL_law_464 dL_law_465 dL_law_467 dL_law_468 dL_law_469 ?_
  refine lw_M (np := 2) (q0 := 0) C hK hM (bgV hT m591 m592 m593 m7 m594) rfl hr1 hr2 (by decide +kernel) (lw_room hr3 hr4 (by decide)) rfl rfl rfl rfl (Nat.le_of_ble_eq_true rfl) hc hs dL_law_470 ?_
  refine gx_istore (lv2 := [some _, some _, some _, some _, some _, some _, some _]) C dL_law_473 (by decide) rfl ?_
  refine gx_aload_n C dL_law_475 rfl ?_
  refine lw_M (np := 0) (q0 := 0) C hK (c_X4_thrown (l := l) (D := D) (cI := cI) (cG := cG) (cL := cL) (ad := am) (n := n) (t := t) (B := B) (v := v2)) (bgV hT m520 m521 m522 m7 m523) rfl rfl rfl (by decide +kernel) ⟨(Nat.le_of_ble_eq_true rfl), (Nat.le_of_ble_eq_true rfl)⟩ rfl rfl rfl rfl (Nat.le_of_ble_eq_true rfl) hc hs dL_law_476 ?_
  refine gx_iload C dL_law_479 rfl ?_
  refine gx_icmp_eq (tgt := 486) C dL_law_481 (by decide) (fun _ => ?_) (fun c => absurd hthr c)
  refine gx_iload C dL_law_486 rfl ?_
  refine gx_if_ne (tgt := 503) C dL_law_488 (by decide) (fun _ => ?_) (fun c0 => ?_)
  · refine gx_goto (tgt := 860) C dL_law_503 (by decide) ?_
    exact k860 f2 u2 g2 v2 T2 mk2 k2 _ _ hrl hmk
  · refine gx_aload_n C dL_law_491 rfl ?_
    refine gx_iconst (v := 0) C dL_law_492 (by decide) ?_
    refine gx_lald C hK 0 2 rfl rfl h_in0 dL_law_493 ?_
    refine gx_iload C dL_law_494 rfl ?_
    refine gx_i2l C dL_law_496 ?_
    refine gx_lcmp C dL_law_497 ?_
    rw [show f2 (0 : Int32).toNatClampNeg = bb.toInt64 from hans c0, lg_self]
    refine gx_if_eq (tgt := 503) C dL_law_498 (by decide) (fun _ => ?_) (fun c => absurd rfl c)
    refine gx_goto (tgt := 860) C dL_law_503 (by decide) ?_
    exact k860 f2 u2 g2 v2 T2 mk2 k2 _ _ hrl hmk
set_option maxHeartbeats 4000000 in
set_option maxRecDepth 100000 in
theorem lw_choose (hL : L ≤ 3075) (C : CallFix p m c cL_law 7 s #[.ref b] bigW "YardStacksLaw") (hX : va_X b L xs s s.heap) (hbl : b < s.heap.size) (hK : va_K D vwCl (gT cI cG cL) s) (hE : gx_E (fun q => s.heap.size ≤ q) s s.heap) (hi : i + 6 ≤ L) (hc : cells + 1 ≤ room_1.cells) (hs : slots + 6 ≤ room_1.slots) (hst : sN l D cI cG cL ad am ao n t B yL_choose wsL_choose yX4_choose wsX4_choose [.int (xs (i + 1))] f u g v mk) (k860 : ∀ (f2 : Nat → Int64) (u2 g2 v2 : Nat → Nat → Int32) (T2 mk2 k2 : Nat) (w5 w6 : Option Value), rlm n t u2 g2 v2 T2 mk2 k2 → mk2 ≤ mk + 50 → gx_G p l e room_1 s m #[.ref b] below meth c D vwCl (fun q => s.heap.size ≤ q) 7 (cells + 1) (slots + 6) Q (LW cI cG cL ad am ao n t B f2 u2 g2 v2) 860 [some (.ref b), some (.ref (ad 0)), some (.ref (am 0)), some (.ref ao), some (.int (nI i)), w5, w6] []) : gx_G p l e room_1 s m #[.ref b] below meth c D vwCl (fun q => s.heap.size ≤ q) 7 (cells) (slots) Q (LW cI cG cL ad am ao n t B f u g v) 506 [some (.ref b), some (.ref (ad 0)), some (.ref (am 0)), some (.ref ao), some (.int (nI i)), w5, w6] [] := by
  obtain ⟨kk, bb, f2, u2, g2, v2, T2, mk2, k2, rm, hN, hM, ⟨hr1, hr2, hr3, hr4⟩, hthr, hans, hrl, hmk⟩ := hst
  have hbA : ¬ s.heap.size ≤ b := by omega
  have hT : ∀ w ∈ bigW, w ∈ bigW := fun _ h => h
  refine gx_aload_n C dL_law_506 rfl ?_
  refine gx_arg (k0 := 1) (kz := 1) C hX hbl hbA hL rfl rfl rfl (by omega) dL_law_507 dL_law_508 dL_law_510 dL_law_511 dL_law_512 ?_
  refine gx_aload_n C dL_law_513 rfl ?_
  refine lw_N (np := 3) C hK hE hN (bgS hT m400 m401 m0 m402) rfl (by decide +kernel) ⟨(Nat.le_of_ble_eq_true rfl), (Nat.le_of_ble_eq_true rfl)⟩ rfl rfl (Nat.le_of_ble_eq_true rfl) hc hs dL_law_514 ?_
  refine gx_istore (lv2 := [some _, some _, some _, some _, some _, some _, w6]) C dL_law_517 (by decide) rfl ?_
  refine gx_aload_n C dL_law_519 rfl ?_
  refine gx_arg (k0 := 1) (kz := 1) C hX hbl hbA hL rfl rfl rfl (by omega) dL_law_520 dL_law_521 dL_law_523 dL_law_524 dL_law_525 ?_
  refine lw_M (np := 1) (q0 := 0) C hK hM (bgV hT m595 m596 m597 m7 m598) rfl hr1 hr2 (by decide +kernel) (lw_room hr3 hr4 (by decide)) rfl rfl rfl rfl (Nat.le_of_ble_eq_true rfl) hc hs dL_law_526 ?_
  refine gx_istore (lv2 := [some _, some _, some _, some _, some _, some _, some _]) C dL_law_529 (by decide) rfl ?_
  refine gx_aload_n C dL_law_531 rfl ?_
  refine lw_M (np := 0) (q0 := 0) C hK (c_X4_thrown (l := l) (D := D) (cI := cI) (cG := cG) (cL := cL) (ad := am) (n := n) (t := t) (B := B) (v := v2)) (bgV hT m520 m521 m522 m7 m523) rfl rfl rfl (by decide +kernel) ⟨(Nat.le_of_ble_eq_true rfl), (Nat.le_of_ble_eq_true rfl)⟩ rfl rfl rfl rfl (Nat.le_of_ble_eq_true rfl) hc hs dL_law_532 ?_
  refine gx_iload C dL_law_535 rfl ?_
  refine gx_icmp_eq (tgt := 542) C dL_law_537 (by decide) (fun _ => ?_) (fun c => absurd hthr c)
  refine gx_iload C dL_law_542 rfl ?_
  refine gx_if_ne (tgt := 559) C dL_law_544 (by decide) (fun _ => ?_) (fun c0 => ?_)
  · refine gx_goto (tgt := 860) C dL_law_559 (by decide) ?_
    exact k860 f2 u2 g2 v2 T2 mk2 k2 _ _ hrl hmk
  · refine gx_aload_n C dL_law_547 rfl ?_
    refine gx_iconst (v := 0) C dL_law_548 (by decide) ?_
    refine gx_lald C hK 0 2 rfl rfl h_in0 dL_law_549 ?_
    refine gx_iload C dL_law_550 rfl ?_
    refine gx_i2l C dL_law_552 ?_
    refine gx_lcmp C dL_law_553 ?_
    rw [show f2 (0 : Int32).toNatClampNeg = bb.toInt64 from hans c0, lg_self]
    refine gx_if_eq (tgt := 559) C dL_law_554 (by decide) (fun _ => ?_) (fun c => absurd rfl c)
    refine gx_goto (tgt := 860) C dL_law_559 (by decide) ?_
    exact k860 f2 u2 g2 v2 T2 mk2 k2 _ _ hrl hmk
set_option maxHeartbeats 4000000 in
set_option maxRecDepth 100000 in
theorem lw_score (hL : L ≤ 3075) (C : CallFix p m c cL_law 7 s #[.ref b] bigW "YardStacksLaw") (hX : va_X b L xs s s.heap) (hbl : b < s.heap.size) (hK : va_K D vwCl (gT cI cG cL) s) (hE : gx_E (fun q => s.heap.size ≤ q) s s.heap) (hi : i + 6 ≤ L) (hc : cells + 1 ≤ room_1.cells) (hs : slots + 6 ≤ room_1.slots) (hst : sN l D cI cG cL ad am ao n t B yL_score wsL_score yX4_score wsX4_score [.int (xs (i + 1)), .int (xs (i + 2))] f u g v mk) (k860 : ∀ (f2 : Nat → Int64) (u2 g2 v2 : Nat → Nat → Int32) (T2 mk2 k2 : Nat) (w5 w6 : Option Value), rlm n t u2 g2 v2 T2 mk2 k2 → mk2 ≤ mk + 50 → gx_G p l e room_1 s m #[.ref b] below meth c D vwCl (fun q => s.heap.size ≤ q) 7 (cells + 1) (slots + 6) Q (LW cI cG cL ad am ao n t B f2 u2 g2 v2) 860 [some (.ref b), some (.ref (ad 0)), some (.ref (am 0)), some (.ref ao), some (.int (nI i)), w5, w6] []) : gx_G p l e room_1 s m #[.ref b] below meth c D vwCl (fun q => s.heap.size ≤ q) 7 (cells) (slots) Q (LW cI cG cL ad am ao n t B f u g v) 562 [some (.ref b), some (.ref (ad 0)), some (.ref (am 0)), some (.ref ao), some (.int (nI i)), w5, w6] [] := by
  obtain ⟨kk, bb, f2, u2, g2, v2, T2, mk2, k2, rm, hN, hM, ⟨hr1, hr2, hr3, hr4⟩, hthr, hans, hrl, hmk⟩ := hst
  have hbA : ¬ s.heap.size ≤ b := by omega
  have hT : ∀ w ∈ bigW, w ∈ bigW := fun _ h => h
  refine gx_aload_n C dL_law_562 rfl ?_
  refine gx_arg (k0 := 1) (kz := 1) C hX hbl hbA hL rfl rfl rfl (by omega) dL_law_563 dL_law_564 dL_law_566 dL_law_567 dL_law_568 ?_
  refine gx_arg (k0 := 2) (kz := 2) C hX hbl hbA hL rfl rfl rfl (by omega) dL_law_569 dL_law_570 dL_law_572 dL_law_573 dL_law_574 ?_
  refine gx_aload_n C dL_law_575 rfl ?_
  refine lw_N (np := 4) C hK hE hN (bgS hT m419 m420 m0 m421) rfl (by decide +kernel) ⟨(Nat.le_of_ble_eq_true rfl), (Nat.le_of_ble_eq_true rfl)⟩ rfl rfl (Nat.le_of_ble_eq_true rfl) hc hs dL_law_576 ?_
  refine gx_istore (lv2 := [some _, some _, some _, some _, some _, some _, w6]) C dL_law_579 (by decide) rfl ?_
  refine gx_aload_n C dL_law_581 rfl ?_
  refine gx_arg (k0 := 1) (kz := 1) C hX hbl hbA hL rfl rfl rfl (by omega) dL_law_582 dL_law_583 dL_law_585 dL_law_586 dL_law_587 ?_
  refine gx_arg (k0 := 2) (kz := 2) C hX hbl hbA hL rfl rfl rfl (by omega) dL_law_588 dL_law_589 dL_law_591 dL_law_592 dL_law_593 ?_
  refine lw_M (np := 2) (q0 := 0) C hK hM (bgV hT m607 m608 m609 m7 m610) rfl hr1 hr2 (by decide +kernel) (lw_room hr3 hr4 (by decide)) rfl rfl rfl rfl (Nat.le_of_ble_eq_true rfl) hc hs dL_law_594 ?_
  refine gx_istore (lv2 := [some _, some _, some _, some _, some _, some _, some _]) C dL_law_597 (by decide) rfl ?_
  refine gx_aload_n C dL_law_599 rfl ?_
  refine lw_M (np := 0) (q0 := 0) C hK (c_X4_thrown (l := l) (D := D) (cI := cI) (cG := cG) (cL := cL) (ad := am) (n := n) (t := t) (B := B) (v := v2)) (bgV hT m520 m521 m522 m7 m523) rfl rfl rfl (by decide +kernel) ⟨(Nat.le_of_ble_eq_true rfl), (Nat.le_of_ble_eq_true rfl)⟩ rfl rfl rfl rfl (Nat.le_of_ble_eq_true rfl) hc hs dL_law_600 ?_
  refine gx_iload C dL_law_603 rfl ?_
  refine gx_icmp_eq (tgt := 610) C dL_law_605 (by decide) (fun _ => ?_) (fun c => absurd hthr c)
  refine gx_iload C dL_law_610 rfl ?_
  refine gx_if_ne (tgt := 627) C dL_law_612 (by decide) (fun _ => ?_) (fun c0 => ?_)
  · refine gx_goto (tgt := 860) C dL_law_627 (by decide) ?_
    exact k860 f2 u2 g2 v2 T2 mk2 k2 _ _ hrl hmk
  · refine gx_aload_n C dL_law_615 rfl ?_
    refine gx_iconst (v := 0) C dL_law_616 (by decide) ?_
    refine gx_lald C hK 0 2 rfl rfl h_in0 dL_law_617 ?_
    refine gx_iload C dL_law_618 rfl ?_
    refine gx_i2l C dL_law_620 ?_
    refine gx_lcmp C dL_law_621 ?_
    rw [show f2 (0 : Int32).toNatClampNeg = bb.toInt64 from hans c0, lg_self]
    refine gx_if_eq (tgt := 627) C dL_law_622 (by decide) (fun _ => ?_) (fun c => absurd rfl c)
    refine gx_goto (tgt := 860) C dL_law_627 (by decide) ?_
    exact k860 f2 u2 g2 v2 T2 mk2 k2 _ _ hrl hmk
set_option maxHeartbeats 4000000 in
set_option maxRecDepth 100000 in
theorem lw_night (hL : L ≤ 3075) (C : CallFix p m c cL_law 7 s #[.ref b] bigW "YardStacksLaw") (hX : va_X b L xs s s.heap) (hbl : b < s.heap.size) (hK : va_K D vwCl (gT cI cG cL) s) (hE : gx_E (fun q => s.heap.size ≤ q) s s.heap) (hi : i + 6 ≤ L) (hc : cells + 1 ≤ room_1.cells) (hs : slots + 6 ≤ room_1.slots) (hst : sN l D cI cG cL ad am ao n t B yL_night wsL_night yX4_night wsX4_night [.int (xs (i + 1))] f u g v mk) (k860 : ∀ (f2 : Nat → Int64) (u2 g2 v2 : Nat → Nat → Int32) (T2 mk2 k2 : Nat) (w5 w6 : Option Value), rlm n t u2 g2 v2 T2 mk2 k2 → mk2 ≤ mk + 50 → gx_G p l e room_1 s m #[.ref b] below meth c D vwCl (fun q => s.heap.size ≤ q) 7 (cells + 1) (slots + 6) Q (LW cI cG cL ad am ao n t B f2 u2 g2 v2) 860 [some (.ref b), some (.ref (ad 0)), some (.ref (am 0)), some (.ref ao), some (.int (nI i)), w5, w6] []) : gx_G p l e room_1 s m #[.ref b] below meth c D vwCl (fun q => s.heap.size ≤ q) 7 (cells) (slots) Q (LW cI cG cL ad am ao n t B f u g v) 630 [some (.ref b), some (.ref (ad 0)), some (.ref (am 0)), some (.ref ao), some (.int (nI i)), w5, w6] [] := by
  obtain ⟨kk, bb, f2, u2, g2, v2, T2, mk2, k2, rm, hN, hM, ⟨hr1, hr2, hr3, hr4⟩, hthr, hans, hrl, hmk⟩ := hst
  have hbA : ¬ s.heap.size ≤ b := by omega
  have hT : ∀ w ∈ bigW, w ∈ bigW := fun _ h => h
  refine gx_aload_n C dL_law_630 rfl ?_
  refine gx_arg (k0 := 1) (kz := 1) C hX hbl hbA hL rfl rfl rfl (by omega) dL_law_631 dL_law_632 dL_law_634 dL_law_635 dL_law_636 ?_
  refine gx_aload_n C dL_law_637 rfl ?_
  refine lw_N (np := 3) C hK hE hN (bgS hT m427 m428 m0 m429) rfl (by decide +kernel) ⟨(Nat.le_of_ble_eq_true rfl), (Nat.le_of_ble_eq_true rfl)⟩ rfl rfl (Nat.le_of_ble_eq_true rfl) hc hs dL_law_638 ?_
  refine gx_istore (lv2 := [some _, some _, some _, some _, some _, some _, w6]) C dL_law_641 (by decide) rfl ?_
  refine gx_aload_n C dL_law_643 rfl ?_
  refine gx_arg (k0 := 1) (kz := 1) C hX hbl hbA hL rfl rfl rfl (by omega) dL_law_644 dL_law_645 dL_law_647 dL_law_648 dL_law_649 ?_
  refine lw_M (np := 1) (q0 := 0) C hK hM (bgV hT m611 m612 m613 m7 m614) rfl hr1 hr2 (by decide +kernel) (lw_room hr3 hr4 (by decide)) rfl rfl rfl rfl (Nat.le_of_ble_eq_true rfl) hc hs dL_law_650 ?_
  refine gx_istore (lv2 := [some _, some _, some _, some _, some _, some _, some _]) C dL_law_653 (by decide) rfl ?_
  refine gx_aload_n C dL_law_655 rfl ?_
  refine lw_M (np := 0) (q0 := 0) C hK (c_X4_thrown (l := l) (D := D) (cI := cI) (cG := cG) (cL := cL) (ad := am) (n := n) (t := t) (B := B) (v := v2)) (bgV hT m520 m521 m522 m7 m523) rfl rfl rfl (by decide +kernel) ⟨(Nat.le_of_ble_eq_true rfl), (Nat.le_of_ble_eq_true rfl)⟩ rfl rfl rfl rfl (Nat.le_of_ble_eq_true rfl) hc hs dL_law_656 ?_
  refine gx_iload C dL_law_659 rfl ?_
  refine gx_icmp_eq (tgt := 666) C dL_law_661 (by decide) (fun _ => ?_) (fun c => absurd hthr c)
  refine gx_iload C dL_law_666 rfl ?_
  refine gx_if_ne (tgt := 683) C dL_law_668 (by decide) (fun _ => ?_) (fun c0 => ?_)
  · refine gx_goto (tgt := 860) C dL_law_683 (by decide) ?_
    exact k860 f2 u2 g2 v2 T2 mk2 k2 _ _ hrl hmk
  · refine gx_aload_n C dL_law_671 rfl ?_
    refine gx_iconst (v := 0) C dL_law_672 (by decide) ?_
    refine gx_lald C hK 0 2 rfl rfl h_in0 dL_law_673 ?_
    refine gx_iload C dL_law_674 rfl ?_
    refine gx_i2l C dL_law_676 ?_
    refine gx_lcmp C dL_law_677 ?_
    rw [show f2 (0 : Int32).toNatClampNeg = bb.toInt64 from hans c0, lg_self]
    refine gx_if_eq (tgt := 683) C dL_law_678 (by decide) (fun _ => ?_) (fun c => absurd rfl c)
    refine gx_goto (tgt := 860) C dL_law_683 (by decide) ?_
    exact k860 f2 u2 g2 v2 T2 mk2 k2 _ _ hrl hmk
set_option maxHeartbeats 4000000 in
set_option maxRecDepth 100000 in
theorem lw_undo (hL : L ≤ 3075) (C : CallFix p m c cL_law 7 s #[.ref b] bigW "YardStacksLaw") (hX : va_X b L xs s s.heap) (hbl : b < s.heap.size) (hK : va_K D vwCl (gT cI cG cL) s) (hE : gx_E (fun q => s.heap.size ≤ q) s s.heap) (hi : i + 6 ≤ L) (hc : cells + 1 ≤ room_1.cells) (hs : slots + 6 ≤ room_1.slots) (hst : sD l D cI cG cL ad am n t B yX3_undo wsX3_undo yX4_undo wsX4_undo [] u g v mk) (k860 : ∀ (f2 : Nat → Int64) (u2 g2 v2 : Nat → Nat → Int32) (T2 mk2 k2 : Nat) (w5 w6 : Option Value), rlm n t u2 g2 v2 T2 mk2 k2 → mk2 ≤ mk + 50 → gx_G p l e room_1 s m #[.ref b] below meth c D vwCl (fun q => s.heap.size ≤ q) 7 (cells + 1) (slots + 6) Q (LW cI cG cL ad am ao n t B f2 u2 g2 v2) 860 [some (.ref b), some (.ref (ad 0)), some (.ref (am 0)), some (.ref ao), some (.int (nI i)), w5, w6] []) : gx_G p l e room_1 s m #[.ref b] below meth c D vwCl (fun q => s.heap.size ≤ q) 7 (cells) (slots) Q (LW cI cG cL ad am ao n t B f u g v) 686 [some (.ref b), some (.ref (ad 0)), some (.ref (am 0)), some (.ref ao), some (.int (nI i)), w5, w6] [] := by
  obtain ⟨bb, u2, g2, v2, T2, mk2, k2, rm, rm2, hN, ⟨hq1, hq2, hq3, hq4⟩, hM, ⟨hr1, hr2, hr3, hr4⟩, hrl, hmk⟩ := hst
  have hbA : ¬ s.heap.size ≤ b := by omega
  have hT : ∀ w ∈ bigW, w ∈ bigW := fun _ h => h
  refine gx_widen (k := cells + 1) (n := slots + 6) (Nat.le_succ _) (Nat.le_add_right _ _) ?_
  refine gx_aload_n C dL_law_686 rfl ?_
  refine lw_Y (np := 0) (q0 := 0) C hK hN (bgV hT m160 m161 m162 m1 m163) rfl hq1 hq2 (by decide +kernel) (lw_room hq3 hq4 (by decide)) rfl rfl rfl rfl (Nat.le_of_ble_eq_true rfl) hc hs dL_law_687 ?_
  refine gx_aload_n C dL_law_690 rfl ?_
  refine lw_M (np := 0) (q0 := 0) C hK hM (bgV hT m623 m624 m625 m7 m626) rfl hr1 hr2 (by decide +kernel) (lw_room hr3 hr4 (by decide)) rfl rfl rfl rfl (Nat.le_of_ble_eq_true rfl) hc hs dL_law_691 ?_
  refine gx_icmp_eq (tgt := 860) C dL_law_694 (by decide) (fun _ => ?_) (fun c => absurd rfl c)
  exact k860 f u2 g2 v2 T2 mk2 k2 _ _ hrl hmk
set_option maxHeartbeats 4000000 in
set_option maxRecDepth 100000 in
theorem lw_where (hL : L ≤ 3075) (C : CallFix p m c cL_law 7 s #[.ref b] bigW "YardStacksLaw") (hX : va_X b L xs s s.heap) (hbl : b < s.heap.size) (hK : va_K D vwCl (gT cI cG cL) s) (hE : gx_E (fun q => s.heap.size ≤ q) s s.heap) (hi : i + 6 ≤ L) (hc : cells + 1 ≤ room_1.cells) (hs : slots + 6 ≤ room_1.slots) (hst : sN l D cI cG cL ad am ao n t B yL_where wsL_where yX4_where wsX4_where [.int (xs (i + 1)), .int (xs (i + 2))] f u g v mk) (k860 : ∀ (f2 : Nat → Int64) (u2 g2 v2 : Nat → Nat → Int32) (T2 mk2 k2 : Nat) (w5 w6 : Option Value), rlm n t u2 g2 v2 T2 mk2 k2 → mk2 ≤ mk + 50 → gx_G p l e room_1 s m #[.ref b] below meth c D vwCl (fun q => s.heap.size ≤ q) 7 (cells + 1) (slots + 6) Q (LW cI cG cL ad am ao n t B f2 u2 g2 v2) 860 [some (.ref b), some (.ref (ad 0)), some (.ref (am 0)), some (.ref ao), some (.int (nI i)), w5, w6] []) : gx_G p l e room_1 s m #[.ref b] below meth c D vwCl (fun q => s.heap.size ≤ q) 7 (cells) (slots) Q (LW cI cG cL ad am ao n t B f u g v) 699 [some (.ref b), some (.ref (ad 0)), some (.ref (am 0)), some (.ref ao), some (.int (nI i)), w5, w6] [] := by
  obtain ⟨kk, bb, f2, u2, g2, v2, T2, mk2, k2, rm, hN, hM, ⟨hr1, hr2, hr3, hr4⟩, hthr, hans, hrl, hmk⟩ := hst
  have hbA : ¬ s.heap.size ≤ b := by omega
  have hT : ∀ w ∈ bigW, w ∈ bigW := fun _ h => h
  refine gx_aload_n C dL_law_699 rfl ?_
  refine gx_arg (k0 := 1) (kz := 1) C hX hbl hbA hL rfl rfl rfl (by omega) dL_law_700 dL_law_701 dL_law_703 dL_law_704 dL_law_705 ?_
  refine gx_arg (k0 := 2) (kz := 2) C hX hbl hbA hL rfl rfl rfl (by omega) dL_law_706 dL_law_707 dL_law_709 dL_law_710 dL_law_711 ?_
  refine gx_aload_n C dL_law_712 rfl ?_
  refine lw_N (np := 4) C hK hE hN (bgS hT m439 m440 m0 m441) rfl (by decide +kernel) ⟨(Nat.le_of_ble_eq_true rfl), (Nat.le_of_ble_eq_true rfl)⟩ rfl rfl (Nat.le_of_ble_eq_true rfl) hc hs dL_law_713 ?_
  refine gx_istore (lv2 := [some _, some _, some _, some _, some _, some _, w6]) C dL_law_716 (by decide) rfl ?_
  refine gx_aload_n C dL_law_718 rfl ?_
  refine gx_arg (k0 := 1) (kz := 1) C hX hbl hbA hL rfl rfl rfl (by omega) dL_law_719 dL_law_720 dL_law_722 dL_law_723 dL_law_724 ?_
  refine gx_arg (k0 := 2) (kz := 2) C hX hbl hbA hL rfl rfl rfl (by omega) dL_law_725 dL_law_726 dL_law_728 dL_law_729 dL_law_730 ?_
  refine lw_M (np := 2) (q0 := 0) C hK hM (bgV hT m627 m628 m629 m7 m630) rfl hr1 hr2 (by decide +kernel) (lw_room hr3 hr4 (by decide)) rfl rfl rfl rfl (Nat.le_of_ble_eq_true rfl) hc hs dL_law_731 ?_
  refine gx_istore (lv2 := [some _, some _, some _, some _, some _, some _, some _]) C dL_law_734 (by decide) rfl ?_
  refine gx_aload_n C dL_law_736 rfl ?_
  refine lw_M (np := 0) (q0 := 0) C hK (c_X4_thrown (l := l) (D := D) (cI := cI) (cG := cG) (cL := cL) (ad := am) (n := n) (t := t) (B := B) (v := v2)) (bgV hT m520 m521 m522 m7 m523) rfl rfl rfl (by decide +kernel) ⟨(Nat.le_of_ble_eq_true rfl), (Nat.le_of_ble_eq_true rfl)⟩ rfl rfl rfl rfl (Nat.le_of_ble_eq_true rfl) hc hs dL_law_737 ?_
  refine gx_iload C dL_law_740 rfl ?_
  refine gx_icmp_eq (tgt := 747) C dL_law_742 (by decide) (fun _ => ?_) (fun c => absurd hthr c)
  refine gx_iload C dL_law_747 rfl ?_
  refine gx_if_ne (tgt := 764) C dL_law_749 (by decide) (fun _ => ?_) (fun c0 => ?_)
  · refine gx_goto (tgt := 860) C dL_law_764 (by decide) ?_
    exact k860 f2 u2 g2 v2 T2 mk2 k2 _ _ hrl hmk
  · refine gx_aload_n C dL_law_752 rfl ?_
    refine gx_iconst (v := 0) C dL_law_753 (by decide) ?_
    refine gx_lald C hK 0 2 rfl rfl h_in0 dL_law_754 ?_
    refine gx_iload C dL_law_755 rfl ?_
    refine gx_i2l C dL_law_757 ?_
    refine gx_lcmp C dL_law_758 ?_
    rw [show f2 (0 : Int32).toNatClampNeg = bb.toInt64 from hans c0, lg_self]
    refine gx_if_eq (tgt := 764) C dL_law_759 (by decide) (fun _ => ?_) (fun c => absurd rfl c)
    refine gx_goto (tgt := 860) C dL_law_764 (by decide) ?_
    exact k860 f2 u2 g2 v2 T2 mk2 k2 _ _ hrl hmk
set_option maxHeartbeats 4000000 in
set_option maxRecDepth 100000 in
theorem lw_at (hL : L ≤ 3075) (C : CallFix p m c cL_law 7 s #[.ref b] bigW "YardStacksLaw") (hX : va_X b L xs s s.heap) (hbl : b < s.heap.size) (hK : va_K D vwCl (gT cI cG cL) s) (hE : gx_E (fun q => s.heap.size ≤ q) s s.heap) (hi : i + 6 ≤ L) (hc : cells + 1 ≤ room_1.cells) (hs : slots + 6 ≤ room_1.slots) (hst : sN l D cI cG cL ad am ao n t B yL_at wsL_at yX4_at wsX4_at [.int (xs (i + 1)), .int (xs (i + 2))] f u g v mk) (k860 : ∀ (f2 : Nat → Int64) (u2 g2 v2 : Nat → Nat → Int32) (T2 mk2 k2 : Nat) (w5 w6 : Option Value), rlm n t u2 g2 v2 T2 mk2 k2 → mk2 ≤ mk + 50 → gx_G p l e room_1 s m #[.ref b] below meth c D vwCl (fun q => s.heap.size ≤ q) 7 (cells + 1) (slots + 6) Q (LW cI cG cL ad am ao n t B f2 u2 g2 v2) 860 [some (.ref b), some (.ref (ad 0)), some (.ref (am 0)), some (.ref ao), some (.int (nI i)), w5, w6] []) : gx_G p l e room_1 s m #[.ref b] below meth c D vwCl (fun q => s.heap.size ≤ q) 7 (cells) (slots) Q (LW cI cG cL ad am ao n t B f u g v) 767 [some (.ref b), some (.ref (ad 0)), some (.ref (am 0)), some (.ref ao), some (.int (nI i)), w5, w6] [] := by
  obtain ⟨kk, bb, f2, u2, g2, v2, T2, mk2, k2, rm, hN, hM, ⟨hr1, hr2, hr3, hr4⟩, hthr, hans, hrl, hmk⟩ := hst
  have hbA : ¬ s.heap.size ≤ b := by omega
  have hT : ∀ w ∈ bigW, w ∈ bigW := fun _ h => h
  refine gx_aload_n C dL_law_767 rfl ?_
  refine gx_arg (k0 := 1) (kz := 1) C hX hbl hbA hL rfl rfl rfl (by omega) dL_law_768 dL_law_769 dL_law_771 dL_law_772 dL_law_773 ?_
  refine gx_arg (k0 := 2) (kz := 2) C hX hbl hbA hL rfl rfl rfl (by omega) dL_law_774 dL_law_775 dL_law_777 dL_law_778 dL_law_779 ?_
  refine gx_aload_n C dL_law_780 rfl ?_
  refine lw_N (np := 4) C hK hE hN (bgS hT m448 m449 m0 m450) rfl (by decide +kernel) ⟨(Nat.le_of_ble_eq_true rfl), (Nat.le_of_ble_eq_true rfl)⟩ rfl rfl (Nat.le_of_ble_eq_true rfl) hc hs dL_law_781 ?_
  refine gx_istore (lv2 := [some _, some _, some _, some _, some _, some _, w6]) C dL_law_784 (by decide) rfl ?_
  refine gx_aload_n C dL_law_786 rfl ?_
  refine gx_arg (k0 := 1) (kz := 1) C hX hbl hbA hL rfl rfl rfl (by omega) dL_law_787 dL_law_788 dL_law_790 dL_law_791 dL_law_792 ?_
  refine gx_arg (k0 := 2) (kz := 2) C hX hbl hbA hL rfl rfl rfl (by omega) dL_law_793 dL_law_794 dL_law_796 dL_law_797 dL_law_798 ?_
  refine lw_M (np := 2) (q0 := 0) C hK hM (bgV hT m631 m632 m633 m7 m634) rfl hr1 hr2 (by decide +kernel) (lw_room hr3 hr4 (by decide)) rfl rfl rfl rfl (Nat.le_of_ble_eq_true rfl) hc hs dL_law_799 ?_
  refine gx_istore (lv2 := [some _, some _, some _, some _, some _, some _, some _]) C dL_law_802 (by decide) rfl ?_
  refine gx_aload_n C dL_law_804 rfl ?_
  refine lw_M (np := 0) (q0 := 0) C hK (c_X4_thrown (l := l) (D := D) (cI := cI) (cG := cG) (cL := cL) (ad := am) (n := n) (t := t) (B := B) (v := v2)) (bgV hT m520 m521 m522 m7 m523) rfl rfl rfl (by decide +kernel) ⟨(Nat.le_of_ble_eq_true rfl), (Nat.le_of_ble_eq_true rfl)⟩ rfl rfl rfl rfl (Nat.le_of_ble_eq_true rfl) hc hs dL_law_805 ?_
  refine gx_iload C dL_law_808 rfl ?_
  refine gx_icmp_eq (tgt := 815) C dL_law_810 (by decide) (fun _ => ?_) (fun c => absurd hthr c)
  refine gx_iload C dL_law_815 rfl ?_
  refine gx_if_ne (tgt := 832) C dL_law_817 (by decide) (fun _ => ?_) (fun c0 => ?_)
  · refine gx_goto (tgt := 860) C dL_law_832 (by decide) ?_
    exact k860 f2 u2 g2 v2 T2 mk2 k2 _ _ hrl hmk
  · refine gx_aload_n C dL_law_820 rfl ?_
    refine gx_iconst (v := 0) C dL_law_821 (by decide) ?_
    refine gx_lald C hK 0 2 rfl rfl h_in0 dL_law_822 ?_
    refine gx_iload C dL_law_823 rfl ?_
    refine gx_i2l C dL_law_825 ?_
    refine gx_lcmp C dL_law_826 ?_
    rw [show f2 (0 : Int32).toNatClampNeg = bb.toInt64 from hans c0, lg_self]
    refine gx_if_eq (tgt := 832) C dL_law_827 (by decide) (fun _ => ?_) (fun c => absurd rfl c)
    refine gx_goto (tgt := 860) C dL_law_832 (by decide) ?_
    exact k860 f2 u2 g2 v2 T2 mk2 k2 _ _ hrl hmk
set_option maxHeartbeats 4000000 in
set_option maxRecDepth 100000 in
theorem lw_count (hL : L ≤ 3075) (C : CallFix p m c cL_law 7 s #[.ref b] bigW "YardStacksLaw") (hX : va_X b L xs s s.heap) (hbl : b < s.heap.size) (hK : va_K D vwCl (gT cI cG cL) s) (hE : gx_E (fun q => s.heap.size ≤ q) s s.heap) (hi : i + 6 ≤ L) (hc : cells + 1 ≤ room_1.cells) (hs : slots + 6 ≤ room_1.slots) (hst : sD l D cI cG cL ad am n t B yX3_count wsX3_count yX4_count wsX4_count [.int (xs (i + 1))] u g v mk) (k860 : ∀ (f2 : Nat → Int64) (u2 g2 v2 : Nat → Nat → Int32) (T2 mk2 k2 : Nat) (w5 w6 : Option Value), rlm n t u2 g2 v2 T2 mk2 k2 → mk2 ≤ mk + 50 → gx_G p l e room_1 s m #[.ref b] below meth c D vwCl (fun q => s.heap.size ≤ q) 7 (cells + 1) (slots + 6) Q (LW cI cG cL ad am ao n t B f2 u2 g2 v2) 860 [some (.ref b), some (.ref (ad 0)), some (.ref (am 0)), some (.ref ao), some (.int (nI i)), w5, w6] []) : gx_G p l e room_1 s m #[.ref b] below meth c D vwCl (fun q => s.heap.size ≤ q) 7 (cells) (slots) Q (LW cI cG cL ad am ao n t B f u g v) 835 [some (.ref b), some (.ref (ad 0)), some (.ref (am 0)), some (.ref ao), some (.int (nI i)), w5, w6] [] := by
  obtain ⟨bb, u2, g2, v2, T2, mk2, k2, rm, rm2, hN, ⟨hq1, hq2, hq3, hq4⟩, hM, ⟨hr1, hr2, hr3, hr4⟩, hrl, hmk⟩ := hst
  have hbA : ¬ s.heap.size ≤ b := by omega
  have hT : ∀ w ∈ bigW, w ∈ bigW := fun _ h => h
  refine gx_widen (k := cells + 1) (n := slots + 6) (Nat.le_succ _) (Nat.le_add_right _ _) ?_
  refine gx_aload_n C dL_law_835 rfl ?_
  refine gx_arg (k0 := 1) (kz := 1) C hX hbl hbA hL rfl rfl rfl (by omega) dL_law_836 dL_law_837 dL_law_839 dL_law_840 dL_law_841 ?_
  refine lw_Y (np := 1) (q0 := 0) C hK hN (bgV hT m184 m185 m186 m1 m187) rfl hq1 hq2 (by decide +kernel) (lw_room hq3 hq4 (by decide)) rfl rfl rfl rfl (Nat.le_of_ble_eq_true rfl) hc hs dL_law_842 ?_
  refine gx_aload_n C dL_law_845 rfl ?_
  refine gx_arg (k0 := 1) (kz := 1) C hX hbl hbA hL rfl rfl rfl (by omega) dL_law_846 dL_law_847 dL_law_849 dL_law_850 dL_law_851 ?_
  refine lw_M (np := 1) (q0 := 0) C hK hM (bgV hT m635 m636 m637 m7 m638) rfl hr1 hr2 (by decide +kernel) (lw_room hr3 hr4 (by decide)) rfl rfl rfl rfl (Nat.le_of_ble_eq_true rfl) hc hs dL_law_852 ?_
  refine gx_icmp_eq (tgt := 860) C dL_law_855 (by decide) (fun _ => ?_) (fun c => absurd rfl c)
  exact k860 f u2 g2 v2 T2 mk2 k2 _ _ hrl hmk
end LAW2

theorem xB_in : ∀ w ∈ xB, w ∈ lw_tbl := by decide +kernel
theorem xS_in : ∀ q ∈ xS, Cond.stringRef "YardStacks" q.1 q.2 ∈ lw_tbl := by decide +kernel
theorem xS_ex : ∀ q ∈ xS, Cond.exactly (.string "YardStacks" q.1) "java/lang/String" ∈ flatC (Jvm.Cond.and given_1 narrow_1) := by decide +kernel
section START
variable {p : Program} {s : State} {m : MethodId} {meth : Method} {c : Code} {b L : Nat} {xs : Nat → Int32}
theorem lw_kn (h : ∀ w ∈ lw_tbl, w.before #[Value.ref b] s = true) : ∃ (D : va_G) (cI cG cL : ClassId), va_K D vwCl (gT cI cG cL) s := by
  have hb : ∀ w ∈ bigW, w.before #[Value.ref b] s = true := fun w hw => h w (bg_in w hw)
  obtain ⟨c0, i0, k0⟩ := u_known (C := RX0) (T := TX0) (N := 6) hb inX0 (hb _ m32)
  obtain ⟨c1, i1, k1⟩ := u_known (C := RX1) (T := TX1) (N := 4) hb inX1 (hb _ m100)
  obtain ⟨c2, i2, k2⟩ := u_known (C := RX2) (T := TX2) (N := 6) hb inX2 (hb _ m64)
  obtain ⟨c3, i3, k3⟩ := u_known (C := RX3) (T := TX3) (N := 6) hb inX3 (hb _ m15)
  obtain ⟨c4, i4, k4⟩ := u_known (C := RX4) (T := TX4) (N := 18) hb inX4 (hb _ m457)
  obtain ⟨cI, kI, pI, a1, a2, a3⟩ := Cond.arrayClass_spec (hb _ mAr_i)
  obtain ⟨cL, kL, pL, d1, d2, d3⟩ := Cond.arrayClass_spec (hb _ mAr_l)
  obtain ⟨pG, cG, kG, e2, e3, e4⟩ := ao_spec (h (.arrayOver (.array .int)) (by decide +kernel))
  refine ⟨(fun q => match q with | 0 => c0 | 1 => c1 | 2 => c2 | 3 => c3 | _ => c4, fun q => match q with | 0 => i0 | 1 => i1 | 2 => i2 | 3 => i3 | _ => i4), cI, cG, cL, fun q r hq => ?_, fun q r hq => ?_⟩
  · match q with
    | 0 => cases hq; exact k0
    | 1 => cases hq; exact k1
    | 2 => cases hq; exact k2
    | 3 => cases hq; exact k3
    | 4 => cases hq; exact k4
    | q + 5 => cases hq
  · match q with
    | 0 => cases hq; exact ⟨fun n z => ⟨fun k h => (by cases h), kI, a2, pI, a3⟩, a1⟩
    | 1 => cases hq; exact ⟨fun n z => ⟨fun k h => (by cases h), kG, e2, pG, e3⟩, e4⟩
    | 2 => cases hq; exact ⟨fun n z => ⟨fun k h => (by cases h), kL, d2, pL, d3⟩, d1⟩
    | q + 3 => cases hq
theorem lw_gE (h : ∀ w ∈ lw_tbl, w.before #[Value.ref b] s = true) (hg : (Jvm.Cond.and given_1 narrow_1).before #[Value.ref b] s = true) : gx_E (fun q => s.heap.size ≤ q) s s.heap := by
  have hf := flat_of_before _ hg
  have hA : ∀ a : Nat, a < s.heap.size → ¬ s.heap.size ≤ a := fun a h => by omega
  refine ⟨⟨?_, ?_⟩, fun a w hw => va_tabs (xB_on w hw) rfl (h w (xB_in w hw)), fun q hq => ?_, ?_, ?_⟩
  · exact vx_Zqof (args := #[Value.ref b]) (h (.laysStatic Bundle.tN "UNASSIGNED_STACK" Bundle.steD) (by decide +kernel)) (h (.initialized Bundle.tN) (by decide +kernel)) (hf (.isRef (.static Bundle.tN "UNASSIGNED_STACK" Bundle.steD)) (by decide +kernel)) hA
  · exact vx_Zqof (args := #[Value.ref b]) (h (.laysStatic Bundle.tN "SUPPRESSED_SENTINEL" Bundle.listD) (by decide +kernel)) (h (.initialized Bundle.tN) (by decide +kernel)) (hf (.isRef (.static Bundle.tN "SUPPRESSED_SENTINEL" Bundle.listD)) (by decide +kernel)) hA
  · obtain ⟨sa, c9, cell, k9, q1, -⟩ := Cond.exactly_spec (hf _ (xS_ex q hq))
    exact ⟨sa, vk_R.of (A := #[Value.ref b]) (h _ (xS_in q hq)) q1⟩
  · exact va_Nc.of (args := #[Value.ref b]) (hf (.not (.castable xIS xIA)) (by decide +kernel))
  · exact va_Nc.of (args := #[Value.ref b]) (hf (.not (.castable xIS xIB)) (by decide +kernel))
theorem lw_gK (h : ∀ w ∈ lw_tbl, w.before #[Value.ref b] s = true) : gx_K s := ⟨va_Nw.of rfl (h (.methodLinkNest "YardStacks" 19 yX0_init "YardStacks") (by decide +kernel)), va_Nw.of rfl (h (.methodLinkNest "YardStacks" 35 yX1_init "YardStacks") (by decide +kernel)), ao_alike (Vm.Alike.refl _) (h (.arrayOver (.array .int)) (by decide +kernel))⟩
end START
set_option maxHeartbeats 4000000 in
/-- from the entry, for every script of at most 3075 ints, the law comes to its end with true -/
theorem whole_start {p : Program} {e : Env} {s : State} {m : MethodId} {below : List Frame} {meth : Method} {c : Code} (l : Launch) (htr : l.stackTraces = false) {b L : Nat} {xs : Nat → Int32} (hL : L ≤ 3075) (C0 : lw_At p s m meth c b L xs) : W p l e room_1 s m #[Value.ref b] below meth c s.heap [] 0 0 (lw_Z below #[Value.ref b] s) (entryFrame m ([Value.ref b] : List Value).toArray 7) := by
  obtain ⟨hx, hcode, hRt, hml, hown, hts, hX, hbl, hlocks, hgv⟩ := C0
  have C : CallFix p m c cL_law 7 s #[.ref b] bigW "YardStacksLaw" := ⟨hx, hcode, hml, hown, fun w hw => hts w (bg_in w hw)⟩
  have hT : ∀ w ∈ bigW, w ∈ bigW := fun _ h => h
  obtain ⟨D, cI, cG, cL, hK⟩ := lw_kn hts
  have hE := lw_gE hts hgv
  have hW := lw_gK hts
  have hA : ∀ q : Nat, s.heap.size ≤ q → (fun q => s.heap.size ≤ q) q := fun q h => h
  have hbA : ¬ (fun q : Nat => s.heap.size ≤ q) b := by show ¬ s.heap.size ≤ b; omega
  obtain ⟨n, hn1, hn2, e1⟩ := held_ex (x := ceV L xs 0) (K := 16) (by decide) (by decide)
  obtain ⟨t, ht1, ht2, e2⟩ := held_ex (x := ceV L xs 1) (K := 8) (by decide) (by decide)
  have e1 : yHeld (ceV L xs 0) 16 = nI n := e1
  have e2 : yHeld (ceV L xs 1) 8 = nI t := e2
  rw [lg_entry_eq]
  have hl := gx_L.entry [.ref b] (n := 7) (fun v hv => by rw [List.mem_singleton.mp hv]; rfl) (Nat.le_of_ble_eq_true rfl)
  have K : gx_G p l e room_1 s m #[.ref b] below meth c D vwCl (fun q => s.heap.size ≤ q) 7 0 0 (lw_Z below #[.ref b] s) [] 0 [some (.ref b), none, none, none, none, none, none] [] := by
    refine gx_new (Cn := RX3) (T := TX3) (N := 6) (ci := 3) (fs := [.int 0, .null, .null, .null, .null, .null]) C hT hK hA inX3 tyX3 tyX3_ok m14 m15 m1 rfl (fun j hj => by rcases (show j = 0 ∨ j = 1 ∨ j = 2 ∨ j = 3 ∨ j = 4 ∨ j = 5 by omega) with rfl | rfl | rfl | rfl | rfl | rfl <;> rfl) (Nat.le_of_ble_eq_true rfl) (Nat.le_of_ble_eq_true rfl) dL_law_0 (fun a0 => ?_)
    refine gx_ws (ws2 := ([] : va_W) ++ [(a0, .inr (3, [.int 0, .null, .null, .null, .null, .null]))] ++ ([] : va_W)) rfl ?_
    refine gx_dup C dL_law_3 rfl ?_
    refine gx_aload_n C dL_law_4 rfl ?_
    refine gx_iconst (v := nI 0) C dL_law_5 (by decide) ?_
    refine lw_cell (k0 := 0) C hX hbl hbA hL (by decide) (bgS hT m213 m214 m0 m215) ⟨(Nat.le_of_ble_eq_true rfl), (Nat.le_of_ble_eq_true rfl)⟩ rfl (Nat.le_of_ble_eq_true rfl) (Nat.le_of_ble_eq_true rfl) (Nat.le_of_ble_eq_true rfl) dL_law_6 ?_
    refine gx_aload_n C dL_law_9 rfl ?_
    refine gx_iconst (v := nI 1) C dL_law_10 (by decide) ?_
    refine lw_cell (k0 := 1) C hX hbl hbA hL (by decide) (bgS hT m213 m214 m0 m215) ⟨(Nat.le_of_ble_eq_true rfl), (Nat.le_of_ble_eq_true rfl)⟩ rfl (Nat.le_of_ble_eq_true rfl) (Nat.le_of_ble_eq_true rfl) (Nat.le_of_ble_eq_true rfl) dL_law_11 ?_
    refine gx_aload_n C dL_law_14 rfl ?_
    refine gx_iconst (v := nI 2) C dL_law_15 (by decide) ?_
    refine lw_cell (k0 := 2) C hX hbl hbA hL (by decide) (bgS hT m213 m214 m0 m215) ⟨(Nat.le_of_ble_eq_true rfl), (Nat.le_of_ble_eq_true rfl)⟩ rfl (Nat.le_of_ble_eq_true rfl) (Nat.le_of_ble_eq_true rfl) (Nat.le_of_ble_eq_true rfl) dL_law_16 ?_
    refine gx_callI (n := 3) (b := a0) ([] : va_W) ([] : va_W) C hT hK hW hA (fun sz => c_X3_init (a := a0) (sz := sz) (x1 := ceV L xs 0) (x2 := ceV L xs 1) (x3 := ceV L xs 2) hn2 ht2 e1 e2 rfl) (bgI hT m18) rfl rfl rfl m1 m16 m17 rfl (by decide +kernel) ⟨(Nat.le_of_ble_eq_true rfl), (Nat.le_of_ble_eq_true rfl)⟩ rfl rfl (Nat.le_of_ble_eq_true rfl) (Nat.le_of_ble_eq_true rfl) (Nat.le_of_ble_eq_true rfl) dL_law_19 ?_
    rintro w2 ⟨ad, rfl, rfl⟩
    refine gx_ws (ws2 := (yW cI cG ad n t (yHeld (ceV L xs 2) 400) yU0 (fun _ => fNo t))) rfl ?_
    refine gx_astore_n (lv2 := [some _, some _, none, none, none, none, none]) C dL_law_22 (by decide) rfl ?_
    refine gx_new (Cn := RX4) (T := TX4) (N := 18) (ci := 4) (fs := [.int 0, .int 0, .int 0, .int 0, .null, .null, .int 0, .null, .null, .null, .null, .null, .null, .null, .int 0, .int 0, .null, .null]) C hT hK hA inX4 tyX4 tyX4_ok m456 m457 m7 rfl (fun j hj => by rcases (show j = 0 ∨ j = 1 ∨ j = 2 ∨ j = 3 ∨ j = 4 ∨ j = 5 ∨ j = 6 ∨ j = 7 ∨ j = 8 ∨ j = 9 ∨ j = 10 ∨ j = 11 ∨ j = 12 ∨ j = 13 ∨ j = 14 ∨ j = 15 ∨ j = 16 ∨ j = 17 by omega) with rfl | rfl | rfl | rfl | rfl | rfl | rfl | rfl | rfl | rfl | rfl | rfl | rfl | rfl | rfl | rfl | rfl | rfl <;> rfl) (Nat.le_of_ble_eq_true rfl) (Nat.le_of_ble_eq_true rfl) dL_law_23 (fun a1 => ?_)
    refine gx_ws (ws2 := (yW cI cG ad n t (yHeld (ceV L xs 2) 400) yU0 (fun _ => fNo t)) ++ [(a1, .inr (4, [.int 0, .int 0, .int 0, .int 0, .null, .null, .int 0, .null, .null, .null, .null, .null, .null, .null, .int 0, .int 0, .null, .null]))] ++ ([] : va_W)) (List.append_nil _).symm ?_
    refine gx_dup C dL_law_26 rfl ?_
    refine gx_aload_n C dL_law_27 rfl ?_
    refine gx_iconst (v := nI 0) C dL_law_28 (by decide) ?_
    refine lw_cell (k0 := 0) C hX hbl hbA hL (by decide) (bgS hT m213 m214 m0 m215) ⟨(Nat.le_of_ble_eq_true rfl), (Nat.le_of_ble_eq_true rfl)⟩ rfl (Nat.le_of_ble_eq_true rfl) (Nat.le_of_ble_eq_true rfl) (Nat.le_of_ble_eq_true rfl) dL_law_29 ?_
    refine gx_aload_n C dL_law_32 rfl ?_
    refine gx_iconst (v := nI 1) C dL_law_33 (by decide) ?_
    refine lw_cell (k0 := 1) C hX hbl hbA hL (by decide) (bgS hT m213 m214 m0 m215) ⟨(Nat.le_of_ble_eq_true rfl), (Nat.le_of_ble_eq_true rfl)⟩ rfl (Nat.le_of_ble_eq_true rfl) (Nat.le_of_ble_eq_true rfl) (Nat.le_of_ble_eq_true rfl) dL_law_34 ?_
    refine gx_aload_n C dL_law_37 rfl ?_
    refine gx_iconst (v := nI 2) C dL_law_38 (by decide) ?_
    refine lw_cell (k0 := 2) C hX hbl hbA hL (by decide) (bgS hT m213 m214 m0 m215) ⟨(Nat.le_of_ble_eq_true rfl), (Nat.le_of_ble_eq_true rfl)⟩ rfl (Nat.le_of_ble_eq_true rfl) (Nat.le_of_ble_eq_true rfl) (Nat.le_of_ble_eq_true rfl) dL_law_39 ?_
    refine gx_callI (n := 3) (b := a1) (yW cI cG ad n t (yHeld (ceV L xs 2) 400) yU0 (fun _ => fNo t)) ([] : va_W) C hT hK hW hA (fun sz => c_X4_init (a := a1) (sz := sz) (B := yHeld (ceV L xs 2) 400) (x1 := ceV L xs 0) (x2 := ceV L xs 1) (x3 := ceV L xs 2) ((held_same (by decide)).trans e1) ((held_same (by decide)).trans e2) (held_same (by decide))) (bgI hT m460) rfl rfl rfl m7 m458 m459 rfl (by decide +kernel) ⟨(Nat.le_of_ble_eq_true rfl), (Nat.le_of_ble_eq_true rfl)⟩ rfl rfl (Nat.le_of_ble_eq_true rfl) (Nat.le_of_ble_eq_true rfl) (Nat.le_of_ble_eq_true rfl) dL_law_42 ?_
    rintro w2 ⟨am, rfl, rfl⟩
    refine gx_ws (ws2 := (yW cI cG ad n t (yHeld (ceV L xs 2) 400) yU0 (fun _ => fNo t)) ++ (mW cI am n t (yHeld (ceV L xs 2) 400) (fun _ _ => 0))) (by rw [List.append_nil]) ?_
    refine gx_astore_n (lv2 := [some _, some _, some _, none, none, none, none]) C dL_law_45 (by decide) rfl ?_
    refine gx_iconst (v := nI 1) C dL_law_46 (by decide) ?_
    refine gx_newl (N := 1) C hT hK hA rfl (by decide) (Nat.le_of_ble_eq_true rfl) (Nat.le_of_ble_eq_true rfl) dL_law_47 (fun ao => ?_)
    refine gx_perm (ws2 := LW cI cG cL ad am ao n t (yHeld (ceV L xs 2) 400) (fun _ => 0) yU0 (fun _ => fNo t) (fun _ _ => 0)) (by show ((_ ++ _) ++ oW cL ao (fun _ => 0)).Perm (oW cL ao (fun _ => 0) ++ _ ++ _); rw [List.append_assoc (oW cL ao (fun _ => 0))]; exact List.perm_append_comm) ?_
    refine gx_astore_n (lv2 := [some _, some _, some _, some _, none, none, none]) C dL_law_49 (by decide) rfl ?_
    refine gx_iconst (v := nI 3) C dL_law_50 (by decide) ?_
    refine gx_istore (lv2 := [some _, some _, some _, some _, some (.int (nI (3 + 6 * 0))), none, none]) C dL_law_51 (by decide) rfl ?_
    refine gx_widen (k := 46 + 0) (n := 1505 + 6 * 0) (by decide) (by decide) ?_
    exact lw_loop hL htr (by omega) C hRt hlocks hX hbl hK hE 513 0 _ _ _ _ 0 0 0 _ _ (by omega) (rlm_0 (by omega) hn2 ht2) (by decide) (by decide)
  refine K s.heap [] _ (fun k q h => nomatch h) ⟨fun i j x y h => (nomatch h), fun k q h => (nomatch h)⟩ va_S.rf (hl.sub (fun i v hi => ?_))
  match i with
  | 0 => exact hi
  | 1 => cases hi
  | 2 => cases hi
  | 3 => cases hi
  | 4 => cases hi
  | 5 => cases hi
  | 6 => cases hi
  | i + 7 => cases hi
set_option maxHeartbeats 4000000 in
theorem lw_walk (l : Launch) (htr : l.stackTraces = false) (b : Addr) (xs : List Int32) : MetFree l x (headSpec (Jvm.Cond.code x code maxLocals ret :: tables_1) room_1) (lw_P b xs) (fun _ _ _ _ _ => True) lw_Q := by
  refine MetFree.of_bodyS (code := code) (maxLocals := maxLocals) (ret := ret) (by decide) ?_ ?_
  · intro args s m h hn
    obtain ⟨meth, c, h1, h2, h3, h4, h5, h6, -, -⟩ := Cond.code_spec hn (atoms_spec (ws := Jvm.Cond.code x code maxLocals ret :: tables_1) h _ List.mem_cons_self)
    exact ⟨meth, c, h1, h2, h3, h4, h5, h6⟩
  · intro p e s m args below meth c s₁ B hml0 hP _
    obtain ⟨rfl, hx, hbd, hgv⟩ := hP
    obtain ⟨scr, harrAt, hlist, hof, hsmall⟩ := hx
    obtain ⟨hcb, hkn, -, -⟩ := State.arrayAt?_spec harrAt
    have hown : s.vm.findClass R_law = some m.cls := findClass_of_methodNamed B.named
    have hts0 : ∀ c ∈ (Jvm.Cond.code x code maxLocals ret :: tables_1), c.before #[Value.ref b] s = true := atoms_spec (ws := Jvm.Cond.code x code maxLocals ret :: tables_1) B.pre
    have hts : ∀ w ∈ lw_tbl, w.before #[Value.ref b] s = true := k2_hts_sels lw_privs (fun w hw => hts0 w (List.mem_cons_of_mem _ hw)) lw_privs_ok
    have hml : c.maxLocals = 7 := B.maxLocals_eq (hts0 _ List.mem_cons_self)
    have X₀ : Stand p l e room_1 s m #[Value.ref b] below meth c s₁ [] 0 0 := Stand.of_body B
    have hh0 : s₁.heap = s.heap := by rw [B.state]; rfl
    have hsz : scr.slots.size = xs.length := by rw [← Array.length_toList, hlist, List.length_map]
    have hval : ∀ j : Nat, j < xs.length → scr.slots[j]? = some (.int (xs.getD j 0)) := fun j hj => by
      rw [← Array.getElem?_toList, hlist]
      simp [hj]
    have hbl : b < s.heap.size := (Array.getElem?_eq_some_iff.mp hcb).1
    have hX : va_X b xs.length (fun j => xs.getD j 0) s s.heap := ⟨scr, hcb, hof, hkn, hsz, hval⟩
    have K : W p l e room_1 s m #[Value.ref b] below meth c s₁.heap [] 0 0 (lw_Z below #[Value.ref b] s) (entryFrame m ([Value.ref b] : List Value).toArray 7) := by
      rw [hh0]
      exact whole_start l htr hbd ⟨B.exec, B.bytes, B.returns, hml, hown, hts, hX, hbl, B.notSynchronized, hgv⟩
    obtain ⟨t, a1, o, b1, b2, b3⟩ := K s₁ rfl X₀
    exact ⟨t, o, a1, b1, b2, b3⟩
theorem lw_pre_spec {args : Array Value} {s : State} (h : (Jvm.Cond.and given_1 narrow_1).before args s = true) (hr : rest_1_c.before args s = true) : ∃ (b : Addr) (xs : List Int32), lw_P b xs args s := by
  have hs := flat_of_before _ h
  have hq := flat_of_before _ hr
  have hc : (Cond.count 1).before args s = true := hs _ (by decide +kernel)
  have harr : (Cond.arrayOf (.arg 0) .int).before args s = true := hs _ (by decide +kernel)
  have hle : (Cond.le (.length (.arg 0)) (.int 3075)).before args s = true := hs _ (by decide +kernel)
  have hlen : (Cond.isInt (.length (.arg 0))).before args s = true := hq _ (by decide +kernel)
  have hall : (Cond.all (.arg 0) (.isInt (.elem (.arg 0) (.index 0)))).before args s = true := hq _ (by decide +kernel)
  obtain ⟨b, xs, hb, hx⟩ := State.ints_of_pre rfl harr hlen hall
  have hsm : xs.length < 2 ^ 31 := hx.choose_spec.2.2.2
  have hev : (Term.length (.arg 0)).eval args s none [] s = some (.int xs.length.toInt32) := hx.length_eval hb
  have hv := Cond.le_ints hev (show (Term.int 3075).eval args s none [] s = some (.int 3075) from rfl)
  have hd : xs.length.toInt32 ≤ 3075 := by
    simpa [Cond.before, Cond.holds, hv] using hle
  have hN : xs.length ≤ 3075 := (Int32.ofNat_le_ofNat hsm (by decide)).mp (show Int32.ofNat xs.length ≤ Int32.ofNat 3075 from hd)
  exact ⟨b, xs, Cond.one_arg hc (show args[0]? = some (.ref b) from hb), hx, hN, h⟩
theorem lw_comes (l : Launch) (htr : l.stackTraces = false) : Comes l x (Jvm.Cond.code x code maxLocals ret :: tables_1) room_1 (fun tb e args s => Calls_1 tb e args s ∧ rest_1 tb e args s ∧ Pre_1 tb e args s)
    (fun _ _ args s o t => lw_Q args s o t) := by
  intro p e ha hc hk s m args below hf hfit hheap happ hpre
  obtain ⟨b, xs, hP⟩ := lw_pre_spec hpre.2.2 hpre.2.1
  obtain ⟨k, o, h1, h2, h3, hQ⟩ := lw_walk l htr b xs p e ha hc hk s m args below hf ((Spec.applies_iff_loose hf).mp happ).1 hP trivial
  exact ⟨k, o, h1, h2, h3, hQ⟩
theorem lw_frame {s t : State} {o : Outcome} {args : Array Value} (h : Framed s o t [] 601024 7293000) :
    Framed s o t (fieldLocs frame_1_writes args s ++ arrayLocs frame_1_arrays args s ++ staticLocs frame_1_statics s) 601024 7293000 := h
theorem lw_limb (L : Cond) (hL : ∀ (args : Array Value) (s t : State), L.after args s (.returned (some (.int 1))) t = true) :
    ArmFor flags0 classFile x code maxLocals ret World_1 tables_1 room_1 Calls_1 rest_1 Pre_1
      (fun tb e a s o t => postC L tb e a s o t ∧ Framed s o t (fieldLocs frame_1_writes a s ++ arrayLocs frame_1_arrays a s ++ staticLocs frame_1_statics s) 601024 7293000) := by
  intro l hfl _ _ p e ha hc hk s m args below hf hfit hheap happ hpre
  have htr : l.stackTraces = false := by
    unfold Launch.stackTraces
    rw [hfl]
    decide
  obtain ⟨k, o, h1, h2, h3, rfl, hF⟩ := lw_comes l htr p e ha hc hk s m args below hf hfit hheap happ hpre
  exact ⟨k, _, h1, h2, h3, hL args s _, lw_frame hF⟩
theorem i_vc : Claimed_1_1 ∧ Claimed_1_2 := ⟨lw_limb limb_1_1 (fun args s t => by simp [limb_1_1, Cond.after, Cond.holds, Cond.value]), lw_limb limb_1_2 (fun args s t => Cond.after_iff.mpr (by
  first | (rw [show limb_1_2 = Cond.eq .result (.int 1) from rfl, Cond.eq_ints (x := 1) (y := 1) rfl rfl]; simp; done) | (simp [limb_1_2, Cond.value, Term.eval]; done)))⟩


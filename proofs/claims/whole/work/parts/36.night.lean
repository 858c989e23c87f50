set_option maxHeartbeats 4000000 in
set_option maxRecDepth 100000 in
theorem lp_X3_night {l : Launch} {D : va_G} {cI cG cL : ClassId} {ad : Nat → Nat} {n t : Nat} {B : Int32} {u g : Nat → Nat → Int32} {US GS : Nat → Nat → Nat → Int32} {mo m0 : Nat} {p : Program} {e : Env} {s : State} {m : MethodId} {args : Array Value} {below : List Frame} {meth : Method} {c : Code} (C : CallFix p m c cX3_night 3 s args wsX3_night RX3) (hT : ∀ w ∈ bigW, w ∈ wsX3_night) (hRt : meth.sig.returnType = (some .int)) (hlocks : meth.locks = false) (hK : va_K D vwCl (gT cI cG cL) s) (hu : US 0 = u) (hg : GS 0 = g) (hmo : mo ≤ 50) (hm : m0 ≤ mo) (hst : ∀ j, j < m0 → gx_M l yX3_moveOneAside wsX3_moveOneAside ({ frames := 4, cells := 0, slots := 0, locals := 94 }) D vwCl (gT cI cG cL) [.ref (ad 0)] (yW cI cG ad n t B (US j) (GS j)) (yW cI cG ad n t B (US (j + 1)) (GS (j + 1))) (some (.int 1))) (hen : m0 = mo ∨ gx_M l yX3_moveOneAside wsX3_moveOneAside ({ frames := 4, cells := 0, slots := 0, locals := 94 }) D vwCl (gT cI cG cL) [.ref (ad 0)] (yW cI cG ad n t B (US m0) (GS m0)) (yW cI cG ad n t B (US m0) (GS m0)) (some (.int 0))) : ∀ (d j : Nat), j + d = m0 → gx_G p l e (headSpec wsX3_night ({ frames := 5, cells := 0, slots := 0, locals := 121 })).room s m args below meth c D vwCl (gx_in (yW cI cG ad n t B u g)) 3 0 0 (gx_Qm D vwCl below args s (yW cI cG ad n t B u g) (yW cI cG ad n t B (US m0) (GS m0)) (some (.int (nI m0)))) (yW cI cG ad n t B (US j) (GS j)) 22 [some (.ref (ad 0)), some (.int (nI mo)), some (.int (nI j))] [] := by
  intro d
  induction d with
  | zero =>
    intro j hj
    obtain rfl : j = m0 := by omega
    refine gx_iload_n C dX3_night_22 rfl ?_
    refine gx_iload_n C dX3_night_23 rfl ?_
    refine gx_icmp_ge (tgt := 42) C dX3_night_24 (by decide) (fun c_24 => ?_) (fun c_24 => ?_)
    · refine gx_iload_n C dX3_night_42 rfl ?_
      exact gx_iret C hRt hlocks dX3_night_43 (by have := (nI_leI (by omega) (by omega)).mp c_24; rw [show j = mo by omega]) rfl
    · have hne : ¬ j = mo := fun q => c_24 (by rw [q]; exact Int32.le_refl _)
      refine gx_aload_n C dX3_night_27 rfl ?_
      refine gx_cVi (n := 0) (q0 := 0) C hK (hen.resolve_left hne) yW_fst (bgV hT m435 m437 slX3_moveOneAside m1 m438) rfl rfl rfl (by decide +kernel) ⟨Nat.le_of_ble_eq_true rfl, Nat.le_of_ble_eq_true rfl⟩ rfl rfl rfl rfl (Nat.le_of_ble_eq_true rfl) (Nat.zero_le _) (Nat.zero_le _) dX3_night_28 ?_
      refine gx_if_ne (tgt := 36) C dX3_night_31 (by decide) (fun c => absurd rfl c) (fun c_31 => ?_)
      refine gx_iload_n C dX3_night_34 rfl ?_
      exact gx_iret C hRt hlocks dX3_night_35 rfl rfl
  | succ d ih =>
    intro j hj
    refine gx_iload_n C dX3_night_22 rfl ?_
    refine gx_iload_n C dX3_night_23 rfl ?_
    refine gx_icmp_ge (tgt := 42) C dX3_night_24 (by decide) (fun c => absurd c (nI_ge (by omega) (by omega))) (fun c_24 => ?_)
    refine gx_aload_n C dX3_night_27 rfl ?_
    refine gx_cVi (n := 0) (q0 := 0) C hK (hst j (by omega)) yW_fst (bgV hT m435 m437 slX3_moveOneAside m1 m438) rfl rfl rfl (by decide +kernel) ⟨Nat.le_of_ble_eq_true rfl, Nat.le_of_ble_eq_true rfl⟩ rfl rfl rfl rfl (Nat.le_of_ble_eq_true rfl) (Nat.zero_le _) (Nat.zero_le _) dX3_night_28 ?_
    refine gx_if_ne (tgt := 36) C dX3_night_31 (by decide) (fun c_31 => ?_) (fun c => absurd c (by decide))
    refine gx_iincN (lv2 := [some _, some _, some _]) C dX3_night_36 rfl (by decide) rfl ?_
    refine gx_goto (tgt := 22) C dX3_night_39 (by decide) ?_
    exact ih (j + 1) (by omega)
set_option maxHeartbeats 4000000 in
set_option maxRecDepth 100000 in
theorem c_X3_night {l : Launch} {D : va_G} {cI cG cL : ClassId} {ad : Nat → Nat} {n t : Nat} {B : Int32} {u g : Nat → Nat → Int32} {US GS : Nat → Nat → Nat → Int32} {mo m0 : Nat} (hu : US 0 = u) (hg : GS 0 = g) (hmo : mo ≤ 50) (hm : m0 ≤ mo) (hst : ∀ j, j < m0 → gx_M l yX3_moveOneAside wsX3_moveOneAside ({ frames := 4, cells := 0, slots := 0, locals := 94 }) D vwCl (gT cI cG cL) [.ref (ad 0)] (yW cI cG ad n t B (US j) (GS j)) (yW cI cG ad n t B (US (j + 1)) (GS (j + 1))) (some (.int 1))) (hen : m0 = mo ∨ gx_M l yX3_moveOneAside wsX3_moveOneAside ({ frames := 4, cells := 0, slots := 0, locals := 94 }) D vwCl (gT cI cG cL) [.ref (ad 0)] (yW cI cG ad n t B (US m0) (GS m0)) (yW cI cG ad n t B (US m0) (GS m0)) (some (.int 0))) : gx_M l yX3_night wsX3_night ({ frames := 5, cells := 0, slots := 0, locals := 121 }) D vwCl (gT cI cG cL) [.ref (ad 0), .int (nI mo)] (yW cI cG ad n t B u g) (yW cI cG ad n t B (US m0) (GS m0)) (some (.int (nI m0))) := by
  refine gx_ofG (cc := cX3_night) (maxL := 3) (ret := (some .int)) [some (.ref (ad 0)), some (.int (nI mo)), none] (by decide) rfl rfl (Nat.le_of_ble_eq_true rfl) rfl ?_
  intro p e s m args below meth c C hRt hlocks hK
  have C : CallFix p m c cX3_night 3 s args (wsX3_night) RX3 := C
  have hT : ∀ w ∈ bigW, w ∈ wsX3_night := bgT
  subst hu hg
  refine gx_iload_n C dX3_night_0 rfl ?_
  refine gx_iconst (v := 0) C dX3_night_1 (by decide) ?_
  refine gx_bipush (v := 50) C dX3_night_2 (by decide) ?_
  refine gx_cSi (n := 3) C hK (c_X3_isWithin (l := l) (D := D) (cI := cI) (cG := cG) (cL := cL) (v := nI mo) (a := 0) (b := 50)) (bgS hT m149 m150 m1 m151) rfl rfl rfl (by decide +kernel) ⟨Nat.le_of_ble_eq_true rfl, Nat.le_of_ble_eq_true rfl⟩ rfl rfl (Nat.le_of_ble_eq_true rfl) (Nat.zero_le _) (Nat.zero_le _) dX3_night_4 ?_
  refine gx_if_ne (tgt := 20) C dX3_night_7 (by decide) (fun c_7 => ?_) (fun c => absurd c (by rw [show yIn (nI mo) 0 50 = true from decide_eq_true ⟨nI_pos' (by omega), nI_le (b := 50) (by omega) (by decide)⟩]; decide))
  refine gx_iconst (v := 0) C dX3_night_20 (by decide) ?_
  refine gx_istore_n (lv2 := [some _, some _, some _]) C dX3_night_21 (by decide) rfl ?_
  exact lp_X3_night C hT hRt hlocks hK rfl rfl hmo hm hst hen m0 0 (by omega)
set_option maxHeartbeats 4000000 in
set_option maxRecDepth 100000 in
theorem lp_X4_night {l : Launch} {D : va_G} {cI cG cL : ClassId} {ad : Nat → Nat} {n t : Nat} {B : Int32} {v : Nat → Nat → Int32} {VS : Nat → Nat → Nat → Int32} {bS xS : Nat → Int32} {mo m0 : Nat} {p : Program} {e : Env} {s : State} {m : MethodId} {args : Array Value} {below : List Frame} {meth : Method} {c : Code} (C : CallFix p m c cX4_night 4 s args wsX4_night RX4) (hT : ∀ w ∈ bigW, w ∈ wsX4_night) (hRt : meth.sig.returnType = (some .int)) (hlocks : meth.locks = false) (hK : va_K D vwCl (gT cI cG cL) s) (hv : VS 0 = mu v 0 3 0) (hmo : mo ≤ 50) (hm : m0 ≤ mo) (hwo : ∀ j, j ≤ m0 → gx_M l yX4_worst wsX4_worst ({ frames := 3, cells := 0, slots := 0, locals := 75 }) D vwCl (gT cI cG cL) [.ref (ad 0)] (mW cI ad n t B (VS j)) (mW cI ad n t B (VS j)) (some (.int (bS j)))) (hb : ∀ j, j < m0 → ¬ bS j < 0) (has : ∀ j, j < m0 → gx_M l yX4_aside wsX4_aside ({ frames := 2, cells := 0, slots := 0, locals := 51 }) D vwCl (gT cI cG cL) [.ref (ad 0), .int (bS j)] (mW cI ad n t B (VS j)) (mW cI ad n t B (VS j)) (some (.int (xS j)))) (hmv : ∀ j, j < m0 → gx_M l yX4_moves wsX4_moves ({ frames := 2, cells := 0, slots := 0, locals := 45 }) D vwCl (gT cI cG cL) [.ref (ad 0), .int (bS j), .int (xS j)] (mW cI ad n t B (VS j)) (mW cI ad n t B (VS (j + 1))) none) (hen : m0 = mo ∨ bS m0 < 0) : ∀ (d j : Nat), j + d = m0 → gx_G p l e (headSpec wsX4_night ({ frames := 4, cells := 0, slots := 0, locals := 100 })).room s m args below meth c D vwCl (gx_in (mW cI ad n t B v)) 4 0 0 (gx_Qm D vwCl below args s (mW cI ad n t B v) (mW cI ad n t B (VS m0)) (some (.int (nI m0)))) (mW cI ad n t B (VS j)) 28 [some (.ref (ad 0)), some (.int (nI mo)), some (.int (nI j)), some (.int (bS j))] [] := by
  intro d
  induction d with
  | zero =>
    intro j hj
    obtain rfl : j = m0 := by omega
    refine gx_iload_n C dX4_night_28 rfl ?_
    refine gx_iload_n C dX4_night_29 rfl ?_
    refine gx_icmp_ge (tgt := 58) C dX4_night_30 (by decide) (fun c_30 => ?_) (fun c_30 => ?_)
    · refine gx_iload_n C dX4_night_58 rfl ?_
      exact gx_iret C hRt hlocks dX4_night_59 rfl rfl
    · have hne : ¬ j = mo := fun q => c_30 (by rw [q]; exact Int32.le_refl _)
      refine gx_iload_n C dX4_night_33 rfl ?_
      refine gx_if_lt (tgt := 58) C dX4_night_34 (by decide) (fun c_34 => ?_) (fun c => absurd (hen.resolve_left hne) c)
      refine gx_iload_n C dX4_night_58 rfl ?_
      exact gx_iret C hRt hlocks dX4_night_59 rfl rfl
  | succ d ih =>
    intro j hj
    refine gx_iload_n C dX4_night_28 rfl ?_
    refine gx_iload_n C dX4_night_29 rfl ?_
    refine gx_icmp_ge (tgt := 58) C dX4_night_30 (by decide) (fun c => absurd c (nI_ge (by omega) (by omega))) (fun c_30 => ?_)
    refine gx_iload_n C dX4_night_33 rfl ?_
    refine gx_if_lt (tgt := 58) C dX4_night_34 (by decide) (fun c => absurd c (hb j (by omega))) (fun c_34 => ?_)
    refine gx_aload_n C dX4_night_37 rfl ?_
    refine gx_iload_n C dX4_night_38 rfl ?_
    refine gx_aload_n C dX4_night_39 rfl ?_
    refine gx_iload_n C dX4_night_40 rfl ?_
    refine gx_cVi (n := 1) (q0 := 0) C hK (has j (by omega)) mW_fst (bgV hT m619 m621 slX4_aside m7 m622) rfl rfl rfl (by decide +kernel) ⟨Nat.le_of_ble_eq_true rfl, Nat.le_of_ble_eq_true rfl⟩ rfl rfl rfl rfl (Nat.le_of_ble_eq_true rfl) (Nat.zero_le _) (Nat.zero_le _) dX4_night_41 ?_
    refine gx_cVv (n := 2) (q0 := 0) C hK (hmv j (by omega)) mW_fst (bgV hT m575 m577 slX4_moves m7 m578) rfl rfl rfl (by decide +kernel) ⟨Nat.le_of_ble_eq_true rfl, Nat.le_of_ble_eq_true rfl⟩ rfl rfl rfl rfl (Nat.le_of_ble_eq_true rfl) (Nat.zero_le _) (Nat.zero_le _) dX4_night_44 ?_
    refine gx_iincN (lv2 := [some _, some _, some _, some _]) C dX4_night_47 rfl (by decide) rfl ?_
    refine gx_aload_n C dX4_night_50 rfl ?_
    refine gx_cVi (n := 0) (q0 := 0) C hK (hwo (j + 1) (by omega)) mW_fst (bgV hT m615 m617 slX4_worst m7 m618) rfl rfl rfl (by decide +kernel) ⟨Nat.le_of_ble_eq_true rfl, Nat.le_of_ble_eq_true rfl⟩ rfl rfl rfl rfl (Nat.le_of_ble_eq_true rfl) (Nat.zero_le _) (Nat.zero_le _) dX4_night_51 ?_
    refine gx_istore_n (lv2 := [some _, some _, some _, some _]) C dX4_night_54 (by decide) rfl ?_
    refine gx_goto (tgt := 28) C dX4_night_55 (by decide) ?_
    exact ih (j + 1) (by omega)
set_option maxHeartbeats 4000000 in
set_option maxRecDepth 100000 in
theorem c_X4_night {l : Launch} {D : va_G} {cI cG cL : ClassId} {ad : Nat → Nat} {n t : Nat} {B : Int32} {v : Nat → Nat → Int32} {VS : Nat → Nat → Nat → Int32} {bS xS : Nat → Int32} {mo m0 : Nat} (hv : VS 0 = mu v 0 3 0) (hmo : mo ≤ 50) (hm : m0 ≤ mo) (hwo : ∀ j, j ≤ m0 → gx_M l yX4_worst wsX4_worst ({ frames := 3, cells := 0, slots := 0, locals := 75 }) D vwCl (gT cI cG cL) [.ref (ad 0)] (mW cI ad n t B (VS j)) (mW cI ad n t B (VS j)) (some (.int (bS j)))) (hb : ∀ j, j < m0 → ¬ bS j < 0) (has : ∀ j, j < m0 → gx_M l yX4_aside wsX4_aside ({ frames := 2, cells := 0, slots := 0, locals := 51 }) D vwCl (gT cI cG cL) [.ref (ad 0), .int (bS j)] (mW cI ad n t B (VS j)) (mW cI ad n t B (VS j)) (some (.int (xS j)))) (hmv : ∀ j, j < m0 → gx_M l yX4_moves wsX4_moves ({ frames := 2, cells := 0, slots := 0, locals := 45 }) D vwCl (gT cI cG cL) [.ref (ad 0), .int (bS j), .int (xS j)] (mW cI ad n t B (VS j)) (mW cI ad n t B (VS (j + 1))) none) (hen : m0 = mo ∨ bS m0 < 0) : gx_M l yX4_night wsX4_night ({ frames := 4, cells := 0, slots := 0, locals := 100 }) D vwCl (gT cI cG cL) [.ref (ad 0), .int (nI mo)] (mW cI ad n t B v) (mW cI ad n t B (VS m0)) (some (.int (nI m0))) := by
  refine gx_ofG (cc := cX4_night) (maxL := 4) (ret := (some .int)) [some (.ref (ad 0)), some (.int (nI mo)), none, none] (by decide) rfl rfl (Nat.le_of_ble_eq_true rfl) rfl ?_
  intro p e s m args below meth c C hRt hlocks hK
  have C : CallFix p m c cX4_night 4 s args (wsX4_night) RX4 := C
  have hT : ∀ w ∈ bigW, w ∈ wsX4_night := bgT
  refine gx_iload_n C dX4_night_0 rfl ?_
  refine gx_iconst (v := 0) C dX4_night_1 (by decide) ?_
  refine gx_bipush (v := 50) C dX4_night_2 (by decide) ?_
  refine gx_cSi (n := 3) C hK (c_X4_in (l := l) (D := D) (cI := cI) (cG := cG) (cL := cL) (x := nI mo) (a := 0) (b := 50)) (bgS hT m528 m529 m7 m530) rfl rfl rfl (by decide +kernel) ⟨Nat.le_of_ble_eq_true rfl, Nat.le_of_ble_eq_true rfl⟩ rfl rfl (Nat.le_of_ble_eq_true rfl) (Nat.zero_le _) (Nat.zero_le _) dX4_night_4 ?_
  refine gx_if_ne (tgt := 16) C dX4_night_7 (by decide) (fun c_7 => ?_) (fun c => absurd c (by rw [show yIn (nI mo) 0 50 = true from decide_eq_true ⟨nI_pos' (by omega), nI_le (b := 50) (by omega) (by decide)⟩]; decide))
  refine gx_aload_n C dX4_night_16 rfl ?_
  refine gx_iconst (v := 0) C dX4_night_17 (by decide) ?_
  refine mp_X4_thrown C hK hT m465 dX4_night_18 ?_
  refine gx_iconst (v := 0) C dX4_night_21 (by decide) ?_
  refine gx_istore_n (lv2 := [some _, some _, some _, none]) C dX4_night_22 (by decide) rfl ?_
  rw [← hv]
  refine gx_aload_n C dX4_night_23 rfl ?_
  refine gx_cVi (n := 0) (q0 := 0) C hK (hwo 0 (by omega)) mW_fst (bgV hT m615 m617 slX4_worst m7 m618) rfl rfl rfl (by decide +kernel) ⟨Nat.le_of_ble_eq_true rfl, Nat.le_of_ble_eq_true rfl⟩ rfl rfl rfl rfl (Nat.le_of_ble_eq_true rfl) (Nat.zero_le _) (Nat.zero_le _) dX4_night_24 ?_
  refine gx_istore_n (lv2 := [some _, some _, some _, some _]) C dX4_night_27 (by decide) rfl ?_
  exact lp_X4_night C hT hRt hlocks hK hv hmo hm hwo hb has hmv hen m0 0 (by omega)
set_option maxHeartbeats 4000000 in
set_option maxRecDepth 100000 in
theorem c_X4_night_bad {l : Launch} {D : va_G} {cI cG cL : ClassId} {ad : Nat → Nat} {n t : Nat} {B : Int32} {v : Nat → Nat → Int32} {x : Int32} (hF : yIn x 0 50 = false) : gx_M l yX4_night wsX4_night ({ frames := 1, cells := 0, slots := 0, locals := 22 }) D vwCl (gT cI cG cL) [.ref (ad 0), .int x] (mW cI ad n t B v) (mW cI ad n t B (mu v 0 3 1)) (some (.int 0)) := by
  refine gx_ofG (cc := cX4_night) (maxL := 4) (ret := (some .int)) [some (.ref (ad 0)), some (.int x), none, none] (by decide) rfl rfl (Nat.le_of_ble_eq_true rfl) rfl ?_
  intro p e s m args below meth c C hRt hlocks hK
  have C : CallFix p m c cX4_night 4 s args (wsX4_night) RX4 := C
  have hT : ∀ w ∈ bigW, w ∈ wsX4_night := bgT
  refine gx_iload_n C dX4_night_0 rfl ?_
  refine gx_iconst (v := 0) C dX4_night_1 (by decide) ?_
  refine gx_bipush (v := 50) C dX4_night_2 (by decide) ?_
  refine gx_cSi (n := 3) C hK (c_X4_in (l := l) (D := D) (cI := cI) (cG := cG) (cL := cL) (x := x) (a := 0) (b := 50)) (bgS hT m528 m529 m7 m530) rfl rfl rfl (by decide +kernel) ⟨Nat.le_of_ble_eq_true rfl, Nat.le_of_ble_eq_true rfl⟩ rfl rfl (Nat.le_of_ble_eq_true rfl) (Nat.zero_le _) (Nat.zero_le _) dX4_night_4 ?_
  refine gx_if_ne (tgt := 16) C dX4_night_7 (by decide) (fun c => absurd (bI_0.mpr hF) c) (fun c_7 => ?_)
  refine gx_aload_n C dX4_night_10 rfl ?_
  refine gx_iconst (v := 1) C dX4_night_11 (by decide) ?_
  refine gx_cVi (n := 1) (q0 := 0) C hK (c_X4_fails (l := l) (D := D) (cI := cI) (cG := cG) (cL := cL) (ad := ad) (n := n) (t := t) (B := B) (v := v) (x := 1)) mW_fst (bgV hT m531 m533 slX4_fails m7 m534) rfl rfl rfl (by decide +kernel) ⟨Nat.le_of_ble_eq_true rfl, Nat.le_of_ble_eq_true rfl⟩ rfl rfl rfl rfl (Nat.le_of_ble_eq_true rfl) (Nat.zero_le _) (Nat.zero_le _) dX4_night_12 ?_
  exact gx_iret C hRt hlocks dX4_night_15 rfl rfl

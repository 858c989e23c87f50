set_option maxHeartbeats 4000000 in
set_option maxRecDepth 100000 in
theorem c_X4_held {l : Launch} {D : va_G} {cI cG cL : ClassId} {x a : Int32}   : gx_M l yX4_held wsX4_held ({ frames := 0, cells := 0, slots := 0, locals := 0 }) D vwCl (gT cI cG cL) [.int x, .int a] [] [] (some (.int (mHeld x a))) := by
  refine gx_ofG (cc := cX4_held) (maxL := 2) (ret := (some .int)) [some (.int x), some (.int a)] (by decide) rfl rfl (Nat.le_of_ble_eq_true rfl) rfl ?_
  intro p e s m args below meth c C hRt hlocks hK
  have C : CallFix p m c cX4_held 2 s args (wsX4_held) RX4 := C
  have hT : ∀ w ∈ bigW, w ∈ wsX4_held := bgT
  refine gx_iload_n C dX4_held_0 rfl ?_
  refine gx_iconst (v := 1) C dX4_held_1 (by decide) ?_
  refine gx_icmp_ge (tgt := 9) C dX4_held_2 (by decide) (fun c_2 => ?_) (fun c_2 => ?_)
  · refine gx_iload_n C dX4_held_9 rfl ?_
    refine gx_iload_n C dX4_held_10 rfl ?_
    refine gx_icmp_le (tgt := 18) C dX4_held_11 (by decide) (fun c_11 => ?_) (fun c_11 => ?_)
    · refine gx_iload_n C dX4_held_18 rfl ?_
      exact gx_iret C hRt hlocks dX4_held_19 (by rw [mHeld, if_pos c_2, if_pos c_11]) rfl
    · refine gx_iload_n C dX4_held_14 rfl ?_
      refine gx_goto (tgt := 19) C dX4_held_15 (by decide) ?_
      exact gx_iret C hRt hlocks dX4_held_19 (by rw [mHeld, if_pos c_2, if_neg c_11]) rfl
  · refine gx_iconst (v := 1) C dX4_held_5 (by decide) ?_
    refine gx_goto (tgt := 19) C dX4_held_6 (by decide) ?_
    exact gx_iret C hRt hlocks dX4_held_19 (by rw [mHeld, if_neg c_2]) rfl
set_option maxHeartbeats 4000000 in
set_option maxRecDepth 100000 in
theorem c_X4_in {l : Launch} {D : va_G} {cI cG cL : ClassId} {x a b : Int32}   : gx_M l yX4_in wsX4_in ({ frames := 0, cells := 0, slots := 0, locals := 0 }) D vwCl (gT cI cG cL) [.int x, .int a, .int b] [] [] (some (.int (bI (yIn x a b)))) := by
  refine gx_ofG (cc := cX4_in) (maxL := 3) (ret := (some .boolean)) [some (.int x), some (.int a), some (.int b)] (by decide) rfl rfl (Nat.le_of_ble_eq_true rfl) rfl ?_
  intro p e s m args below meth c C hRt hlocks hK
  have C : CallFix p m c cX4_in 3 s args (wsX4_in) RX4 := C
  have hT : ∀ w ∈ bigW, w ∈ wsX4_in := bgT
  refine gx_iload_n C dX4_in_0 rfl ?_
  refine gx_iload_n C dX4_in_1 rfl ?_
  refine gx_icmp_lt (tgt := 14) C dX4_in_2 (by decide) (fun c_2 => ?_) (fun c_2 => ?_)
  · refine gx_iconst (v := 0) C dX4_in_14 (by decide) ?_
    exact gx_zret C hRt hlocks dX4_in_15 rfl (by first | exact bI_pt (decide_eq_true ⟨Int32.not_lt.mp c_2, Int32.not_lt.mp c_7⟩) | exact bI_pf (decide_eq_false (fun q => absurd c_2 (Int32.not_lt.mpr q.1))) | exact bI_pf (decide_eq_false (fun q => absurd c_7 (Int32.not_lt.mpr q.2)))) rfl
  · refine gx_iload_n C dX4_in_5 rfl ?_
    refine gx_iload_n C dX4_in_6 rfl ?_
    refine gx_icmp_gt (tgt := 14) C dX4_in_7 (by decide) (fun c_7 => ?_) (fun c_7 => ?_)
    · refine gx_iconst (v := 0) C dX4_in_14 (by decide) ?_
      exact gx_zret C hRt hlocks dX4_in_15 rfl (by first | exact bI_pt (decide_eq_true ⟨Int32.not_lt.mp c_2, Int32.not_lt.mp c_7⟩) | exact bI_pf (decide_eq_false (fun q => absurd c_2 (Int32.not_lt.mpr q.1))) | exact bI_pf (decide_eq_false (fun q => absurd c_7 (Int32.not_lt.mpr q.2)))) rfl
    · refine gx_iconst (v := 1) C dX4_in_10 (by decide) ?_
      refine gx_goto (tgt := 15) C dX4_in_11 (by decide) ?_
      exact gx_zret C hRt hlocks dX4_in_15 rfl (by first | exact bI_pt (decide_eq_true ⟨Int32.not_lt.mp c_2, Int32.not_lt.mp c_7⟩) | exact bI_pf (decide_eq_false (fun q => absurd c_2 (Int32.not_lt.mpr q.1))) | exact bI_pf (decide_eq_false (fun q => absurd c_7 (Int32.not_lt.mpr q.2)))) rfl
set_option maxHeartbeats 4000000 in
set_option maxRecDepth 100000 in
theorem c_X4_thrown {l : Launch} {D : va_G} {cI cG cL : ClassId} {ad : Nat → Nat} {n t : Nat} {B : Int32} {v : Nat → Nat → Int32}   : gx_M l yX4_thrown wsX4_thrown ({ frames := 0, cells := 0, slots := 0, locals := 0 }) D vwCl (gT cI cG cL) [.ref (ad 0)] (mW cI ad n t B v) (mW cI ad n t B v) (some (.int (v 0 3))) := by
  refine gx_ofG (cc := cX4_thrown) (maxL := 1) (ret := (some .int)) [some (.ref (ad 0))] (by decide) rfl rfl (Nat.le_of_ble_eq_true rfl) rfl ?_
  intro p e s m args below meth c C hRt hlocks hK
  have C : CallFix p m c cX4_thrown 1 s args (wsX4_thrown) RX4 := C
  have hT : ∀ w ∈ bigW, w ∈ wsX4_thrown := bgT
  refine gx_aload_n C dX4_thrown_0 rfl ?_
  refine mg_X4_thrown C hK hT m465 dX4_thrown_1 ?_
  exact gx_iret C hRt hlocks dX4_thrown_4 rfl rfl
set_option maxHeartbeats 4000000 in
set_option maxRecDepth 100000 in
theorem c_X4_fails {l : Launch} {D : va_G} {cI cG cL : ClassId} {ad : Nat → Nat} {n t : Nat} {B : Int32} {v : Nat → Nat → Int32} {x : Int32}  : gx_M l yX4_fails wsX4_fails ({ frames := 0, cells := 0, slots := 0, locals := 0 }) D vwCl (gT cI cG cL) [.ref (ad 0), .int x] (mW cI ad n t B v) (mW cI ad n t B (mu v 0 3 x)) (some (.int 0)) := by
  refine gx_ofG (cc := cX4_fails) (maxL := 2) (ret := (some .int)) [some (.ref (ad 0)), some (.int x)] (by decide) rfl rfl (Nat.le_of_ble_eq_true rfl) rfl ?_
  intro p e s m args below meth c C hRt hlocks hK
  have C : CallFix p m c cX4_fails 2 s args (wsX4_fails) RX4 := C
  have hT : ∀ w ∈ bigW, w ∈ wsX4_fails := bgT
  refine gx_aload_n C dX4_fails_0 rfl ?_
  refine gx_iload_n C dX4_fails_1 rfl ?_
  refine mp_X4_thrown C hK hT m465 dX4_fails_2 ?_
  refine gx_iconst (v := 0) C dX4_fails_5 (by decide) ?_
  exact gx_iret C hRt hlocks dX4_fails_6 rfl rfl
set_option maxHeartbeats 4000000 in
set_option maxRecDepth 100000 in
theorem c_X4_isBox {l : Launch} {D : va_G} {cI cG cL : ClassId} {ad : Nat → Nat} {n t : Nat} {B : Int32} {v : Nat → Nat → Int32} {x : Int32}  : gx_M l yX4_isBox wsX4_isBox ({ frames := 0, cells := 0, slots := 0, locals := 0 }) D vwCl (gT cI cG cL) [.ref (ad 0), .int x] (mW cI ad n t B v) (mW cI ad n t B v) (some (.int (bI (yHas v x)))) := by
  refine gx_ofG (cc := cX4_isBox) (maxL := 2) (ret := (some .boolean)) [some (.ref (ad 0)), some (.int x)] (by decide) rfl rfl (Nat.le_of_ble_eq_true rfl) rfl ?_
  intro p e s m args below meth c C hRt hlocks hK
  have C : CallFix p m c cX4_isBox 2 s args (wsX4_isBox) RX4 := C
  have hT : ∀ w ∈ bigW, w ∈ wsX4_isBox := bgT
  refine gx_iload_n C dX4_isBox_0 rfl ?_
  refine gx_if_lt (tgt := 16) C dX4_isBox_1 (by decide) (fun c_1 => ?_) (fun c_1 => ?_)
  · refine gx_iconst (v := 0) C dX4_isBox_16 (by decide) ?_
    exact gx_zret C hRt hlocks dX4_isBox_17 rfl (by first | exact bI_pt (decide_eq_true ⟨Int32.not_lt.mp c_1, Int32.not_le.mp c_9⟩) | exact bI_pf (decide_eq_false (fun q => absurd c_1 (Int32.not_lt.mpr q.1))) | exact bI_pf (decide_eq_false (fun q => absurd q.2 (Int32.not_lt.mpr c_9)))) rfl
  · refine gx_iload_n C dX4_isBox_4 rfl ?_
    refine gx_aload_n C dX4_isBox_5 rfl ?_
    refine mg_X4_boxes C hK hT m471 dX4_isBox_6 ?_
    refine gx_icmp_ge (tgt := 16) C dX4_isBox_9 (by decide) (fun c_9 => ?_) (fun c_9 => ?_)
    · refine gx_iconst (v := 0) C dX4_isBox_16 (by decide) ?_
      exact gx_zret C hRt hlocks dX4_isBox_17 rfl (by first | exact bI_pt (decide_eq_true ⟨Int32.not_lt.mp c_1, Int32.not_le.mp c_9⟩) | exact bI_pf (decide_eq_false (fun q => absurd c_1 (Int32.not_lt.mpr q.1))) | exact bI_pf (decide_eq_false (fun q => absurd q.2 (Int32.not_lt.mpr c_9)))) rfl
    · refine gx_iconst (v := 1) C dX4_isBox_12 (by decide) ?_
      refine gx_goto (tgt := 17) C dX4_isBox_13 (by decide) ?_
      exact gx_zret C hRt hlocks dX4_isBox_17 rfl (by first | exact bI_pt (decide_eq_true ⟨Int32.not_lt.mp c_1, Int32.not_le.mp c_9⟩) | exact bI_pf (decide_eq_false (fun q => absurd c_1 (Int32.not_lt.mpr q.1))) | exact bI_pf (decide_eq_false (fun q => absurd q.2 (Int32.not_lt.mpr c_9)))) rfl
set_option maxHeartbeats 4000000 in
set_option maxRecDepth 100000 in
theorem c_X4_isRow {l : Launch} {D : va_G} {cI cG cL : ClassId} {ad : Nat → Nat} {n t : Nat} {B : Int32} {v : Nat → Nat → Int32} {x : Int32}  : gx_M l yX4_isRow wsX4_isRow ({ frames := 0, cells := 0, slots := 0, locals := 0 }) D vwCl (gT cI cG cL) [.ref (ad 0), .int x] (mW cI ad n t B v) (mW cI ad n t B v) (some (.int (bI (yRow n x)))) := by
  refine gx_ofG (cc := cX4_isRow) (maxL := 2) (ret := (some .boolean)) [some (.ref (ad 0)), some (.int x)] (by decide) rfl rfl (Nat.le_of_ble_eq_true rfl) rfl ?_
  intro p e s m args below meth c C hRt hlocks hK
  have C : CallFix p m c cX4_isRow 2 s args (wsX4_isRow) RX4 := C
  have hT : ∀ w ∈ bigW, w ∈ wsX4_isRow := bgT
  refine gx_iload_n C dX4_isRow_0 rfl ?_
  refine gx_if_lt (tgt := 16) C dX4_isRow_1 (by decide) (fun c_1 => ?_) (fun c_1 => ?_)
  · refine gx_iconst (v := 0) C dX4_isRow_16 (by decide) ?_
    exact gx_zret C hRt hlocks dX4_isRow_17 rfl (by first | exact bI_pt (decide_eq_true ⟨Int32.not_lt.mp c_1, Int32.not_le.mp c_9⟩) | exact bI_pf (decide_eq_false (fun q => absurd c_1 (Int32.not_lt.mpr q.1))) | exact bI_pf (decide_eq_false (fun q => absurd q.2 (Int32.not_lt.mpr c_9)))) rfl
  · refine gx_iload_n C dX4_isRow_4 rfl ?_
    refine gx_aload_n C dX4_isRow_5 rfl ?_
    refine mg_X4_rows C hK hT m466 dX4_isRow_6 ?_
    refine gx_icmp_ge (tgt := 16) C dX4_isRow_9 (by decide) (fun c_9 => ?_) (fun c_9 => ?_)
    · refine gx_iconst (v := 0) C dX4_isRow_16 (by decide) ?_
      exact gx_zret C hRt hlocks dX4_isRow_17 rfl (by first | exact bI_pt (decide_eq_true ⟨Int32.not_lt.mp c_1, Int32.not_le.mp c_9⟩) | exact bI_pf (decide_eq_false (fun q => absurd c_1 (Int32.not_lt.mpr q.1))) | exact bI_pf (decide_eq_false (fun q => absurd q.2 (Int32.not_lt.mpr c_9)))) rfl
    · refine gx_iconst (v := 1) C dX4_isRow_12 (by decide) ?_
      refine gx_goto (tgt := 17) C dX4_isRow_13 (by decide) ?_
      exact gx_zret C hRt hlocks dX4_isRow_17 rfl (by first | exact bI_pt (decide_eq_true ⟨Int32.not_lt.mp c_1, Int32.not_le.mp c_9⟩) | exact bI_pf (decide_eq_false (fun q => absurd c_1 (Int32.not_lt.mpr q.1))) | exact bI_pf (decide_eq_false (fun q => absurd q.2 (Int32.not_lt.mpr c_9)))) rfl
set_option maxHeartbeats 4000000 in
set_option maxRecDepth 100000 in
theorem lp_X4_heightOf {l : Launch} {D : va_G} {cI cG cL : ClassId} {ad : Nat → Nat} {n t : Nat} {B : Int32} {v : Nat → Nat → Int32} {a : Int32} {T : Nat} {p : Program} {e : Env} {s : State} {m : MethodId} {args : Array Value} {below : List Frame} {meth : Method} {c : Code} (C : CallFix p m c cX4_heightOf 4 s args wsX4_heightOf RX4) (hT : ∀ w ∈ bigW, w ∈ wsX4_heightOf) (hRt : meth.sig.returnType = (some .int)) (hlocks : meth.locks = false) (hK : va_K D vwCl (gT cI cG cL) s) (hT6 : T ≤ 60) (e0 : v 0 0 = nI T)  : ∀ (d j : Nat) (x : Int32), j + d = T → x = nI (mHt v a j) → gx_G p l e (headSpec wsX4_heightOf ({ frames := 0, cells := 0, slots := 0, locals := 0 })).room s m args below meth c D vwCl (gx_in (mW cI ad n t B v)) 4 0 0 (gx_Qm D vwCl below args s (mW cI ad n t B v) (mW cI ad n t B v) (some (.int (nI (mHt v a T))))) (mW cI ad n t B v) 4 [some (.ref (ad 0)), some (.int a), some (.int x), some (.int (nI j))] [] := by
  intro d
  induction d with
  | zero =>
    intro j x hj hx
    refine gx_iload_n C dX4_heightOf_4 rfl ?_
    refine gx_aload_n C dX4_heightOf_5 rfl ?_
    refine mg_X4_boxes C hK hT m471 dX4_heightOf_6 ?_
    rw [e0]
    refine gx_icmp_ge (tgt := 36) C dX4_heightOf_9 (by decide) (fun c_9 => ?_) (fun c => absurd (nI_le (by omega) (by omega)) c)
    refine gx_iload_n C dX4_heightOf_36 rfl ?_
    exact gx_iret C hRt hlocks dX4_heightOf_37 (by rw [hx, show j = T by omega]) rfl
  | succ d ih =>
    intro j x hj hx
    refine gx_iload_n C dX4_heightOf_4 rfl ?_
    refine gx_aload_n C dX4_heightOf_5 rfl ?_
    refine mg_X4_boxes C hK hT m471 dX4_heightOf_6 ?_
    rw [e0]
    refine gx_icmp_ge (tgt := 36) C dX4_heightOf_9 (by decide) (fun c => absurd c (nI_ge (by omega) (by omega))) (fun c_9 => ?_)
    refine gx_iload_n C dX4_heightOf_12 rfl ?_
    refine gx_aload_n C dX4_heightOf_13 rfl ?_
    refine mg_X4_rowOf C hK hT m477 dX4_heightOf_14 ?_
    refine gx_iload_n C dX4_heightOf_17 rfl ?_
    refine ml_7 C hK rfl (by omega) dX4_heightOf_18 ?_
    refine gx_iload_n C dX4_heightOf_19 rfl ?_
    refine gx_icmp_ne (tgt := 27) C dX4_heightOf_20 (by decide) (fun c_20 => ?_) (fun c_20 => ?_)
    · refine gx_iconst (v := 0) C dX4_heightOf_27 (by decide) ?_
      refine gx_iadd C dX4_heightOf_28 ?_
      refine gx_istore_n (lv2 := [some _, some _, some _, some _]) C dX4_heightOf_29 (by decide) rfl ?_
      refine gx_iincN (lv2 := [some _, some _, some _, some _]) C dX4_heightOf_30 rfl (by decide) rfl ?_
      refine gx_goto (tgt := 4) C dX4_heightOf_33 (by decide) ?_
      exact ih (j + 1) _ (by omega) (m_p0 hx (decide_eq_false c_20))
    · refine gx_iconst (v := 1) C dX4_heightOf_23 (by decide) ?_
      refine gx_goto (tgt := 28) C dX4_heightOf_24 (by decide) ?_
      refine gx_iadd C dX4_heightOf_28 ?_
      refine gx_istore_n (lv2 := [some _, some _, some _, some _]) C dX4_heightOf_29 (by decide) rfl ?_
      refine gx_iincN (lv2 := [some _, some _, some _, some _]) C dX4_heightOf_30 rfl (by decide) rfl ?_
      refine gx_goto (tgt := 4) C dX4_heightOf_33 (by decide) ?_
      exact ih (j + 1) _ (by omega) (m_p1 hx (decide_eq_true c_20))
set_option maxHeartbeats 4000000 in
set_option maxRecDepth 100000 in
theorem c_X4_heightOf {l : Launch} {D : va_G} {cI cG cL : ClassId} {ad : Nat → Nat} {n t : Nat} {B : Int32} {v : Nat → Nat → Int32} {a : Int32} {T : Nat} (hT6 : T ≤ 60) (e0 : v 0 0 = nI T) : gx_M l yX4_heightOf wsX4_heightOf ({ frames := 0, cells := 0, slots := 0, locals := 0 }) D vwCl (gT cI cG cL) [.ref (ad 0), .int a] (mW cI ad n t B v) (mW cI ad n t B v) (some (.int (nI (mHt v a T)))) := by
  refine gx_ofG (cc := cX4_heightOf) (maxL := 4) (ret := (some .int)) [some (.ref (ad 0)), some (.int a), none, none] (by decide) rfl rfl (Nat.le_of_ble_eq_true rfl) rfl ?_
  intro p e s m args below meth c C hRt hlocks hK
  have C : CallFix p m c cX4_heightOf 4 s args (wsX4_heightOf) RX4 := C
  have hT : ∀ w ∈ bigW, w ∈ wsX4_heightOf := bgT
  refine gx_iconst (v := 0) C dX4_heightOf_0 (by decide) ?_
  refine gx_istore_n (lv2 := [some _, some _, some _, none]) C dX4_heightOf_1 (by decide) rfl ?_
  refine gx_iconst (v := 0) C dX4_heightOf_2 (by decide) ?_
  refine gx_istore_n (lv2 := [some _, some _, some _, some _]) C dX4_heightOf_3 (by decide) rfl ?_
  exact lp_X4_heightOf C hT hRt hlocks hK hT6 e0 (T) 0 _ (by omega) rfl
set_option maxHeartbeats 4000000 in
set_option maxRecDepth 100000 in
theorem lp_X4_weightOf {l : Launch} {D : va_G} {cI cG cL : ClassId} {ad : Nat → Nat} {n t : Nat} {B : Int32} {v : Nat → Nat → Int32} {a : Int32} {T : Nat} {p : Program} {e : Env} {s : State} {m : MethodId} {args : Array Value} {below : List Frame} {meth : Method} {c : Code} (C : CallFix p m c cX4_weightOf 4 s args wsX4_weightOf RX4) (hT : ∀ w ∈ bigW, w ∈ wsX4_weightOf) (hRt : meth.sig.returnType = (some .int)) (hlocks : meth.locks = false) (hK : va_K D vwCl (gT cI cG cL) s) (hT6 : T ≤ 60) (e0 : v 0 0 = nI T)  : ∀ (d j : Nat) (x : Int32), j + d = T → x = mWt v a j → gx_G p l e (headSpec wsX4_weightOf ({ frames := 0, cells := 0, slots := 0, locals := 0 })).room s m args below meth c D vwCl (gx_in (mW cI ad n t B v)) 4 0 0 (gx_Qm D vwCl below args s (mW cI ad n t B v) (mW cI ad n t B v) (some (.int (mWt v a T)))) (mW cI ad n t B v) 4 [some (.ref (ad 0)), some (.int a), some (.int x), some (.int (nI j))] [] := by
  intro d
  induction d with
  | zero =>
    intro j x hj hx
    refine gx_iload_n C dX4_weightOf_4 rfl ?_
    refine gx_aload_n C dX4_weightOf_5 rfl ?_
    refine mg_X4_boxes C hK hT m471 dX4_weightOf_6 ?_
    rw [e0]
    refine gx_icmp_ge (tgt := 41) C dX4_weightOf_9 (by decide) (fun c_9 => ?_) (fun c => absurd (nI_le (by omega) (by omega)) c)
    refine gx_iload_n C dX4_weightOf_41 rfl ?_
    exact gx_iret C hRt hlocks dX4_weightOf_42 (by rw [hx, show j = T by omega]) rfl
  | succ d ih =>
    intro j x hj hx
    refine gx_iload_n C dX4_weightOf_4 rfl ?_
    refine gx_aload_n C dX4_weightOf_5 rfl ?_
    refine mg_X4_boxes C hK hT m471 dX4_weightOf_6 ?_
    rw [e0]
    refine gx_icmp_ge (tgt := 41) C dX4_weightOf_9 (by decide) (fun c => absurd c (nI_ge (by omega) (by omega))) (fun c_9 => ?_)
    refine gx_iload_n C dX4_weightOf_12 rfl ?_
    refine gx_aload_n C dX4_weightOf_13 rfl ?_
    refine mg_X4_rowOf C hK hT m477 dX4_weightOf_14 ?_
    refine gx_iload_n C dX4_weightOf_17 rfl ?_
    refine ml_7 C hK rfl (by omega) dX4_weightOf_18 ?_
    refine gx_iload_n C dX4_weightOf_19 rfl ?_
    refine gx_icmp_ne (tgt := 32) C dX4_weightOf_20 (by decide) (fun c_20 => ?_) (fun c_20 => ?_)
    · refine gx_iconst (v := 0) C dX4_weightOf_32 (by decide) ?_
      refine gx_iadd C dX4_weightOf_33 ?_
      refine gx_istore_n (lv2 := [some _, some _, some _, some _]) C dX4_weightOf_34 (by decide) rfl ?_
      refine gx_iincN (lv2 := [some _, some _, some _, some _]) C dX4_weightOf_35 rfl (by decide) rfl ?_
      refine gx_goto (tgt := 4) C dX4_weightOf_38 (by decide) ?_
      exact ih (j + 1) _ (by omega) (by rw [hx, mWt, mWt, ySum, if_neg c_20])
    · refine gx_aload_n C dX4_weightOf_23 rfl ?_
      refine mg_X4_weight C hK hT m473 dX4_weightOf_24 ?_
      refine gx_iload_n C dX4_weightOf_27 rfl ?_
      refine ml_2 C hK rfl (by omega) dX4_weightOf_28 ?_
      refine gx_goto (tgt := 33) C dX4_weightOf_29 (by decide) ?_
      refine gx_iadd C dX4_weightOf_33 ?_
      refine gx_istore_n (lv2 := [some _, some _, some _, some _]) C dX4_weightOf_34 (by decide) rfl ?_
      refine gx_iincN (lv2 := [some _, some _, some _, some _]) C dX4_weightOf_35 rfl (by decide) rfl ?_
      refine gx_goto (tgt := 4) C dX4_weightOf_38 (by decide) ?_
      exact ih (j + 1) _ (by omega) (by rw [hx, mWt, mWt, ySum, if_pos c_20])
set_option maxHeartbeats 4000000 in
set_option maxRecDepth 100000 in
theorem c_X4_weightOf {l : Launch} {D : va_G} {cI cG cL : ClassId} {ad : Nat → Nat} {n t : Nat} {B : Int32} {v : Nat → Nat → Int32} {a : Int32} {T : Nat} (hT6 : T ≤ 60) (e0 : v 0 0 = nI T) : gx_M l yX4_weightOf wsX4_weightOf ({ frames := 0, cells := 0, slots := 0, locals := 0 }) D vwCl (gT cI cG cL) [.ref (ad 0), .int a] (mW cI ad n t B v) (mW cI ad n t B v) (some (.int (mWt v a T))) := by
  refine gx_ofG (cc := cX4_weightOf) (maxL := 4) (ret := (some .int)) [some (.ref (ad 0)), some (.int a), none, none] (by decide) rfl rfl (Nat.le_of_ble_eq_true rfl) rfl ?_
  intro p e s m args below meth c C hRt hlocks hK
  have C : CallFix p m c cX4_weightOf 4 s args (wsX4_weightOf) RX4 := C
  have hT : ∀ w ∈ bigW, w ∈ wsX4_weightOf := bgT
  refine gx_iconst (v := 0) C dX4_weightOf_0 (by decide) ?_
  refine gx_istore_n (lv2 := [some _, some _, some _, none]) C dX4_weightOf_1 (by decide) rfl ?_
  refine gx_iconst (v := 0) C dX4_weightOf_2 (by decide) ?_
  refine gx_istore_n (lv2 := [some _, some _, some _, some _]) C dX4_weightOf_3 (by decide) rfl ?_
  exact lp_X4_weightOf C hT hRt hlocks hK hT6 e0 (T) 0 _ (by omega) rfl
set_option maxHeartbeats 4000000 in
set_option maxRecDepth 100000 in
theorem lp_X4_boxAt {l : Launch} {D : va_G} {cI cG cL : ClassId} {ad : Nat → Nat} {n t : Nat} {B : Int32} {v : Nat → Nat → Int32} {a y : Int32} {T : Nat} {p : Program} {e : Env} {s : State} {m : MethodId} {args : Array Value} {below : List Frame} {meth : Method} {c : Code} (C : CallFix p m c cX4_boxAt 5 s args wsX4_boxAt RX4) (hT : ∀ w ∈ bigW, w ∈ wsX4_boxAt) (hRt : meth.sig.returnType = (some .int)) (hlocks : meth.locks = false) (hK : va_K D vwCl (gT cI cG cL) s) (hT6 : T ≤ 60) (e0 : v 0 0 = nI T)  : ∀ (d j : Nat) (x : Int32), j + d = T → x = mAt v a y j → gx_G p l e (headSpec wsX4_boxAt ({ frames := 0, cells := 0, slots := 0, locals := 0 })).room s m args below meth c D vwCl (gx_in (mW cI ad n t B v)) 5 0 0 (gx_Qm D vwCl below args s (mW cI ad n t B v) (mW cI ad n t B v) (some (.int (mAt v a y T)))) (mW cI ad n t B v) 5 [some (.ref (ad 0)), some (.int a), some (.int y), some (.int x), some (.int (nI j))] [] := by
  intro d
  induction d with
  | zero =>
    intro j x hj hx
    refine gx_iload C dX4_boxAt_5 rfl ?_
    refine gx_aload_n C dX4_boxAt_7 rfl ?_
    refine mg_X4_boxes C hK hT m471 dX4_boxAt_8 ?_
    rw [e0]
    refine gx_icmp_ge (tgt := 49) C dX4_boxAt_11 (by decide) (fun c_11 => ?_) (fun c => absurd (nI_le (by omega) (by omega)) c)
    refine gx_iload_n C dX4_boxAt_49 rfl ?_
    exact gx_iret C hRt hlocks dX4_boxAt_50 (by rw [hx, show j = T by omega]) rfl
  | succ d ih =>
    intro j x hj hx
    refine gx_iload C dX4_boxAt_5 rfl ?_
    refine gx_aload_n C dX4_boxAt_7 rfl ?_
    refine mg_X4_boxes C hK hT m471 dX4_boxAt_8 ?_
    rw [e0]
    refine gx_icmp_ge (tgt := 49) C dX4_boxAt_11 (by decide) (fun c => absurd c (nI_ge (by omega) (by omega))) (fun c_11 => ?_)
    refine gx_aload_n C dX4_boxAt_14 rfl ?_
    refine mg_X4_rowOf C hK hT m477 dX4_boxAt_15 ?_
    refine gx_iload C dX4_boxAt_18 rfl ?_
    refine ml_7 C hK rfl (by omega) dX4_boxAt_20 ?_
    refine gx_iload_n C dX4_boxAt_21 rfl ?_
    refine gx_icmp_ne (tgt := 41) C dX4_boxAt_22 (by decide) (fun c_22 => ?_) (fun c_22 => ?_)
    · refine gx_iload_n C dX4_boxAt_41 rfl ?_
      refine gx_istore_n (lv2 := [some _, some _, some _, some _, some _]) C dX4_boxAt_42 (by decide) rfl ?_
      refine gx_iincN (lv2 := [some _, some _, some _, some _, some _]) C dX4_boxAt_43 rfl (by decide) rfl ?_
      refine gx_goto (tgt := 5) C dX4_boxAt_46 (by decide) ?_
      exact ih (j + 1) _ (by omega) (by rw [mAt, if_neg (fun q => c_22 q.1)]; exact hx)
    · refine gx_aload_n C dX4_boxAt_25 rfl ?_
      refine mg_X4_tierOf C hK hT m478 dX4_boxAt_26 ?_
      refine gx_iload C dX4_boxAt_29 rfl ?_
      refine ml_8 C hK rfl (by omega) dX4_boxAt_31 ?_
      refine gx_iload_n C dX4_boxAt_32 rfl ?_
      refine gx_icmp_ne (tgt := 41) C dX4_boxAt_33 (by decide) (fun c_33 => ?_) (fun c_33 => ?_)
      · refine gx_iload_n C dX4_boxAt_41 rfl ?_
        refine gx_istore_n (lv2 := [some _, some _, some _, some _, some _]) C dX4_boxAt_42 (by decide) rfl ?_
        refine gx_iincN (lv2 := [some _, some _, some _, some _, some _]) C dX4_boxAt_43 rfl (by decide) rfl ?_
        refine gx_goto (tgt := 5) C dX4_boxAt_46 (by decide) ?_
        exact ih (j + 1) _ (by omega) (by rw [mAt, if_neg (fun q => c_33 q.2)]; exact hx)
      · refine gx_iload C dX4_boxAt_36 rfl ?_
        refine gx_goto (tgt := 42) C dX4_boxAt_38 (by decide) ?_
        refine gx_istore_n (lv2 := [some _, some _, some _, some _, some _]) C dX4_boxAt_42 (by decide) rfl ?_
        refine gx_iincN (lv2 := [some _, some _, some _, some _, some _]) C dX4_boxAt_43 rfl (by decide) rfl ?_
        refine gx_goto (tgt := 5) C dX4_boxAt_46 (by decide) ?_
        exact ih (j + 1) _ (by omega) (by rw [mAt, if_pos ⟨c_22, c_33⟩])
set_option maxHeartbeats 4000000 in
set_option maxRecDepth 100000 in
theorem c_X4_boxAt {l : Launch} {D : va_G} {cI cG cL : ClassId} {ad : Nat → Nat} {n t : Nat} {B : Int32} {v : Nat → Nat → Int32} {a y : Int32} {T : Nat} (hT6 : T ≤ 60) (e0 : v 0 0 = nI T) : gx_M l yX4_boxAt wsX4_boxAt ({ frames := 0, cells := 0, slots := 0, locals := 0 }) D vwCl (gT cI cG cL) [.ref (ad 0), .int a, .int y] (mW cI ad n t B v) (mW cI ad n t B v) (some (.int (mAt v a y T))) := by
  refine gx_ofG (cc := cX4_boxAt) (maxL := 5) (ret := (some .int)) [some (.ref (ad 0)), some (.int a), some (.int y), none, none] (by decide) rfl rfl (Nat.le_of_ble_eq_true rfl) rfl ?_
  intro p e s m args below meth c C hRt hlocks hK
  have C : CallFix p m c cX4_boxAt 5 s args (wsX4_boxAt) RX4 := C
  have hT : ∀ w ∈ bigW, w ∈ wsX4_boxAt := bgT
  refine gx_iconst (v := (-1)) C dX4_boxAt_0 (by decide) ?_
  refine gx_istore_n (lv2 := [some _, some _, some _, some _, none]) C dX4_boxAt_1 (by decide) rfl ?_
  refine gx_iconst (v := 0) C dX4_boxAt_2 (by decide) ?_
  refine gx_istore (lv2 := [some _, some _, some _, some _, some _]) C dX4_boxAt_3 (by decide) rfl ?_
  exact lp_X4_boxAt C hT hRt hlocks hK hT6 e0 (T) 0 _ (by omega) rfl
set_option maxHeartbeats 4000000 in
set_option maxRecDepth 100000 in
theorem c_X4_isTop {l : Launch} {D : va_G} {cI cG cL : ClassId} {ad : Nat → Nat} {n t : Nat} {B : Int32} {v : Nat → Nat → Int32} {b T : Nat} (hT6 : T ≤ 60) (e0 : v 0 0 = nI T) (hb : b < 60) : gx_M l yX4_isTop wsX4_isTop ({ frames := 1, cells := 0, slots := 0, locals := 23 }) D vwCl (gT cI cG cL) [.ref (ad 0), .int (nI b)] (mW cI ad n t B v) (mW cI ad n t B v) (some (.int (bI (mTop v T b)))) := by
  refine gx_ofG (cc := cX4_isTop) (maxL := 2) (ret := (some .boolean)) [some (.ref (ad 0)), some (.int (nI b))] (by decide) rfl rfl (Nat.le_of_ble_eq_true rfl) rfl ?_
  intro p e s m args below meth c C hRt hlocks hK
  have C : CallFix p m c cX4_isTop 2 s args (wsX4_isTop) RX4 := C
  have hT : ∀ w ∈ bigW, w ∈ wsX4_isTop := bgT
  refine gx_aload_n C dX4_isTop_0 rfl ?_
  refine mg_X4_rowOf C hK hT m477 dX4_isTop_1 ?_
  refine gx_iload_n C dX4_isTop_4 rfl ?_
  refine ml_7 C hK rfl (by omega) dX4_isTop_5 ?_
  refine gx_if_lt (tgt := 34) C dX4_isTop_6 (by decide) (fun c_6 => ?_) (fun c_6 => ?_)
  · refine gx_iconst (v := 0) C dX4_isTop_34 (by decide) ?_
    exact gx_zret C hRt hlocks dX4_isTop_35 rfl (by first | exact bI_pt (decide_eq_true ⟨c_6, c_27⟩) | exact bI_pf (decide_eq_false (fun q => q.1 c_6)) | exact bI_pf (decide_eq_false (fun q => c_27 q.2))) rfl
  · refine gx_aload_n C dX4_isTop_9 rfl ?_
    refine mg_X4_tierOf C hK hT m478 dX4_isTop_10 ?_
    refine gx_iload_n C dX4_isTop_13 rfl ?_
    refine ml_8 C hK rfl (by omega) dX4_isTop_14 ?_
    refine gx_aload_n C dX4_isTop_15 rfl ?_
    refine gx_aload_n C dX4_isTop_16 rfl ?_
    refine mg_X4_rowOf C hK hT m477 dX4_isTop_17 ?_
    refine gx_iload_n C dX4_isTop_20 rfl ?_
    refine ml_7 C hK rfl (by omega) dX4_isTop_21 ?_
    refine gx_cVi (n := 1) (q0 := 0) C hK (c_X4_heightOf (l := l) (D := D) (cI := cI) (cG := cG) (cL := cL) (ad := ad) (n := n) (t := t) (B := B) (v := v) (a := v 7 b) hT6 e0) mW_fst (bgV hT m543 m545 slX4_heightOf m7 m546) rfl rfl rfl (by decide +kernel) ⟨Nat.le_of_ble_eq_true rfl, Nat.le_of_ble_eq_true rfl⟩ rfl rfl rfl rfl (Nat.le_of_ble_eq_true rfl) (Nat.zero_le _) (Nat.zero_le _) dX4_isTop_22 ?_
    refine gx_iconst (v := 1) C dX4_isTop_25 (by decide) ?_
    refine gx_isub C dX4_isTop_26 ?_
    refine gx_icmp_ne (tgt := 34) C dX4_isTop_27 (by decide) (fun c_27 => ?_) (fun c_27 => ?_)
    · refine gx_iconst (v := 0) C dX4_isTop_34 (by decide) ?_
      exact gx_zret C hRt hlocks dX4_isTop_35 rfl (by first | exact bI_pt (decide_eq_true ⟨c_6, c_27⟩) | exact bI_pf (decide_eq_false (fun q => q.1 c_6)) | exact bI_pf (decide_eq_false (fun q => c_27 q.2))) rfl
    · refine gx_iconst (v := 1) C dX4_isTop_30 (by decide) ?_
      refine gx_goto (tgt := 35) C dX4_isTop_31 (by decide) ?_
      exact gx_zret C hRt hlocks dX4_isTop_35 rfl (by first | exact bI_pt (decide_eq_true ⟨c_6, c_27⟩) | exact bI_pf (decide_eq_false (fun q => q.1 c_6)) | exact bI_pf (decide_eq_false (fun q => c_27 q.2))) rfl
set_option maxHeartbeats 4000000 in
set_option maxRecDepth 100000 in
theorem lp_X4_hasOtherSize {l : Launch} {D : va_G} {cI cG cL : ClassId} {ad : Nat → Nat} {n t : Nat} {B : Int32} {v : Nat → Nat → Int32} {a : Int32} {b T : Nat} {p : Program} {e : Env} {s : State} {m : MethodId} {args : Array Value} {below : List Frame} {meth : Method} {c : Code} (C : CallFix p m c cX4_hasOtherSize 5 s args wsX4_hasOtherSize RX4) (hT : ∀ w ∈ bigW, w ∈ wsX4_hasOtherSize) (hRt : meth.sig.returnType = (some .boolean)) (hlocks : meth.locks = false) (hK : va_K D vwCl (gT cI cG cL) s) (hT6 : T ≤ 60) (e0 : v 0 0 = nI T) (hb : b < 60)  : ∀ (d j : Nat) (x : Int32), j + d = T → x = bI (yAny (fun k => decide (v 7 k = a ∧ ¬ v 1 k = v 1 b)) j) → gx_G p l e (headSpec wsX4_hasOtherSize ({ frames := 0, cells := 0, slots := 0, locals := 0 })).room s m args below meth c D vwCl (gx_in (mW cI ad n t B v)) 5 0 0 (gx_Qm D vwCl below args s (mW cI ad n t B v) (mW cI ad n t B v) (some (.int (bI (mOS v b a T))))) (mW cI ad n t B v) 5 [some (.ref (ad 0)), some (.int (nI b)), some (.int a), some (.int x), some (.int (nI j))] [] := by
  intro d
  induction d with
  | zero =>
    intro j x hj hx
    refine gx_iload C dX4_hasOtherSize_5 rfl ?_
    refine gx_aload_n C dX4_hasOtherSize_7 rfl ?_
    refine mg_X4_boxes C hK hT m471 dX4_hasOtherSize_8 ?_
    rw [e0]
    refine gx_icmp_ge (tgt := 57) C dX4_hasOtherSize_11 (by decide) (fun c_11 => ?_) (fun c => absurd (nI_le (by omega) (by omega)) c)
    refine gx_iload_n C dX4_hasOtherSize_57 rfl ?_
    exact gx_zret C hRt hlocks dX4_hasOtherSize_58 (by rw [hx]; exact m_nz) (by rw [hx, show j = T by omega]; rfl) rfl
  | succ d ih =>
    intro j x hj hx
    refine gx_iload C dX4_hasOtherSize_5 rfl ?_
    refine gx_aload_n C dX4_hasOtherSize_7 rfl ?_
    refine mg_X4_boxes C hK hT m471 dX4_hasOtherSize_8 ?_
    rw [e0]
    refine gx_icmp_ge (tgt := 57) C dX4_hasOtherSize_11 (by decide) (fun c => absurd c (nI_ge (by omega) (by omega))) (fun c_11 => ?_)
    refine gx_iload_n C dX4_hasOtherSize_14 rfl ?_
    refine gx_if_ne (tgt := 45) C dX4_hasOtherSize_15 (by decide) (fun c_15 => ?_) (fun c_15 => ?_)
    · refine gx_iconst (v := 1) C dX4_hasOtherSize_45 (by decide) ?_
      refine gx_goto (tgt := 50) C dX4_hasOtherSize_46 (by decide) ?_
      refine gx_istore_n (lv2 := [some _, some _, some _, some _, some _]) C dX4_hasOtherSize_50 (by decide) rfl ?_
      refine gx_iincN (lv2 := [some _, some _, some _, some _, some _]) C dX4_hasOtherSize_51 rfl (by decide) rfl ?_
      refine gx_goto (tgt := 5) C dX4_hasOtherSize_54 (by decide) ?_
      exact ih (j + 1) _ (by omega) (m_o1 hx c_15)
    · refine gx_aload_n C dX4_hasOtherSize_18 rfl ?_
      refine mg_X4_rowOf C hK hT m477 dX4_hasOtherSize_19 ?_
      refine gx_iload C dX4_hasOtherSize_22 rfl ?_
      refine ml_7 C hK rfl (by omega) dX4_hasOtherSize_24 ?_
      refine gx_iload_n C dX4_hasOtherSize_25 rfl ?_
      refine gx_icmp_ne (tgt := 49) C dX4_hasOtherSize_26 (by decide) (fun c_26 => ?_) (fun c_26 => ?_)
      · refine gx_iconst (v := 0) C dX4_hasOtherSize_49 (by decide) ?_
        refine gx_istore_n (lv2 := [some _, some _, some _, some _, some _]) C dX4_hasOtherSize_50 (by decide) rfl ?_
        refine gx_iincN (lv2 := [some _, some _, some _, some _, some _]) C dX4_hasOtherSize_51 rfl (by decide) rfl ?_
        refine gx_goto (tgt := 5) C dX4_hasOtherSize_54 (by decide) ?_
        exact ih (j + 1) _ (by omega) (m_o0 hx c_15 (decide_eq_false (fun q => c_26 q.1)))
      · refine gx_aload_n C dX4_hasOtherSize_29 rfl ?_
        refine mg_X4_size C hK hT m472 dX4_hasOtherSize_30 ?_
        refine gx_iload C dX4_hasOtherSize_33 rfl ?_
        refine ml_1 C hK rfl (by omega) dX4_hasOtherSize_35 ?_
        refine gx_aload_n C dX4_hasOtherSize_36 rfl ?_
        refine mg_X4_size C hK hT m472 dX4_hasOtherSize_37 ?_
        refine gx_iload_n C dX4_hasOtherSize_40 rfl ?_
        refine ml_1 C hK rfl (by omega) dX4_hasOtherSize_41 ?_
        refine gx_icmp_eq (tgt := 49) C dX4_hasOtherSize_42 (by decide) (fun c_42 => ?_) (fun c_42 => ?_)
        · refine gx_iconst (v := 0) C dX4_hasOtherSize_49 (by decide) ?_
          refine gx_istore_n (lv2 := [some _, some _, some _, some _, some _]) C dX4_hasOtherSize_50 (by decide) rfl ?_
          refine gx_iincN (lv2 := [some _, some _, some _, some _, some _]) C dX4_hasOtherSize_51 rfl (by decide) rfl ?_
          refine gx_goto (tgt := 5) C dX4_hasOtherSize_54 (by decide) ?_
          exact ih (j + 1) _ (by omega) (m_o0 hx c_15 (decide_eq_false (fun q => q.2 c_42)))
        · refine gx_iconst (v := 1) C dX4_hasOtherSize_45 (by decide) ?_
          refine gx_goto (tgt := 50) C dX4_hasOtherSize_46 (by decide) ?_
          refine gx_istore_n (lv2 := [some _, some _, some _, some _, some _]) C dX4_hasOtherSize_50 (by decide) rfl ?_
          refine gx_iincN (lv2 := [some _, some _, some _, some _, some _]) C dX4_hasOtherSize_51 rfl (by decide) rfl ?_
          refine gx_goto (tgt := 5) C dX4_hasOtherSize_54 (by decide) ?_
          exact ih (j + 1) _ (by omega) (m_o2 (decide_eq_true ⟨c_26, c_42⟩))
set_option maxHeartbeats 4000000 in
set_option maxRecDepth 100000 in
theorem c_X4_hasOtherSize {l : Launch} {D : va_G} {cI cG cL : ClassId} {ad : Nat → Nat} {n t : Nat} {B : Int32} {v : Nat → Nat → Int32} {a : Int32} {b T : Nat} (hT6 : T ≤ 60) (e0 : v 0 0 = nI T) (hb : b < 60) : gx_M l yX4_hasOtherSize wsX4_hasOtherSize ({ frames := 0, cells := 0, slots := 0, locals := 0 }) D vwCl (gT cI cG cL) [.ref (ad 0), .int (nI b), .int a] (mW cI ad n t B v) (mW cI ad n t B v) (some (.int (bI (mOS v b a T)))) := by
  refine gx_ofG (cc := cX4_hasOtherSize) (maxL := 5) (ret := (some .boolean)) [some (.ref (ad 0)), some (.int (nI b)), some (.int a), none, none] (by decide) rfl rfl (Nat.le_of_ble_eq_true rfl) rfl ?_
  intro p e s m args below meth c C hRt hlocks hK
  have C : CallFix p m c cX4_hasOtherSize 5 s args (wsX4_hasOtherSize) RX4 := C
  have hT : ∀ w ∈ bigW, w ∈ wsX4_hasOtherSize := bgT
  refine gx_iconst (v := 0) C dX4_hasOtherSize_0 (by decide) ?_
  refine gx_istore_n (lv2 := [some _, some _, some _, some _, none]) C dX4_hasOtherSize_1 (by decide) rfl ?_
  refine gx_iconst (v := 0) C dX4_hasOtherSize_2 (by decide) ?_
  refine gx_istore (lv2 := [some _, some _, some _, some _, some _]) C dX4_hasOtherSize_3 (by decide) rfl ?_
  exact lp_X4_hasOtherSize C hT hRt hlocks hK hT6 e0 hb (T) 0 _ (by omega) rfl
set_option maxHeartbeats 4000000 in
set_option maxRecDepth 100000 in
theorem lp_X4_sooner {l : Launch} {D : va_G} {cI cG cL : ClassId} {ad : Nat → Nat} {n t : Nat} {B : Int32} {v : Nat → Nat → Int32} {a y : Int32} {b T : Nat} {p : Program} {e : Env} {s : State} {m : MethodId} {args : Array Value} {below : List Frame} {meth : Method} {c : Code} (C : CallFix p m c cX4_sooner 6 s args wsX4_sooner RX4) (hT : ∀ w ∈ bigW, w ∈ wsX4_sooner) (hRt : meth.sig.returnType = (some .int)) (hlocks : meth.locks = false) (hK : va_K D vwCl (gT cI cG cL) s) (hT6 : T ≤ 60) (e0 : v 0 0 = nI T) (hb : b < 60)  : ∀ (d j : Nat) (x : Int32), j + d = T → x = nI (mSo v b a y j) → gx_G p l e (headSpec wsX4_sooner ({ frames := 0, cells := 0, slots := 0, locals := 0 })).room s m args below meth c D vwCl (gx_in (mW cI ad n t B v)) 6 0 0 (gx_Qm D vwCl below args s (mW cI ad n t B v) (mW cI ad n t B v) (some (.int (nI (mSo v b a y T))))) (mW cI ad n t B v) 6 [some (.ref (ad 0)), some (.int (nI b)), some (.int a), some (.int y), some (.int x), some (.int (nI j))] [] := by
  intro d
  induction d with
  | zero =>
    intro j x hj hx
    refine gx_iload C dX4_sooner_6 rfl ?_
    refine gx_aload_n C dX4_sooner_8 rfl ?_
    refine mg_X4_boxes C hK hT m471 dX4_sooner_9 ?_
    rw [e0]
    refine gx_icmp_ge (tgt := 69) C dX4_sooner_12 (by decide) (fun c_12 => ?_) (fun c => absurd (nI_le (by omega) (by omega)) c)
    refine gx_iload C dX4_sooner_69 rfl ?_
    exact gx_iret C hRt hlocks dX4_sooner_71 (by rw [hx, show j = T by omega]) rfl
  | succ d ih =>
    intro j x hj hx
    refine gx_iload C dX4_sooner_6 rfl ?_
    refine gx_aload_n C dX4_sooner_8 rfl ?_
    refine mg_X4_boxes C hK hT m471 dX4_sooner_9 ?_
    rw [e0]
    refine gx_icmp_ge (tgt := 69) C dX4_sooner_12 (by decide) (fun c => absurd c (nI_ge (by omega) (by omega))) (fun c_12 => ?_)
    refine gx_iload C dX4_sooner_15 rfl ?_
    refine gx_aload_n C dX4_sooner_17 rfl ?_
    refine mg_X4_rowOf C hK hT m477 dX4_sooner_18 ?_
    refine gx_iload C dX4_sooner_21 rfl ?_
    refine ml_7 C hK rfl (by omega) dX4_sooner_23 ?_
    refine gx_iload_n C dX4_sooner_24 rfl ?_
    refine gx_icmp_ne (tgt := 59) C dX4_sooner_25 (by decide) (fun c_25 => ?_) (fun c_25 => ?_)
    · refine gx_iconst (v := 0) C dX4_sooner_59 (by decide) ?_
      refine gx_iadd C dX4_sooner_60 ?_
      refine gx_istore (lv2 := [some _, some _, some _, some _, some _, some _]) C dX4_sooner_61 (by decide) rfl ?_
      refine gx_iincN (lv2 := [some _, some _, some _, some _, some _, some _]) C dX4_sooner_63 rfl (by decide) rfl ?_
      refine gx_goto (tgt := 6) C dX4_sooner_66 (by decide) ?_
      exact ih (j + 1) _ (by omega) (m_p0 hx (decide_eq_false (fun q => c_25 q.1)))
    · refine gx_aload_n C dX4_sooner_28 rfl ?_
      refine mg_X4_tierOf C hK hT m478 dX4_sooner_29 ?_
      refine gx_iload C dX4_sooner_32 rfl ?_
      refine ml_8 C hK rfl (by omega) dX4_sooner_34 ?_
      refine gx_iload_n C dX4_sooner_35 rfl ?_
      refine gx_icmp_ge (tgt := 59) C dX4_sooner_36 (by decide) (fun c_36 => ?_) (fun c_36 => ?_)
      · refine gx_iconst (v := 0) C dX4_sooner_59 (by decide) ?_
        refine gx_iadd C dX4_sooner_60 ?_
        refine gx_istore (lv2 := [some _, some _, some _, some _, some _, some _]) C dX4_sooner_61 (by decide) rfl ?_
        refine gx_iincN (lv2 := [some _, some _, some _, some _, some _, some _]) C dX4_sooner_63 rfl (by decide) rfl ?_
        refine gx_goto (tgt := 6) C dX4_sooner_66 (by decide) ?_
        exact ih (j + 1) _ (by omega) (m_p0 hx (decide_eq_false (fun q => absurd q.2.1 (Int32.not_lt.mpr c_36))))
      · refine gx_aload_n C dX4_sooner_39 rfl ?_
        refine mg_X4_leaves C hK hT m474 dX4_sooner_40 ?_
        refine gx_iload C dX4_sooner_43 rfl ?_
        refine ml_3 C hK rfl (by omega) dX4_sooner_45 ?_
        refine gx_aload_n C dX4_sooner_46 rfl ?_
        refine mg_X4_leaves C hK hT m474 dX4_sooner_47 ?_
        refine gx_iload_n C dX4_sooner_50 rfl ?_
        refine ml_3 C hK rfl (by omega) dX4_sooner_51 ?_
        refine gx_icmp_ge (tgt := 59) C dX4_sooner_52 (by decide) (fun c_52 => ?_) (fun c_52 => ?_)
        · refine gx_iconst (v := 0) C dX4_sooner_59 (by decide) ?_
          refine gx_iadd C dX4_sooner_60 ?_
          refine gx_istore (lv2 := [some _, some _, some _, some _, some _, some _]) C dX4_sooner_61 (by decide) rfl ?_
          refine gx_iincN (lv2 := [some _, some _, some _, some _, some _, some _]) C dX4_sooner_63 rfl (by decide) rfl ?_
          refine gx_goto (tgt := 6) C dX4_sooner_66 (by decide) ?_
          exact ih (j + 1) _ (by omega) (m_p0 hx (decide_eq_false (fun q => absurd q.2.2 (Int32.not_lt.mpr c_52))))
        · refine gx_iconst (v := 1) C dX4_sooner_55 (by decide) ?_
          refine gx_goto (tgt := 60) C dX4_sooner_56 (by decide) ?_
          refine gx_iadd C dX4_sooner_60 ?_
          refine gx_istore (lv2 := [some _, some _, some _, some _, some _, some _]) C dX4_sooner_61 (by decide) rfl ?_
          refine gx_iincN (lv2 := [some _, some _, some _, some _, some _, some _]) C dX4_sooner_63 rfl (by decide) rfl ?_
          refine gx_goto (tgt := 6) C dX4_sooner_66 (by decide) ?_
          exact ih (j + 1) _ (by omega) (m_p1 hx (decide_eq_true ⟨c_25, Int32.not_le.mp c_36, Int32.not_le.mp c_52⟩))
set_option maxHeartbeats 4000000 in
set_option maxRecDepth 100000 in
theorem c_X4_sooner {l : Launch} {D : va_G} {cI cG cL : ClassId} {ad : Nat → Nat} {n t : Nat} {B : Int32} {v : Nat → Nat → Int32} {a y : Int32} {b T : Nat} (hT6 : T ≤ 60) (e0 : v 0 0 = nI T) (hb : b < 60) : gx_M l yX4_sooner wsX4_sooner ({ frames := 0, cells := 0, slots := 0, locals := 0 }) D vwCl (gT cI cG cL) [.ref (ad 0), .int (nI b), .int a, .int y] (mW cI ad n t B v) (mW cI ad n t B v) (some (.int (nI (mSo v b a y T)))) := by
  refine gx_ofG (cc := cX4_sooner) (maxL := 6) (ret := (some .int)) [some (.ref (ad 0)), some (.int (nI b)), some (.int a), some (.int y), none, none] (by decide) rfl rfl (Nat.le_of_ble_eq_true rfl) rfl ?_
  intro p e s m args below meth c C hRt hlocks hK
  have C : CallFix p m c cX4_sooner 6 s args (wsX4_sooner) RX4 := C
  have hT : ∀ w ∈ bigW, w ∈ wsX4_sooner := bgT
  refine gx_iconst (v := 0) C dX4_sooner_0 (by decide) ?_
  refine gx_istore (lv2 := [some _, some _, some _, some _, some _, none]) C dX4_sooner_1 (by decide) rfl ?_
  refine gx_iconst (v := 0) C dX4_sooner_3 (by decide) ?_
  refine gx_istore (lv2 := [some _, some _, some _, some _, some _, some _]) C dX4_sooner_4 (by decide) rfl ?_
  exact lp_X4_sooner C hT hRt hlocks hK hT6 e0 hb (T) 0 _ (by omega) rfl

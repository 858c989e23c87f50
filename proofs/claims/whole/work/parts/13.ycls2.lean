set_option maxHeartbeats 4000000 in
set_option maxRecDepth 100000 in
theorem lp_X3_hasBoxOfAnotherShip {l : Launch} {D : va_G} {cI cG cL : ClassId} {ad : Nat → Nat} {n t : Nat} {B : Int32} {u g : Nat → Nat → Int32} {r : Nat} {x : Int32} {p : Program} {e : Env} {s : State} {m : MethodId} {args : Array Value} {below : List Frame} {meth : Method} {c : Code} (C : CallFix p m c cX3_hasBoxOfAnotherShip 4 s args wsX3_hasBoxOfAnotherShip RX3) (hT : ∀ w ∈ bigW, w ∈ wsX3_hasBoxOfAnotherShip) (hRt : meth.sig.returnType = (some .boolean)) (hlocks : meth.locks = false) (hK : va_K D vwCl (gT cI cG cL) s) (hOK : yOK n t u g) (hr : r < n)  : ∀ (d j : Nat) , j + d = yH u r → yAny (fun j => decide (¬ u 4 (yB g r j) = x)) j = false → gx_G p l e (headSpec wsX3_hasBoxOfAnotherShip ({ frames := 0, cells := 0, slots := 0, locals := 0 })).room s m args below meth c D vwCl (gx_in (yW cI cG ad n t B u g)) 4 0 0 (gx_Qm D vwCl below args s (yW cI cG ad n t B u g) (yW cI cG ad n t B u g) (some (.int (bI (yOther u g r x))))) (yW cI cG ad n t B u g) 2 [some (.ref (ad 0)), some (.int (nI r)), some (.int x), some (.int (nI j))] [] := by
  intro d
  induction d with
  | zero =>
    intro j  hj ha
    have hn := hOK.hn
    have ht := hOK.ht
    have h6 := hOK.h6 hr
    have hh := hOK.hh hr
    refine gx_iload_n C dX3_hasBoxOfAnotherShip_2 rfl ?_
    refine gx_aload_n C dX3_hasBoxOfAnotherShip_3 rfl ?_
    refine yg_X3_stacks C hK hT m124 dX3_hasBoxOfAnotherShip_4 ?_
    refine yg_X2_heights C hK hT m81 dX3_hasBoxOfAnotherShip_7 ?_
    refine gx_iload_n C dX3_hasBoxOfAnotherShip_10 rfl ?_
    refine yl_6 C hK rfl (by omega) (by omega) dX3_hasBoxOfAnotherShip_11 ?_
    rw [h6]
    refine gx_icmp_ge (tgt := 46) C dX3_hasBoxOfAnotherShip_12 (by decide) (fun c_12 => ?_) (fun c => absurd (nI_le (by omega) (by omega)) c)
    refine gx_iconst (v := 0) C dX3_hasBoxOfAnotherShip_46 (by decide) ?_
    exact gx_zret C hRt hlocks dX3_hasBoxOfAnotherShip_47 rfl (bI_pf (by have hj9 : j = yH u r := (by omega); rw [yOther, ← hj9]; exact ha)) rfl
  | succ d ih =>
    intro j  hj ha
    have hn := hOK.hn
    have ht := hOK.ht
    have h6 := hOK.h6 hr
    have hh := hOK.hh hr
    refine gx_iload_n C dX3_hasBoxOfAnotherShip_2 rfl ?_
    refine gx_aload_n C dX3_hasBoxOfAnotherShip_3 rfl ?_
    refine yg_X3_stacks C hK hT m124 dX3_hasBoxOfAnotherShip_4 ?_
    refine yg_X2_heights C hK hT m81 dX3_hasBoxOfAnotherShip_7 ?_
    refine gx_iload_n C dX3_hasBoxOfAnotherShip_10 rfl ?_
    refine yl_6 C hK rfl (by omega) (by omega) dX3_hasBoxOfAnotherShip_11 ?_
    rw [h6]
    refine gx_icmp_ge (tgt := 46) C dX3_hasBoxOfAnotherShip_12 (by decide) (fun c => absurd c (nI_ge (by omega) (by omega))) (fun c_12 => ?_)
    refine gx_aload_n C dX3_hasBoxOfAnotherShip_15 rfl ?_
    refine yg_X3_boxes C hK hT m123 dX3_hasBoxOfAnotherShip_16 ?_
    refine yg_X0_ship C hK hT m44 dX3_hasBoxOfAnotherShip_19 ?_
    refine gx_aload_n C dX3_hasBoxOfAnotherShip_22 rfl ?_
    refine yg_X3_stacks C hK hT m124 dX3_hasBoxOfAnotherShip_23 ?_
    refine yg_X2_cells C hK hT m79 dX3_hasBoxOfAnotherShip_26 ?_
    refine gx_iload_n C dX3_hasBoxOfAnotherShip_29 rfl ?_
    refine yl_grid C hK rfl (by omega) (by omega) dX3_hasBoxOfAnotherShip_30 ?_
    refine gx_iload_n C dX3_hasBoxOfAnotherShip_31 rfl ?_
    refine yl_row C hK rfl (by omega) (by omega) (by omega) dX3_hasBoxOfAnotherShip_32 ?_
    have hj2 : j < yH u r := by omega
    have hb2 := hOK.hb hr hj2
    rw [hOK.hg hr hj2]
    refine yl_4 C hK rfl (by omega) dX3_hasBoxOfAnotherShip_33 ?_
    refine gx_iload_n C dX3_hasBoxOfAnotherShip_34 rfl ?_
    refine gx_icmp_eq (tgt := 40) C dX3_hasBoxOfAnotherShip_35 (by decide) (fun c_35 => ?_) (fun c_35 => ?_)
    · refine gx_iincN (lv2 := [some _, some _, some _, some _]) C dX3_hasBoxOfAnotherShip_40 rfl (by decide) rfl ?_
      refine gx_goto (tgt := 2) C dX3_hasBoxOfAnotherShip_43 (by decide) ?_
      exact ih (j + 1)  (by omega) (by rw [yAny, ha, Bool.false_or]; exact decide_eq_false (fun q => q c_35))
    · refine gx_iconst (v := 1) C dX3_hasBoxOfAnotherShip_38 (by decide) ?_
      exact gx_zret C hRt hlocks dX3_hasBoxOfAnotherShip_39 rfl (bI_pt (yAny_true (show j < yH u r by omega) (decide_eq_true c_35))) rfl
set_option maxHeartbeats 4000000 in
set_option maxRecDepth 100000 in
/-- hasBoxOfAnotherShip -/
theorem c_X3_hasBoxOfAnotherShip {l : Launch} {D : va_G} {cI cG cL : ClassId} {ad : Nat → Nat} {n t : Nat} {B : Int32} {u g : Nat → Nat → Int32} {r : Nat} {x : Int32} (hOK : yOK n t u g) (hr : r < n) : gx_M l yX3_hasBoxOfAnotherShip wsX3_hasBoxOfAnotherShip ({ frames := 0, cells := 0, slots := 0, locals := 0 }) D vwCl (gT cI cG cL) [.ref (ad 0), .int (nI r), .int x] (yW cI cG ad n t B u g) (yW cI cG ad n t B u g) (some (.int (bI (yOther u g r x)))) := by
  refine gx_ofG (cc := cX3_hasBoxOfAnotherShip) (maxL := 4) (ret := (some .boolean)) [some (.ref (ad 0)), some (.int (nI r)), some (.int x), none] (by decide) rfl rfl (Nat.le_of_ble_eq_true rfl) rfl ?_
  intro p e s m args below meth c C hRt hlocks hK
  have C : CallFix p m c cX3_hasBoxOfAnotherShip 4 s args (wsX3_hasBoxOfAnotherShip) RX3 := C
  have hT : ∀ w ∈ bigW, w ∈ wsX3_hasBoxOfAnotherShip := bgT
  refine gx_iconst (v := 0) C dX3_hasBoxOfAnotherShip_0 (by decide) ?_
  refine gx_istore_n (lv2 := [some _, some _, some _, some _]) C dX3_hasBoxOfAnotherShip_1 (by decide) rfl ?_
  exact lp_X3_hasBoxOfAnotherShip C hT hRt hlocks hK hOK hr (yH u r) 0  (by omega) rfl
set_option maxHeartbeats 4000000 in
set_option maxRecDepth 100000 in
theorem lp_X3_standingBoxes {l : Launch} {D : va_G} {cI cG cL : ClassId} {ad : Nat → Nat} {n t : Nat} {B : Int32} {u g : Nat → Nat → Int32}  {p : Program} {e : Env} {s : State} {m : MethodId} {args : Array Value} {below : List Frame} {meth : Method} {c : Code} (C : CallFix p m c cX3_standingBoxes 3 s args wsX3_standingBoxes RX3) (hT : ∀ w ∈ bigW, w ∈ wsX3_standingBoxes) (hRt : meth.sig.returnType = (some .int)) (hlocks : meth.locks = false) (hK : va_K D vwCl (gT cI cG cL) s) (hn : n ≤ 16)  : ∀ (d j : Nat) , j + d = n → gx_G p l e (headSpec wsX3_standingBoxes ({ frames := 0, cells := 0, slots := 0, locals := 0 })).room s m args below meth c D vwCl (gx_in (yW cI cG ad n t B u g)) 3 0 0 (gx_Qm D vwCl below args s (yW cI cG ad n t B u g) (yW cI cG ad n t B u g) (some (.int (ySum (fun r => u 6 r) n)))) (yW cI cG ad n t B u g) 4 [some (.ref (ad 0)), some (.int (ySum (fun r => u 6 r) j)), some (.int (nI j))] [] := by
  intro d
  induction d with
  | zero =>
    intro j  hj 
    refine gx_iload_n C dX3_standingBoxes_4 rfl ?_
    refine gx_aload_n C dX3_standingBoxes_5 rfl ?_
    refine yg_X3_stacks C hK hT m124 dX3_standingBoxes_6 ?_
    refine yg_X2_rows C hK hT m75 dX3_standingBoxes_9 ?_
    refine gx_icmp_ge (tgt := 33) C dX3_standingBoxes_12 (by decide) (fun c_12 => ?_) (fun c => absurd (nI_le (by omega) (by omega)) c)
    refine gx_iload_n C dX3_standingBoxes_33 rfl ?_
    exact gx_iret C hRt hlocks dX3_standingBoxes_34 (by rw [Nat.add_zero] at hj; rw [hj]) rfl
  | succ d ih =>
    intro j  hj 
    refine gx_iload_n C dX3_standingBoxes_4 rfl ?_
    refine gx_aload_n C dX3_standingBoxes_5 rfl ?_
    refine yg_X3_stacks C hK hT m124 dX3_standingBoxes_6 ?_
    refine yg_X2_rows C hK hT m75 dX3_standingBoxes_9 ?_
    refine gx_icmp_ge (tgt := 33) C dX3_standingBoxes_12 (by decide) (fun c => absurd c (nI_ge (by omega) (by omega))) (fun c_12 => ?_)
    refine gx_iload_n C dX3_standingBoxes_15 rfl ?_
    refine gx_aload_n C dX3_standingBoxes_16 rfl ?_
    refine yg_X3_stacks C hK hT m124 dX3_standingBoxes_17 ?_
    refine yg_X2_heights C hK hT m81 dX3_standingBoxes_20 ?_
    refine gx_iload_n C dX3_standingBoxes_23 rfl ?_
    refine yl_6 C hK rfl (by omega) (by omega) dX3_standingBoxes_24 ?_
    refine gx_iadd C dX3_standingBoxes_25 ?_
    refine gx_istore_n (lv2 := [some _, some _, some _]) C dX3_standingBoxes_26 (by decide) rfl ?_
    refine gx_iincN (lv2 := [some _, some _, some _]) C dX3_standingBoxes_27 rfl (by decide) rfl ?_
    refine gx_goto (tgt := 4) C dX3_standingBoxes_30 (by decide) ?_
    exact ih (j + 1)  (by omega) 
set_option maxHeartbeats 4000000 in
set_option maxRecDepth 100000 in
/-- standingBoxes -/
theorem c_X3_standingBoxes {l : Launch} {D : va_G} {cI cG cL : ClassId} {ad : Nat → Nat} {n t : Nat} {B : Int32} {u g : Nat → Nat → Int32}  (hn : n ≤ 16) : gx_M l yX3_standingBoxes wsX3_standingBoxes ({ frames := 0, cells := 0, slots := 0, locals := 0 }) D vwCl (gT cI cG cL) [.ref (ad 0)] (yW cI cG ad n t B u g) (yW cI cG ad n t B u g) (some (.int (ySum (fun r => u 6 r) n))) := by
  refine gx_ofG (cc := cX3_standingBoxes) (maxL := 3) (ret := (some .int)) [some (.ref (ad 0)), none, none] (by decide) rfl rfl (Nat.le_of_ble_eq_true rfl) rfl ?_
  intro p e s m args below meth c C hRt hlocks hK
  have C : CallFix p m c cX3_standingBoxes 3 s args (wsX3_standingBoxes) RX3 := C
  have hT : ∀ w ∈ bigW, w ∈ wsX3_standingBoxes := bgT
  refine gx_iconst (v := 0) C dX3_standingBoxes_0 (by decide) ?_
  refine gx_istore_n (lv2 := [some _, some _, none]) C dX3_standingBoxes_1 (by decide) rfl ?_
  refine gx_iconst (v := 0) C dX3_standingBoxes_2 (by decide) ?_
  refine gx_istore_n (lv2 := [some _, some _, some _]) C dX3_standingBoxes_3 (by decide) rfl ?_
  exact lp_X3_standingBoxes C hT hRt hlocks hK hn (n) 0  (by omega) 
set_option maxHeartbeats 4000000 in
set_option maxRecDepth 100000 in
/-- wouldBeInTheWay -/
theorem c_X3_wouldBeInTheWay {l : Launch} {D : va_G} {cI cG cL : ClassId} {ad : Nat → Nat} {n t : Nat} {B : Int32} {u g : Nat → Nat → Int32} {b r : Nat} (hOK : yOK n t u g) (hb : b < 60) (hr : r < n) : gx_M l yX3_wouldBeInTheWay wsX3_wouldBeInTheWay ({ frames := 1, cells := 0, slots := 0, locals := 25 }) D vwCl (gT cI cG cL) [.ref (ad 0), .int (nI b), .int (nI r)] (yW cI cG ad n t B u g) (yW cI cG ad n t B u g) (some (.int (bI (yWould u g b r)))) := by
  refine gx_ofG (cc := cX3_wouldBeInTheWay) (maxL := 3) (ret := (some .boolean)) [some (.ref (ad 0)), some (.int (nI b)), some (.int (nI r))] (by decide) rfl rfl (Nat.le_of_ble_eq_true rfl) rfl ?_
  intro p e s m args below meth c C hRt hlocks hK
  have C : CallFix p m c cX3_wouldBeInTheWay 3 s args (wsX3_wouldBeInTheWay) RX3 := C
  have hT : ∀ w ∈ bigW, w ∈ wsX3_wouldBeInTheWay := bgT
  have hn := hOK.hn
  have ht := hOK.ht
  have h6 := hOK.h6 hr
  have hh := hOK.hh hr
  have hso : ySo u g b r (yH u r) ≤ yH u r := yCnt_le _
  refine gx_aload_n C dX3_wouldBeInTheWay_0 rfl ?_
  refine gx_iload_n C dX3_wouldBeInTheWay_1 rfl ?_
  refine gx_iload_n C dX3_wouldBeInTheWay_2 rfl ?_
  refine gx_aload_n C dX3_wouldBeInTheWay_3 rfl ?_
  refine yg_X3_stacks C hK hT m124 dX3_wouldBeInTheWay_4 ?_
  refine yg_X2_heights C hK hT m81 dX3_wouldBeInTheWay_7 ?_
  refine gx_iload_n C dX3_wouldBeInTheWay_10 rfl ?_
  refine yl_6 C hK rfl (by omega) (by omega) dX3_wouldBeInTheWay_11 ?_
  rw [h6]
  refine gx_cVi (n := 3) (q0 := 0) C hK (c_X3_soonerBelow (l := l) (D := D) (cI := cI) (cG := cG) (cL := cL) (ad := ad) (n := n) (t := t) (B := B) (u := u) (g := g) hOK hb hr (Nat.le_refl _)) yW_fst (bgV hT m201 m203 slX3_soonerBelow m1 m204) rfl rfl rfl (by decide +kernel) ⟨Nat.le_of_ble_eq_true rfl, Nat.le_of_ble_eq_true rfl⟩ rfl rfl rfl rfl (Nat.le_of_ble_eq_true rfl) (Nat.zero_le _) (Nat.zero_le _) dX3_wouldBeInTheWay_12 ?_
  refine gx_if_le (tgt := 22) C dX3_wouldBeInTheWay_15 (by decide) (fun c_15 => ?_) (fun c_15 => ?_)
  · refine gx_iconst (v := 0) C dX3_wouldBeInTheWay_22 (by decide) ?_
    exact gx_zret C hRt hlocks dX3_wouldBeInTheWay_23 rfl (by first | exact bI_pf (decide_eq_false (fun q => q ((y_le0 (by omega)).mp c_15))) | exact bI_pt (decide_eq_true (fun q => c_15 ((y_le0 (by omega)).mpr q)))) rfl
  · refine gx_iconst (v := 1) C dX3_wouldBeInTheWay_18 (by decide) ?_
    refine gx_goto (tgt := 23) C dX3_wouldBeInTheWay_19 (by decide) ?_
    exact gx_zret C hRt hlocks dX3_wouldBeInTheWay_23 rfl (by first | exact bI_pf (decide_eq_false (fun q => q ((y_le0 (by omega)).mp c_15))) | exact bI_pt (decide_eq_true (fun q => c_15 ((y_le0 (by omega)).mpr q)))) rfl
set_option maxHeartbeats 4000000 in
set_option maxRecDepth 100000 in
/-- isInTheWay -/
theorem c_X3_isInTheWay {l : Launch} {D : va_G} {cI cG cL : ClassId} {ad : Nat → Nat} {n t : Nat} {B : Int32} {u g : Nat → Nat → Int32} {b : Nat} (hOK : yOK n t u g) (hb : b < 60) : gx_M l yX3_isInTheWay wsX3_isInTheWay ({ frames := 1, cells := 0, slots := 0, locals := 25 }) D vwCl (gT cI cG cL) [.ref (ad 0), .int (nI b)] (yW cI cG ad n t B u g) (yW cI cG ad n t B u g) (some (.int (bI (yWay u g b)))) := by
  refine gx_ofG (cc := cX3_isInTheWay) (maxL := 2) (ret := (some .boolean)) [some (.ref (ad 0)), some (.int (nI b))] (by decide) rfl rfl (Nat.le_of_ble_eq_true rfl) rfl ?_
  intro p e s m args below meth c C hRt hlocks hK
  have C : CallFix p m c cX3_isInTheWay 2 s args (wsX3_isInTheWay) RX3 := C
  have hT : ∀ w ∈ bigW, w ∈ wsX3_isInTheWay := bgT
  have hn := hOK.hn
  have ht := hOK.ht
  refine gx_aload_n C dX3_isInTheWay_0 rfl ?_
  refine yg_X3_stacks C hK hT m124 dX3_isInTheWay_1 ?_
  refine gx_iload_n C dX3_isInTheWay_4 rfl ?_
  refine gx_cVi (n := 1) (q0 := 7) C hK (c_X2_stands (l := l) (D := D) (cI := cI) (cG := cG) (cL := cL) (ad := ad) (n := n) (t := t) (B := B) (u := u) (g := g) hb) yW_fst (bgV hT m200 m173 m174 m4 m175) rfl rfl rfl (by decide +kernel) ⟨Nat.le_of_ble_eq_true rfl, Nat.le_of_ble_eq_true rfl⟩ rfl rfl rfl rfl (Nat.le_of_ble_eq_true rfl) (Nat.zero_le _) (Nat.zero_le _) dX3_isInTheWay_5 ?_
  refine gx_if_eq (tgt := 41) C dX3_isInTheWay_8 (by decide) (fun c_8 => ?_) (fun c_8 => ?_)
  · refine gx_iconst (v := 0) C dX3_isInTheWay_41 (by decide) ?_
    exact gx_zret C hRt hlocks dX3_isInTheWay_42 rfl (by first | exact bI_pf (decide_eq_false (fun q => q.1 (ySt_f c_8))) | exact bI_pf (decide_eq_false (fun q => q.2 (e9.trans ((y_le0 (by omega)).mp c_34)))) | exact bI_pt (decide_eq_true ⟨ySt_t c_8, fun q => c_34 ((y_le0 (by omega)).mpr (e9.symm.trans q))⟩)) rfl
  · obtain ⟨r, k, hr, hk, e7, e8⟩ := hOK.h7 hb (ySt_t c_8)
    have hh := hOK.hh hr
    have hso : ySo u g b r k ≤ k := yCnt_le _
    have e9 : ySo u g b (u 7 b).toNatClampNeg (u 8 b).toNatClampNeg = ySo u g b r k := by rw [e7, e8, nI_clamp (by omega), nI_clamp (by omega)]
    refine gx_aload_n C dX3_isInTheWay_11 rfl ?_
    refine gx_iload_n C dX3_isInTheWay_12 rfl ?_
    refine gx_aload_n C dX3_isInTheWay_13 rfl ?_
    refine yg_X3_stacks C hK hT m124 dX3_isInTheWay_14 ?_
    refine yg_X2_rowOf C hK hT m83 dX3_isInTheWay_17 ?_
    refine gx_iload_n C dX3_isInTheWay_20 rfl ?_
    refine yl_7 C hK rfl (by omega) dX3_isInTheWay_21 ?_
    refine gx_aload_n C dX3_isInTheWay_22 rfl ?_
    refine yg_X3_stacks C hK hT m124 dX3_isInTheWay_23 ?_
    refine yg_X2_tierOf C hK hT m85 dX3_isInTheWay_26 ?_
    refine gx_iload_n C dX3_isInTheWay_29 rfl ?_
    refine yl_8 C hK rfl (by omega) dX3_isInTheWay_30 ?_
    rw [e7, e8]
    refine gx_cVi (n := 3) (q0 := 0) C hK (c_X3_soonerBelow (l := l) (D := D) (cI := cI) (cG := cG) (cL := cL) (ad := ad) (n := n) (t := t) (B := B) (u := u) (g := g) hOK hb hr (Nat.le_of_lt hk)) yW_fst (bgV hT m201 m203 slX3_soonerBelow m1 m204) rfl rfl rfl (by decide +kernel) ⟨Nat.le_of_ble_eq_true rfl, Nat.le_of_ble_eq_true rfl⟩ rfl rfl rfl rfl (Nat.le_of_ble_eq_true rfl) (Nat.zero_le _) (Nat.zero_le _) dX3_isInTheWay_31 ?_
    refine gx_if_le (tgt := 41) C dX3_isInTheWay_34 (by decide) (fun c_34 => ?_) (fun c_34 => ?_)
    · refine gx_iconst (v := 0) C dX3_isInTheWay_41 (by decide) ?_
      exact gx_zret C hRt hlocks dX3_isInTheWay_42 rfl (by first | exact bI_pf (decide_eq_false (fun q => q.1 (ySt_f c_8))) | exact bI_pf (decide_eq_false (fun q => q.2 (e9.trans ((y_le0 (by omega)).mp c_34)))) | exact bI_pt (decide_eq_true ⟨ySt_t c_8, fun q => c_34 ((y_le0 (by omega)).mpr (e9.symm.trans q))⟩)) rfl
    · refine gx_iconst (v := 1) C dX3_isInTheWay_37 (by decide) ?_
      refine gx_goto (tgt := 42) C dX3_isInTheWay_38 (by decide) ?_
      exact gx_zret C hRt hlocks dX3_isInTheWay_42 rfl (by first | exact bI_pf (decide_eq_false (fun q => q.1 (ySt_f c_8))) | exact bI_pf (decide_eq_false (fun q => q.2 (e9.trans ((y_le0 (by omega)).mp c_34)))) | exact bI_pt (decide_eq_true ⟨ySt_t c_8, fun q => c_34 ((y_le0 (by omega)).mpr (e9.symm.trans q))⟩)) rfl
set_option maxHeartbeats 4000000 in
set_option maxRecDepth 100000 in
theorem lp_X3_boxesInTheWay {l : Launch} {D : va_G} {cI cG cL : ClassId} {ad : Nat → Nat} {n t : Nat} {B : Int32} {u g : Nat → Nat → Int32} {T : Nat} {p : Program} {e : Env} {s : State} {m : MethodId} {args : Array Value} {below : List Frame} {meth : Method} {c : Code} (C : CallFix p m c cX3_boxesInTheWay 3 s args wsX3_boxesInTheWay RX3) (hT : ∀ w ∈ bigW, w ∈ wsX3_boxesInTheWay) (hRt : meth.sig.returnType = (some .int)) (hlocks : meth.locks = false) (hK : va_K D vwCl (gT cI cG cL) s) (hOK : yOK n t u g) (hT6 : T ≤ 60) (e0 : u 0 0 = nI T)  : ∀ (d j : Nat) , j + d = T → gx_G p l e (headSpec wsX3_boxesInTheWay ({ frames := 2, cells := 0, slots := 0, locals := 46 })).room s m args below meth c D vwCl (gx_in (yW cI cG ad n t B u g)) 3 0 0 (gx_Qm D vwCl below args s (yW cI cG ad n t B u g) (yW cI cG ad n t B u g) (some (.int (nI (yCnt (fun b => yWay u g b) T))))) (yW cI cG ad n t B u g) 4 [some (.ref (ad 0)), some (.int (nI (yCnt (fun b => yWay u g b) j))), some (.int (nI j))] [] := by
  intro d
  induction d with
  | zero =>
    intro j  hj 
    refine gx_iload_n C dX3_boxesInTheWay_4 rfl ?_
    refine gx_aload_n C dX3_boxesInTheWay_5 rfl ?_
    refine yg_X3_boxes C hK hT m123 dX3_boxesInTheWay_6 ?_
    refine yg_X0_told C hK hT m48 dX3_boxesInTheWay_9 ?_
    rw [e0]
    refine gx_icmp_ge (tgt := 32) C dX3_boxesInTheWay_12 (by decide) (fun c_12 => ?_) (fun c => absurd (nI_le (by omega) (by omega)) c)
    refine gx_iload_n C dX3_boxesInTheWay_32 rfl ?_
    exact gx_iret C hRt hlocks dX3_boxesInTheWay_33 (by rw [Nat.add_zero] at hj; rw [hj]) rfl
  | succ d ih =>
    intro j  hj 
    refine gx_iload_n C dX3_boxesInTheWay_4 rfl ?_
    refine gx_aload_n C dX3_boxesInTheWay_5 rfl ?_
    refine yg_X3_boxes C hK hT m123 dX3_boxesInTheWay_6 ?_
    refine yg_X0_told C hK hT m48 dX3_boxesInTheWay_9 ?_
    rw [e0]
    refine gx_icmp_ge (tgt := 32) C dX3_boxesInTheWay_12 (by decide) (fun c => absurd c (nI_ge (by omega) (by omega))) (fun c_12 => ?_)
    refine gx_aload_n C dX3_boxesInTheWay_15 rfl ?_
    refine gx_iload_n C dX3_boxesInTheWay_16 rfl ?_
    refine gx_cVi (n := 1) (q0 := 0) C hK (c_X3_isInTheWay (l := l) (D := D) (cI := cI) (cG := cG) (cL := cL) (ad := ad) (n := n) (t := t) (B := B) (u := u) (g := g) hOK (show j < 60 by omega)) yW_fst (bgV hT m196 m198 slX3_isInTheWay m1 m199) rfl rfl rfl (by decide +kernel) ⟨Nat.le_of_ble_eq_true rfl, Nat.le_of_ble_eq_true rfl⟩ rfl rfl rfl rfl (Nat.le_of_ble_eq_true rfl) (Nat.zero_le _) (Nat.zero_le _) dX3_boxesInTheWay_17 ?_
    refine gx_if_eq (tgt := 26) C dX3_boxesInTheWay_20 (by decide) (fun c_20 => ?_) (fun c_20 => ?_)
    · rw [show yCnt (fun b => yWay u g b) j = yCnt (fun b => yWay u g b) (j + 1) by simp only [yCnt]; rw [if_neg (by rw [bI_f c_20]; decide)]; rfl]
      refine gx_iincN (lv2 := [some _, some _, some _]) C dX3_boxesInTheWay_26 rfl (by decide) rfl ?_
      refine gx_goto (tgt := 4) C dX3_boxesInTheWay_29 (by decide) ?_
      exact ih (j + 1)  (by omega) 
    · have e9 : yCnt (fun b => yWay u g b) (j + 1) = yCnt (fun b => yWay u g b) j + 1 := by simp only [yCnt]; rw [if_pos (bI_t c_20)]
      refine gx_iincN (lv2 := [some _, some _, some _]) C dX3_boxesInTheWay_23 rfl (by decide) rfl ?_
      rw [← e9]
      refine gx_iincN (lv2 := [some _, some _, some _]) C dX3_boxesInTheWay_26 rfl (by decide) rfl ?_
      refine gx_goto (tgt := 4) C dX3_boxesInTheWay_29 (by decide) ?_
      exact ih (j + 1)  (by omega) 
set_option maxHeartbeats 4000000 in
set_option maxRecDepth 100000 in
/-- boxesInTheWay -/
theorem c_X3_boxesInTheWay {l : Launch} {D : va_G} {cI cG cL : ClassId} {ad : Nat → Nat} {n t : Nat} {B : Int32} {u g : Nat → Nat → Int32} {T : Nat} (hOK : yOK n t u g) (hT6 : T ≤ 60) (e0 : u 0 0 = nI T) : gx_M l yX3_boxesInTheWay wsX3_boxesInTheWay ({ frames := 2, cells := 0, slots := 0, locals := 46 }) D vwCl (gT cI cG cL) [.ref (ad 0)] (yW cI cG ad n t B u g) (yW cI cG ad n t B u g) (some (.int (nI (yCnt (fun b => yWay u g b) T)))) := by
  refine gx_ofG (cc := cX3_boxesInTheWay) (maxL := 3) (ret := (some .int)) [some (.ref (ad 0)), none, none] (by decide) rfl rfl (Nat.le_of_ble_eq_true rfl) rfl ?_
  intro p e s m args below meth c C hRt hlocks hK
  have C : CallFix p m c cX3_boxesInTheWay 3 s args (wsX3_boxesInTheWay) RX3 := C
  have hT : ∀ w ∈ bigW, w ∈ wsX3_boxesInTheWay := bgT
  refine gx_iconst (v := 0) C dX3_boxesInTheWay_0 (by decide) ?_
  refine gx_istore_n (lv2 := [some _, some _, none]) C dX3_boxesInTheWay_1 (by decide) rfl ?_
  refine gx_iconst (v := 0) C dX3_boxesInTheWay_2 (by decide) ?_
  refine gx_istore_n (lv2 := [some _, some _, some _]) C dX3_boxesInTheWay_3 (by decide) rfl ?_
  exact lp_X3_boxesInTheWay C hT hRt hlocks hK hOK hT6 e0 (T) 0  (by omega) 
set_option maxHeartbeats 4000000 in
set_option maxRecDepth 100000 in
/-- ruleBrokenOnTop -/
theorem c_X3_ruleBrokenOnTop {l : Launch} {D : va_G} {cI cG cL : ClassId} {ad : Nat → Nat} {n t : Nat} {B : Int32} {u g : Nat → Nat → Int32} {b r : Nat} (hOK : yOK n t u g) (hb : b < 60) (hr : r < n) : gx_M l yX3_ruleBrokenOnTop wsX3_ruleBrokenOnTop ({ frames := 1, cells := 0, slots := 0, locals := 23 }) D vwCl (gT cI cG cL) [.ref (ad 0), .int (nI b), .int (nI r)] (yW cI cG ad n t B u g) (yW cI cG ad n t B u g) (some (.int (yRule t B u g b r))) := by
  refine gx_ofG (cc := cX3_ruleBrokenOnTop) (maxL := 4) (ret := (some .int)) [some (.ref (ad 0)), some (.int (nI b)), some (.int (nI r)), none] (by decide) rfl rfl (Nat.le_of_ble_eq_true rfl) rfl ?_
  intro p e s m args below meth c C hRt hlocks hK
  have C : CallFix p m c cX3_ruleBrokenOnTop 4 s args (wsX3_ruleBrokenOnTop) RX3 := C
  have hT : ∀ w ∈ bigW, w ∈ wsX3_ruleBrokenOnTop := bgT
  have hn := hOK.hn
  have ht := hOK.ht
  have h6 := hOK.h6 hr
  have hh := hOK.hh hr
  refine gx_aload_n C dX3_ruleBrokenOnTop_0 rfl ?_
  refine yg_X3_reservedFor C hK hT m127 dX3_ruleBrokenOnTop_1 ?_
  refine gx_iload_n C dX3_ruleBrokenOnTop_4 rfl ?_
  refine yl_12 C hK rfl (by omega) dX3_ruleBrokenOnTop_5 ?_
  refine gx_if_eq (tgt := 29) C dX3_ruleBrokenOnTop_6 (by decide) (fun c_6 => ?_) (fun c_6 => ?_)
  · refine gx_aload_n C dX3_ruleBrokenOnTop_29 rfl ?_
    refine yg_X3_stacks C hK hT m124 dX3_ruleBrokenOnTop_30 ?_
    refine yg_X2_heights C hK hT m81 dX3_ruleBrokenOnTop_33 ?_
    refine gx_iload_n C dX3_ruleBrokenOnTop_36 rfl ?_
    refine yl_6 C hK rfl (by omega) (by omega) dX3_ruleBrokenOnTop_37 ?_
    refine gx_aload_n C dX3_ruleBrokenOnTop_38 rfl ?_
    refine yg_X3_stacks C hK hT m124 dX3_ruleBrokenOnTop_39 ?_
    refine yg_X2_tiers C hK hT m77 dX3_ruleBrokenOnTop_42 ?_
    refine gx_icmp_lt (tgt := 50) C dX3_ruleBrokenOnTop_45 (by decide) (fun c_45 => ?_) (fun c_45 => ?_)
    · refine gx_aload_n C dX3_ruleBrokenOnTop_50 rfl ?_
      refine gx_iload_n C dX3_ruleBrokenOnTop_51 rfl ?_
      refine gx_cVi (n := 1) (q0 := 0) C hK (c_X3_weightOn (l := l) (D := D) (cI := cI) (cG := cG) (cL := cL) (ad := ad) (n := n) (t := t) (B := B) (u := u) (g := g) hOK hr) yW_fst (bgV hT m209 m211 slX3_weightOn m1 m212) rfl rfl rfl (by decide +kernel) ⟨Nat.le_of_ble_eq_true rfl, Nat.le_of_ble_eq_true rfl⟩ rfl rfl rfl rfl (Nat.le_of_ble_eq_true rfl) (Nat.zero_le _) (Nat.zero_le _) dX3_ruleBrokenOnTop_52 ?_
      refine gx_aload_n C dX3_ruleBrokenOnTop_55 rfl ?_
      refine yg_X3_boxes C hK hT m123 dX3_ruleBrokenOnTop_56 ?_
      refine yg_X0_weight C hK hT m40 dX3_ruleBrokenOnTop_59 ?_
      refine gx_iload_n C dX3_ruleBrokenOnTop_62 rfl ?_
      refine yl_2 C hK rfl (by omega) dX3_ruleBrokenOnTop_63 ?_
      refine gx_iadd C dX3_ruleBrokenOnTop_64 ?_
      refine gx_aload_n C dX3_ruleBrokenOnTop_65 rfl ?_
      refine yg_X3_bears C hK hT m122 dX3_ruleBrokenOnTop_66 ?_
      refine gx_icmp_le (tgt := 74) C dX3_ruleBrokenOnTop_69 (by decide) (fun c_69 => ?_) (fun c_69 => ?_)
      · refine gx_aload_n C dX3_ruleBrokenOnTop_74 rfl ?_
        refine yg_X3_stacks C hK hT m124 dX3_ruleBrokenOnTop_75 ?_
        refine gx_iload_n C dX3_ruleBrokenOnTop_78 rfl ?_
        refine gx_cVi (n := 1) (q0 := 7) C hK (c_X2_top (l := l) (D := D) (cI := cI) (cG := cG) (cL := cL) (ad := ad) (n := n) (t := t) (B := B) (u := u) (g := g) hOK hr) yW_fst (bgV hT m358 m359 m360 m4 m361) rfl rfl rfl (by decide +kernel) ⟨Nat.le_of_ble_eq_true rfl, Nat.le_of_ble_eq_true rfl⟩ rfl rfl rfl rfl (Nat.le_of_ble_eq_true rfl) (Nat.zero_le _) (Nat.zero_le _) dX3_ruleBrokenOnTop_79 ?_
        refine gx_istore_n (lv2 := [some _, some _, some _, some _]) C dX3_ruleBrokenOnTop_82 (by decide) rfl ?_
        refine gx_iload_n C dX3_ruleBrokenOnTop_83 rfl ?_
        refine gx_iconst (v := (-1)) C dX3_ruleBrokenOnTop_84 (by decide) ?_
        refine gx_icmp_eq (tgt := 111) C dX3_ruleBrokenOnTop_85 (by decide) (fun c_85 => ?_) (fun c_85 => ?_)
        · refine gx_iload_n C dX3_ruleBrokenOnTop_111 rfl ?_
          refine gx_iconst (v := (-1)) C dX3_ruleBrokenOnTop_112 (by decide) ?_
          refine gx_icmp_eq (tgt := 140) C dX3_ruleBrokenOnTop_113 (by decide) (fun c_113 => ?_) (fun c => absurd c_85 c)
          refine gx_aload_n C dX3_ruleBrokenOnTop_140 rfl ?_
          refine yg_X3_boxes C hK hT m123 dX3_ruleBrokenOnTop_141 ?_
          refine yg_X0_kind C hK hT m46 dX3_ruleBrokenOnTop_144 ?_
          refine gx_iload_n C dX3_ruleBrokenOnTop_147 rfl ?_
          refine yl_5 C hK rfl (by omega) dX3_ruleBrokenOnTop_148 ?_
          refine gx_aload_n C dX3_ruleBrokenOnTop_149 rfl ?_
          refine yg_X3_grounds C hK hT m126 dX3_ruleBrokenOnTop_150 ?_
          refine gx_iload_n C dX3_ruleBrokenOnTop_153 rfl ?_
          refine yl_11 C hK rfl (by omega) dX3_ruleBrokenOnTop_154 ?_
          refine gx_cSi (n := 2) C hK (c_X3_ruleBrokenByGround (l := l) (D := D) (cI := cI) (cG := cG) (cL := cL) (a := u 5 b) (b := u 11 r)) (bgS hT m362 m363 m1 m364) rfl rfl rfl (by decide +kernel) ⟨Nat.le_of_ble_eq_true rfl, Nat.le_of_ble_eq_true rfl⟩ rfl rfl (Nat.le_of_ble_eq_true rfl) (Nat.zero_le _) (Nat.zero_le _) dX3_ruleBrokenOnTop_155 ?_
          exact gx_iret C hRt hlocks dX3_ruleBrokenOnTop_158 (by simp [yRule, yGr, c_6, c_45, c_69, c_85]) rfl
        · obtain ⟨h0, hq, eq⟩ := yTop_some hOK hr c_85
          rw [eq]
          refine gx_aload_n C dX3_ruleBrokenOnTop_88 rfl ?_
          refine yg_X3_boxes C hK hT m123 dX3_ruleBrokenOnTop_89 ?_
          refine yg_X0_size C hK hT m38 dX3_ruleBrokenOnTop_92 ?_
          refine gx_iload_n C dX3_ruleBrokenOnTop_95 rfl ?_
          refine yl_1 C hK rfl (by omega) dX3_ruleBrokenOnTop_96 ?_
          refine gx_aload_n C dX3_ruleBrokenOnTop_97 rfl ?_
          refine yg_X3_boxes C hK hT m123 dX3_ruleBrokenOnTop_98 ?_
          refine yg_X0_size C hK hT m38 dX3_ruleBrokenOnTop_101 ?_
          refine gx_iload_n C dX3_ruleBrokenOnTop_104 rfl ?_
          refine yl_1 C hK rfl (by omega) dX3_ruleBrokenOnTop_105 ?_
          refine gx_icmp_eq (tgt := 111) C dX3_ruleBrokenOnTop_106 (by decide) (fun c_106 => ?_) (fun c_106 => ?_)
          · refine gx_iload_n C dX3_ruleBrokenOnTop_111 rfl ?_
            refine gx_iconst (v := (-1)) C dX3_ruleBrokenOnTop_112 (by decide) ?_
            refine gx_icmp_eq (tgt := 140) C dX3_ruleBrokenOnTop_113 (by decide) (fun c => absurd c (y_m1 (by omega))) (fun c_113 => ?_)
            refine gx_aload_n C dX3_ruleBrokenOnTop_116 rfl ?_
            refine yg_X3_boxes C hK hT m123 dX3_ruleBrokenOnTop_117 ?_
            refine yg_X0_weight C hK hT m40 dX3_ruleBrokenOnTop_120 ?_
            refine gx_iload_n C dX3_ruleBrokenOnTop_123 rfl ?_
            refine yl_2 C hK rfl (by omega) dX3_ruleBrokenOnTop_124 ?_
            refine gx_aload_n C dX3_ruleBrokenOnTop_125 rfl ?_
            refine yg_X3_boxes C hK hT m123 dX3_ruleBrokenOnTop_126 ?_
            refine yg_X0_weight C hK hT m40 dX3_ruleBrokenOnTop_129 ?_
            refine gx_iload_n C dX3_ruleBrokenOnTop_132 rfl ?_
            refine yl_2 C hK rfl (by omega) dX3_ruleBrokenOnTop_133 ?_
            refine gx_icmp_ge (tgt := 140) C dX3_ruleBrokenOnTop_134 (by decide) (fun c_134 => ?_) (fun c_134 => ?_)
            · refine gx_aload_n C dX3_ruleBrokenOnTop_140 rfl ?_
              refine yg_X3_boxes C hK hT m123 dX3_ruleBrokenOnTop_141 ?_
              refine yg_X0_kind C hK hT m46 dX3_ruleBrokenOnTop_144 ?_
              refine gx_iload_n C dX3_ruleBrokenOnTop_147 rfl ?_
              refine yl_5 C hK rfl (by omega) dX3_ruleBrokenOnTop_148 ?_
              refine gx_aload_n C dX3_ruleBrokenOnTop_149 rfl ?_
              refine yg_X3_grounds C hK hT m126 dX3_ruleBrokenOnTop_150 ?_
              refine gx_iload_n C dX3_ruleBrokenOnTop_153 rfl ?_
              refine yl_11 C hK rfl (by omega) dX3_ruleBrokenOnTop_154 ?_
              refine gx_cSi (n := 2) C hK (c_X3_ruleBrokenByGround (l := l) (D := D) (cI := cI) (cG := cG) (cL := cL) (a := u 5 b) (b := u 11 r)) (bgS hT m362 m363 m1 m364) rfl rfl rfl (by decide +kernel) ⟨Nat.le_of_ble_eq_true rfl, Nat.le_of_ble_eq_true rfl⟩ rfl rfl (Nat.le_of_ble_eq_true rfl) (Nat.zero_le _) (Nat.zero_le _) dX3_ruleBrokenOnTop_155 ?_
              exact gx_iret C hRt hlocks dX3_ruleBrokenOnTop_158 (by simp [yRule, yGr, c_6, c_45, c_69, c_85, c_106, c_134, eq, y_m1 (show yB g r (yH u r - 1) < 2 ^ 31 by omega), nI_clamp (show yB g r (yH u r - 1) < 2 ^ 31 by omega)]) rfl
            · refine gx_bipush (v := 6) C dX3_ruleBrokenOnTop_137 (by decide) ?_
              exact gx_iret C hRt hlocks dX3_ruleBrokenOnTop_139 (by simp [yRule, yGr, c_6, c_45, c_69, c_85, c_106, c_134, eq, y_m1 (show yB g r (yH u r - 1) < 2 ^ 31 by omega), nI_clamp (show yB g r (yH u r - 1) < 2 ^ 31 by omega)]) rfl
          · refine gx_iconst (v := 5) C dX3_ruleBrokenOnTop_109 (by decide) ?_
            exact gx_iret C hRt hlocks dX3_ruleBrokenOnTop_110 (by simp [yRule, yGr, c_6, c_45, c_69, c_85, c_106, eq, y_m1 (show yB g r (yH u r - 1) < 2 ^ 31 by omega), nI_clamp (show yB g r (yH u r - 1) < 2 ^ 31 by omega)]) rfl
      · refine gx_iconst (v := 4) C dX3_ruleBrokenOnTop_72 (by decide) ?_
        exact gx_iret C hRt hlocks dX3_ruleBrokenOnTop_73 (by simp [yRule, yGr, c_6, c_45, c_69]) rfl
    · refine gx_iconst (v := 3) C dX3_ruleBrokenOnTop_48 (by decide) ?_
      exact gx_iret C hRt hlocks dX3_ruleBrokenOnTop_49 (by simp [yRule, yGr, c_6, c_45]) rfl
  · refine gx_aload_n C dX3_ruleBrokenOnTop_9 rfl ?_
    refine yg_X3_reservedFor C hK hT m127 dX3_ruleBrokenOnTop_10 ?_
    refine gx_iload_n C dX3_ruleBrokenOnTop_13 rfl ?_
    refine yl_12 C hK rfl (by omega) dX3_ruleBrokenOnTop_14 ?_
    refine gx_aload_n C dX3_ruleBrokenOnTop_15 rfl ?_
    refine yg_X3_boxes C hK hT m123 dX3_ruleBrokenOnTop_16 ?_
    refine yg_X0_ship C hK hT m44 dX3_ruleBrokenOnTop_19 ?_
    refine gx_iload_n C dX3_ruleBrokenOnTop_22 rfl ?_
    refine yl_4 C hK rfl (by omega) dX3_ruleBrokenOnTop_23 ?_
    refine gx_icmp_eq (tgt := 29) C dX3_ruleBrokenOnTop_24 (by decide) (fun c_24 => ?_) (fun c_24 => ?_)
    · refine gx_aload_n C dX3_ruleBrokenOnTop_29 rfl ?_
      refine yg_X3_stacks C hK hT m124 dX3_ruleBrokenOnTop_30 ?_
      refine yg_X2_heights C hK hT m81 dX3_ruleBrokenOnTop_33 ?_
      refine gx_iload_n C dX3_ruleBrokenOnTop_36 rfl ?_
      refine yl_6 C hK rfl (by omega) (by omega) dX3_ruleBrokenOnTop_37 ?_
      refine gx_aload_n C dX3_ruleBrokenOnTop_38 rfl ?_
      refine yg_X3_stacks C hK hT m124 dX3_ruleBrokenOnTop_39 ?_
      refine yg_X2_tiers C hK hT m77 dX3_ruleBrokenOnTop_42 ?_
      refine gx_icmp_lt (tgt := 50) C dX3_ruleBrokenOnTop_45 (by decide) (fun c_45 => ?_) (fun c_45 => ?_)
      · refine gx_aload_n C dX3_ruleBrokenOnTop_50 rfl ?_
        refine gx_iload_n C dX3_ruleBrokenOnTop_51 rfl ?_
        refine gx_cVi (n := 1) (q0 := 0) C hK (c_X3_weightOn (l := l) (D := D) (cI := cI) (cG := cG) (cL := cL) (ad := ad) (n := n) (t := t) (B := B) (u := u) (g := g) hOK hr) yW_fst (bgV hT m209 m211 slX3_weightOn m1 m212) rfl rfl rfl (by decide +kernel) ⟨Nat.le_of_ble_eq_true rfl, Nat.le_of_ble_eq_true rfl⟩ rfl rfl rfl rfl (Nat.le_of_ble_eq_true rfl) (Nat.zero_le _) (Nat.zero_le _) dX3_ruleBrokenOnTop_52 ?_
        refine gx_aload_n C dX3_ruleBrokenOnTop_55 rfl ?_
        refine yg_X3_boxes C hK hT m123 dX3_ruleBrokenOnTop_56 ?_
        refine yg_X0_weight C hK hT m40 dX3_ruleBrokenOnTop_59 ?_
        refine gx_iload_n C dX3_ruleBrokenOnTop_62 rfl ?_
        refine yl_2 C hK rfl (by omega) dX3_ruleBrokenOnTop_63 ?_
        refine gx_iadd C dX3_ruleBrokenOnTop_64 ?_
        refine gx_aload_n C dX3_ruleBrokenOnTop_65 rfl ?_
        refine yg_X3_bears C hK hT m122 dX3_ruleBrokenOnTop_66 ?_
        refine gx_icmp_le (tgt := 74) C dX3_ruleBrokenOnTop_69 (by decide) (fun c_69 => ?_) (fun c_69 => ?_)
        · refine gx_aload_n C dX3_ruleBrokenOnTop_74 rfl ?_
          refine yg_X3_stacks C hK hT m124 dX3_ruleBrokenOnTop_75 ?_
          refine gx_iload_n C dX3_ruleBrokenOnTop_78 rfl ?_
          refine gx_cVi (n := 1) (q0 := 7) C hK (c_X2_top (l := l) (D := D) (cI := cI) (cG := cG) (cL := cL) (ad := ad) (n := n) (t := t) (B := B) (u := u) (g := g) hOK hr) yW_fst (bgV hT m358 m359 m360 m4 m361) rfl rfl rfl (by decide +kernel) ⟨Nat.le_of_ble_eq_true rfl, Nat.le_of_ble_eq_true rfl⟩ rfl rfl rfl rfl (Nat.le_of_ble_eq_true rfl) (Nat.zero_le _) (Nat.zero_le _) dX3_ruleBrokenOnTop_79 ?_
          refine gx_istore_n (lv2 := [some _, some _, some _, some _]) C dX3_ruleBrokenOnTop_82 (by decide) rfl ?_
          refine gx_iload_n C dX3_ruleBrokenOnTop_83 rfl ?_
          refine gx_iconst (v := (-1)) C dX3_ruleBrokenOnTop_84 (by decide) ?_
          refine gx_icmp_eq (tgt := 111) C dX3_ruleBrokenOnTop_85 (by decide) (fun c_85 => ?_) (fun c_85 => ?_)
          · refine gx_iload_n C dX3_ruleBrokenOnTop_111 rfl ?_
            refine gx_iconst (v := (-1)) C dX3_ruleBrokenOnTop_112 (by decide) ?_
            refine gx_icmp_eq (tgt := 140) C dX3_ruleBrokenOnTop_113 (by decide) (fun c_113 => ?_) (fun c => absurd c_85 c)
            refine gx_aload_n C dX3_ruleBrokenOnTop_140 rfl ?_
            refine yg_X3_boxes C hK hT m123 dX3_ruleBrokenOnTop_141 ?_
            refine yg_X0_kind C hK hT m46 dX3_ruleBrokenOnTop_144 ?_
            refine gx_iload_n C dX3_ruleBrokenOnTop_147 rfl ?_
            refine yl_5 C hK rfl (by omega) dX3_ruleBrokenOnTop_148 ?_
            refine gx_aload_n C dX3_ruleBrokenOnTop_149 rfl ?_
            refine yg_X3_grounds C hK hT m126 dX3_ruleBrokenOnTop_150 ?_
            refine gx_iload_n C dX3_ruleBrokenOnTop_153 rfl ?_
            refine yl_11 C hK rfl (by omega) dX3_ruleBrokenOnTop_154 ?_
            refine gx_cSi (n := 2) C hK (c_X3_ruleBrokenByGround (l := l) (D := D) (cI := cI) (cG := cG) (cL := cL) (a := u 5 b) (b := u 11 r)) (bgS hT m362 m363 m1 m364) rfl rfl rfl (by decide +kernel) ⟨Nat.le_of_ble_eq_true rfl, Nat.le_of_ble_eq_true rfl⟩ rfl rfl (Nat.le_of_ble_eq_true rfl) (Nat.zero_le _) (Nat.zero_le _) dX3_ruleBrokenOnTop_155 ?_
            exact gx_iret C hRt hlocks dX3_ruleBrokenOnTop_158 (by simp [yRule, yGr, c_6, c_24, c_45, c_69, c_85]) rfl
          · obtain ⟨h0, hq, eq⟩ := yTop_some hOK hr c_85
            rw [eq]
            refine gx_aload_n C dX3_ruleBrokenOnTop_88 rfl ?_
            refine yg_X3_boxes C hK hT m123 dX3_ruleBrokenOnTop_89 ?_
            refine yg_X0_size C hK hT m38 dX3_ruleBrokenOnTop_92 ?_
            refine gx_iload_n C dX3_ruleBrokenOnTop_95 rfl ?_
            refine yl_1 C hK rfl (by omega) dX3_ruleBrokenOnTop_96 ?_
            refine gx_aload_n C dX3_ruleBrokenOnTop_97 rfl ?_
            refine yg_X3_boxes C hK hT m123 dX3_ruleBrokenOnTop_98 ?_
            refine yg_X0_size C hK hT m38 dX3_ruleBrokenOnTop_101 ?_
            refine gx_iload_n C dX3_ruleBrokenOnTop_104 rfl ?_
            refine yl_1 C hK rfl (by omega) dX3_ruleBrokenOnTop_105 ?_
            refine gx_icmp_eq (tgt := 111) C dX3_ruleBrokenOnTop_106 (by decide) (fun c_106 => ?_) (fun c_106 => ?_)
            · refine gx_iload_n C dX3_ruleBrokenOnTop_111 rfl ?_
              refine gx_iconst (v := (-1)) C dX3_ruleBrokenOnTop_112 (by decide) ?_
              refine gx_icmp_eq (tgt := 140) C dX3_ruleBrokenOnTop_113 (by decide) (fun c => absurd c (y_m1 (by omega))) (fun c_113 => ?_)
              refine gx_aload_n C dX3_ruleBrokenOnTop_116 rfl ?_
              refine yg_X3_boxes C hK hT m123 dX3_ruleBrokenOnTop_117 ?_
              refine yg_X0_weight C hK hT m40 dX3_ruleBrokenOnTop_120 ?_
              refine gx_iload_n C dX3_ruleBrokenOnTop_123 rfl ?_
              refine yl_2 C hK rfl (by omega) dX3_ruleBrokenOnTop_124 ?_
              refine gx_aload_n C dX3_ruleBrokenOnTop_125 rfl ?_
              refine yg_X3_boxes C hK hT m123 dX3_ruleBrokenOnTop_126 ?_
              refine yg_X0_weight C hK hT m40 dX3_ruleBrokenOnTop_129 ?_
              refine gx_iload_n C dX3_ruleBrokenOnTop_132 rfl ?_
              refine yl_2 C hK rfl (by omega) dX3_ruleBrokenOnTop_133 ?_
              refine gx_icmp_ge (tgt := 140) C dX3_ruleBrokenOnTop_134 (by decide) (fun c_134 => ?_) (fun c_134 => ?_)
              · refine gx_aload_n C dX3_ruleBrokenOnTop_140 rfl ?_
                refine yg_X3_boxes C hK hT m123 dX3_ruleBrokenOnTop_141 ?_
                refine yg_X0_kind C hK hT m46 dX3_ruleBrokenOnTop_144 ?_
                refine gx_iload_n C dX3_ruleBrokenOnTop_147 rfl ?_
                refine yl_5 C hK rfl (by omega) dX3_ruleBrokenOnTop_148 ?_
                refine gx_aload_n C dX3_ruleBrokenOnTop_149 rfl ?_
                refine yg_X3_grounds C hK hT m126 dX3_ruleBrokenOnTop_150 ?_
                refine gx_iload_n C dX3_ruleBrokenOnTop_153 rfl ?_
                refine yl_11 C hK rfl (by omega) dX3_ruleBrokenOnTop_154 ?_
                refine gx_cSi (n := 2) C hK (c_X3_ruleBrokenByGround (l := l) (D := D) (cI := cI) (cG := cG) (cL := cL) (a := u 5 b) (b := u 11 r)) (bgS hT m362 m363 m1 m364) rfl rfl rfl (by decide +kernel) ⟨Nat.le_of_ble_eq_true rfl, Nat.le_of_ble_eq_true rfl⟩ rfl rfl (Nat.le_of_ble_eq_true rfl) (Nat.zero_le _) (Nat.zero_le _) dX3_ruleBrokenOnTop_155 ?_
                exact gx_iret C hRt hlocks dX3_ruleBrokenOnTop_158 (by simp [yRule, yGr, c_6, c_24, c_45, c_69, c_85, c_106, c_134, eq, y_m1 (show yB g r (yH u r - 1) < 2 ^ 31 by omega), nI_clamp (show yB g r (yH u r - 1) < 2 ^ 31 by omega)]) rfl
              · refine gx_bipush (v := 6) C dX3_ruleBrokenOnTop_137 (by decide) ?_
                exact gx_iret C hRt hlocks dX3_ruleBrokenOnTop_139 (by simp [yRule, yGr, c_6, c_24, c_45, c_69, c_85, c_106, c_134, eq, y_m1 (show yB g r (yH u r - 1) < 2 ^ 31 by omega), nI_clamp (show yB g r (yH u r - 1) < 2 ^ 31 by omega)]) rfl
            · refine gx_iconst (v := 5) C dX3_ruleBrokenOnTop_109 (by decide) ?_
              exact gx_iret C hRt hlocks dX3_ruleBrokenOnTop_110 (by simp [yRule, yGr, c_6, c_24, c_45, c_69, c_85, c_106, eq, y_m1 (show yB g r (yH u r - 1) < 2 ^ 31 by omega), nI_clamp (show yB g r (yH u r - 1) < 2 ^ 31 by omega)]) rfl
        · refine gx_iconst (v := 4) C dX3_ruleBrokenOnTop_72 (by decide) ?_
          exact gx_iret C hRt hlocks dX3_ruleBrokenOnTop_73 (by simp [yRule, yGr, c_6, c_24, c_45, c_69]) rfl
      · refine gx_iconst (v := 3) C dX3_ruleBrokenOnTop_48 (by decide) ?_
        exact gx_iret C hRt hlocks dX3_ruleBrokenOnTop_49 (by simp [yRule, yGr, c_6, c_24, c_45]) rfl
    · refine gx_iconst (v := 2) C dX3_ruleBrokenOnTop_27 (by decide) ?_
      exact gx_iret C hRt hlocks dX3_ruleBrokenOnTop_28 (by simp [yRule, yGr, c_6, c_24]) rfl
set_option maxHeartbeats 4000000 in
set_option maxRecDepth 100000 in
/-- ruleBrokenByPut -/
theorem c_X3_ruleBrokenByPut {l : Launch} {D : va_G} {cI cG cL : ClassId} {ad : Nat → Nat} {n t : Nat} {B : Int32} {u g : Nat → Nat → Int32} {b r : Nat} (hOK : yOK n t u g) (hb : b < 60) (hr : r < n) : gx_M l yX3_ruleBrokenByPut wsX3_ruleBrokenByPut ({ frames := 2, cells := 0, slots := 0, locals := 46 }) D vwCl (gT cI cG cL) [.ref (ad 0), .int (nI b), .int (nI r)] (yW cI cG ad n t B u g) (yW cI cG ad n t B u g) (some (.int (yPutR t B u g b r))) := by
  refine gx_ofG (cc := cX3_ruleBrokenByPut) (maxL := 3) (ret := (some .int)) [some (.ref (ad 0)), some (.int (nI b)), some (.int (nI r))] (by decide) rfl rfl (Nat.le_of_ble_eq_true rfl) rfl ?_
  intro p e s m args below meth c C hRt hlocks hK
  have C : CallFix p m c cX3_ruleBrokenByPut 3 s args (wsX3_ruleBrokenByPut) RX3 := C
  have hT : ∀ w ∈ bigW, w ∈ wsX3_ruleBrokenByPut := bgT
  refine gx_aload_n C dX3_ruleBrokenByPut_0 rfl ?_
  refine yg_X3_stacks C hK hT m124 dX3_ruleBrokenByPut_1 ?_
  refine gx_iload_n C dX3_ruleBrokenByPut_4 rfl ?_
  refine gx_cVi (n := 1) (q0 := 7) C hK (c_X2_stands (l := l) (D := D) (cI := cI) (cG := cG) (cL := cL) (ad := ad) (n := n) (t := t) (B := B) (u := u) (g := g) hb) yW_fst (bgV hT m200 m173 m174 m4 m175) rfl rfl rfl (by decide +kernel) ⟨Nat.le_of_ble_eq_true rfl, Nat.le_of_ble_eq_true rfl⟩ rfl rfl rfl rfl (Nat.le_of_ble_eq_true rfl) (Nat.zero_le _) (Nat.zero_le _) dX3_ruleBrokenByPut_5 ?_
  refine gx_if_eq (tgt := 15) C dX3_ruleBrokenByPut_8 (by decide) (fun c_8 => ?_) (fun c_8 => ?_)
  · refine gx_aload_n C dX3_ruleBrokenByPut_15 rfl ?_
    refine gx_iload_n C dX3_ruleBrokenByPut_16 rfl ?_
    refine gx_iload_n C dX3_ruleBrokenByPut_17 rfl ?_
    refine gx_cVi (n := 2) (q0 := 0) C hK (c_X3_ruleBrokenOnTop (l := l) (D := D) (cI := cI) (cG := cG) (cL := cL) (ad := ad) (n := n) (t := t) (B := B) (u := u) (g := g) hOK hb hr) yW_fst (bgV hT m354 m356 slX3_ruleBrokenOnTop m1 m357) rfl rfl rfl (by decide +kernel) ⟨Nat.le_of_ble_eq_true rfl, Nat.le_of_ble_eq_true rfl⟩ rfl rfl rfl rfl (Nat.le_of_ble_eq_true rfl) (Nat.zero_le _) (Nat.zero_le _) dX3_ruleBrokenByPut_18 ?_
    exact gx_iret C hRt hlocks dX3_ruleBrokenByPut_21 (by first | exact (if_pos (ySt_f c_8)).symm | exact (if_neg (ySt_t c_8)).symm) rfl
  · refine gx_iconst (v := 1) C dX3_ruleBrokenByPut_11 (by decide) ?_
    refine gx_goto (tgt := 21) C dX3_ruleBrokenByPut_12 (by decide) ?_
    exact gx_iret C hRt hlocks dX3_ruleBrokenByPut_21 (by first | exact (if_pos (ySt_f c_8)).symm | exact (if_neg (ySt_t c_8)).symm) rfl
set_option maxHeartbeats 4000000 in
set_option maxRecDepth 100000 in
/-- ruleBrokenByShift -/
theorem c_X3_ruleBrokenByShift {l : Launch} {D : va_G} {cI cG cL : ClassId} {ad : Nat → Nat} {n t : Nat} {B : Int32} {u g : Nat → Nat → Int32} {b r : Nat} (hOK : yOK n t u g) (hb : b < 60) (hr : r < n) : gx_M l yX3_ruleBrokenByShift wsX3_ruleBrokenByShift ({ frames := 2, cells := 0, slots := 0, locals := 46 }) D vwCl (gT cI cG cL) [.ref (ad 0), .int (nI b), .int (nI r)] (yW cI cG ad n t B u g) (yW cI cG ad n t B u g) (some (.int (yShR t B u g b r))) := by
  refine gx_ofG (cc := cX3_ruleBrokenByShift) (maxL := 3) (ret := (some .int)) [some (.ref (ad 0)), some (.int (nI b)), some (.int (nI r))] (by decide) rfl rfl (Nat.le_of_ble_eq_true rfl) rfl ?_
  intro p e s m args below meth c C hRt hlocks hK
  have C : CallFix p m c cX3_ruleBrokenByShift 3 s args (wsX3_ruleBrokenByShift) RX3 := C
  have hT : ∀ w ∈ bigW, w ∈ wsX3_ruleBrokenByShift := bgT
  refine gx_aload_n C dX3_ruleBrokenByShift_0 rfl ?_
  refine yg_X3_stacks C hK hT m124 dX3_ruleBrokenByShift_1 ?_
  refine yg_X2_rowOf C hK hT m83 dX3_ruleBrokenByShift_4 ?_
  refine gx_iload_n C dX3_ruleBrokenByShift_7 rfl ?_
  refine yl_7 C hK rfl (by omega) dX3_ruleBrokenByShift_8 ?_
  refine gx_iload_n C dX3_ruleBrokenByShift_9 rfl ?_
  refine gx_icmp_ne (tgt := 17) C dX3_ruleBrokenByShift_10 (by decide) (fun c_10 => ?_) (fun c_10 => ?_)
  · refine gx_aload_n C dX3_ruleBrokenByShift_17 rfl ?_
    refine gx_iload_n C dX3_ruleBrokenByShift_18 rfl ?_
    refine gx_iload_n C dX3_ruleBrokenByShift_19 rfl ?_
    refine gx_cVi (n := 2) (q0 := 0) C hK (c_X3_ruleBrokenOnTop (l := l) (D := D) (cI := cI) (cG := cG) (cL := cL) (ad := ad) (n := n) (t := t) (B := B) (u := u) (g := g) hOK hb hr) yW_fst (bgV hT m354 m356 slX3_ruleBrokenOnTop m1 m357) rfl rfl rfl (by decide +kernel) ⟨Nat.le_of_ble_eq_true rfl, Nat.le_of_ble_eq_true rfl⟩ rfl rfl rfl rfl (Nat.le_of_ble_eq_true rfl) (Nat.zero_le _) (Nat.zero_le _) dX3_ruleBrokenByShift_20 ?_
    exact gx_iret C hRt hlocks dX3_ruleBrokenByShift_23 (by first | exact (if_neg c_10).symm | exact (if_pos c_10).symm) rfl
  · refine gx_iconst (v := 1) C dX3_ruleBrokenByShift_13 (by decide) ?_
    refine gx_goto (tgt := 23) C dX3_ruleBrokenByShift_14 (by decide) ?_
    exact gx_iret C hRt hlocks dX3_ruleBrokenByShift_23 (by first | exact (if_neg c_10).symm | exact (if_pos c_10).symm) rfl
set_option maxHeartbeats 4000000 in
set_option maxRecDepth 100000 in
/-- scoreOn -/
theorem c_X3_scoreOn {l : Launch} {D : va_G} {cI cG cL : ClassId} {ad : Nat → Nat} {n t : Nat} {B : Int32} {u g : Nat → Nat → Int32} {b r : Nat} (hOK : yOK n t u g) (hb : b < 60) (hr : r < n) : gx_M l yX3_scoreOn wsX3_scoreOn ({ frames := 1, cells := 0, slots := 0, locals := 25 }) D vwCl (gT cI cG cL) [.ref (ad 0), .int (nI b), .int (nI r)] (yW cI cG ad n t B u g) (yW cI cG ad n t B u g) (some (.int (yScore u g b r))) := by
  refine gx_ofG (cc := cX3_scoreOn) (maxL := 9) (ret := (some .int)) [some (.ref (ad 0)), some (.int (nI b)), some (.int (nI r)), none, none, none, none, none, none] (by decide) rfl rfl (Nat.le_of_ble_eq_true rfl) rfl ?_
  intro p e s m args below meth c C hRt hlocks hK
  have C : CallFix p m c cX3_scoreOn 9 s args (wsX3_scoreOn) RX3 := C
  have hT : ∀ w ∈ bigW, w ∈ wsX3_scoreOn := bgT
  have hn := hOK.hn
  have ht := hOK.ht
  have h6 := hOK.h6 hr
  have hh := hOK.hh hr
  refine gx_aload_n C dX3_scoreOn_0 rfl ?_
  refine yg_X3_reservedFor C hK hT m127 dX3_scoreOn_1 ?_
  refine gx_iload_n C dX3_scoreOn_4 rfl ?_
  refine yl_12 C hK rfl (by omega) dX3_scoreOn_5 ?_
  refine gx_if_ne (tgt := 13) C dX3_scoreOn_6 (by decide) (fun c_6 => ?_) (fun c_6 => ?_)
  · refine gx_bipush (v := 30) C dX3_scoreOn_13 (by decide) ?_
    refine gx_istore_n (lv2 := [some _, some _, some _, some _, none, none, none, none, none]) C dX3_scoreOn_15 (by decide) rfl ?_
    refine gx_aload_n C dX3_scoreOn_16 rfl ?_
    refine yg_X3_stacks C hK hT m124 dX3_scoreOn_17 ?_
    refine gx_iload_n C dX3_scoreOn_20 rfl ?_
    refine gx_cVi (n := 1) (q0 := 7) C hK (c_X2_top (l := l) (D := D) (cI := cI) (cG := cG) (cL := cL) (ad := ad) (n := n) (t := t) (B := B) (u := u) (g := g) hOK hr) yW_fst (bgV hT m358 m359 m360 m4 m361) rfl rfl rfl (by decide +kernel) ⟨Nat.le_of_ble_eq_true rfl, Nat.le_of_ble_eq_true rfl⟩ rfl rfl rfl rfl (Nat.le_of_ble_eq_true rfl) (Nat.zero_le _) (Nat.zero_le _) dX3_scoreOn_21 ?_
    refine gx_istore (lv2 := [some _, some _, some _, some _, some _, none, none, none, none]) C dX3_scoreOn_24 (by decide) rfl ?_
    refine gx_iload C dX3_scoreOn_26 rfl ?_
    refine gx_iconst (v := (-1)) C dX3_scoreOn_28 (by decide) ?_
    refine gx_icmp_ne (tgt := 37) C dX3_scoreOn_29 (by decide) (fun c_29 => ?_) (fun c_29 => ?_)
    · obtain ⟨h0, hq, eq⟩ := yTop_some hOK hr c_29
      rw [eq]
      refine gx_bipush (v := 15) C dX3_scoreOn_37 (by decide) ?_
      refine gx_aload_n C dX3_scoreOn_39 rfl ?_
      refine gx_iload_n C dX3_scoreOn_40 rfl ?_
      refine gx_iload_n C dX3_scoreOn_41 rfl ?_
      refine gx_aload_n C dX3_scoreOn_42 rfl ?_
      refine yg_X3_stacks C hK hT m124 dX3_scoreOn_43 ?_
      refine yg_X2_heights C hK hT m81 dX3_scoreOn_46 ?_
      refine gx_iload_n C dX3_scoreOn_49 rfl ?_
      refine yl_6 C hK rfl (by omega) (by omega) dX3_scoreOn_50 ?_
      rw [h6]
      refine gx_cVi (n := 3) (q0 := 0) C hK (c_X3_soonerBelow (l := l) (D := D) (cI := cI) (cG := cG) (cL := cL) (ad := ad) (n := n) (t := t) (B := B) (u := u) (g := g) hOK hb hr (Nat.le_refl _)) yW_fst (bgV hT m201 m203 slX3_soonerBelow m1 m204) rfl rfl rfl (by decide +kernel) ⟨Nat.le_of_ble_eq_true rfl, Nat.le_of_ble_eq_true rfl⟩ rfl rfl rfl rfl (Nat.le_of_ble_eq_true rfl) (Nat.zero_le _) (Nat.zero_le _) dX3_scoreOn_51 ?_
      refine gx_imul C dX3_scoreOn_54 ?_
      refine gx_istore (lv2 := [some _, some _, some _, some _, some _, some _, none, none, none]) C dX3_scoreOn_55 (by decide) rfl ?_
      refine gx_aload_n C dX3_scoreOn_57 rfl ?_
      refine yg_X3_boxes C hK hT m123 dX3_scoreOn_58 ?_
      refine yg_X0_ship C hK hT m44 dX3_scoreOn_61 ?_
      refine gx_iload C dX3_scoreOn_64 rfl ?_
      refine yl_4 C hK rfl (by omega) dX3_scoreOn_66 ?_
      refine gx_aload_n C dX3_scoreOn_67 rfl ?_
      refine yg_X3_boxes C hK hT m123 dX3_scoreOn_68 ?_
      refine yg_X0_ship C hK hT m44 dX3_scoreOn_71 ?_
      refine gx_iload_n C dX3_scoreOn_74 rfl ?_
      refine yl_4 C hK rfl (by omega) dX3_scoreOn_75 ?_
      refine gx_icmp_ne (tgt := 84) C dX3_scoreOn_76 (by decide) (fun c_76 => ?_) (fun c_76 => ?_)
      · refine gx_iconst (v := 0) C dX3_scoreOn_84 (by decide) ?_
        refine gx_istore (lv2 := [some _, some _, some _, some _, some _, some _, some _, none, none]) C dX3_scoreOn_85 (by decide) rfl ?_
        refine gx_aload_n C dX3_scoreOn_87 rfl ?_
        refine yg_X3_boxes C hK hT m123 dX3_scoreOn_88 ?_
        refine yg_X0_weight C hK hT m40 dX3_scoreOn_91 ?_
        refine gx_iload C dX3_scoreOn_94 rfl ?_
        refine yl_2 C hK rfl (by omega) dX3_scoreOn_96 ?_
        refine gx_aload_n C dX3_scoreOn_97 rfl ?_
        refine yg_X3_boxes C hK hT m123 dX3_scoreOn_98 ?_
        refine yg_X0_weight C hK hT m40 dX3_scoreOn_101 ?_
        refine gx_iload_n C dX3_scoreOn_104 rfl ?_
        refine yl_2 C hK rfl (by omega) dX3_scoreOn_105 ?_
        refine gx_isub C dX3_scoreOn_106 ?_
        refine gx_istore (lv2 := [some _, some _, some _, some _, some _, some _, some _, some _, none]) C dX3_scoreOn_107 (by decide) rfl ?_
        refine gx_iconst (v := 3) C dX3_scoreOn_109 (by decide) ?_
        refine gx_iload C dX3_scoreOn_110 rfl ?_
        refine gx_imul C dX3_scoreOn_112 ?_
        refine gx_bipush (v := 24) C dX3_scoreOn_113 (by decide) ?_
        refine gx_mmin C (hT _ m25) (hT _ mMmin_s) (hT _ m2) (hT _ mMmin_c) (Nat.le_of_ble_eq_true rfl) (Nat.le_of_ble_eq_true rfl) (Nat.zero_le _) (Nat.zero_le _) dX3_scoreOn_115 ?_
        refine gx_istore (lv2 := [some _, some _, some _, some _, some _, some _, some _, some _, some _]) C dX3_scoreOn_118 (by decide) rfl ?_
        refine gx_bipush (v := 40) C dX3_scoreOn_120 (by decide) ?_
        refine gx_iload C dX3_scoreOn_122 rfl ?_
        refine gx_isub C dX3_scoreOn_124 ?_
        refine gx_iload C dX3_scoreOn_125 rfl ?_
        refine gx_iadd C dX3_scoreOn_127 ?_
        refine gx_iload C dX3_scoreOn_128 rfl ?_
        refine gx_isub C dX3_scoreOn_130 ?_
        refine gx_iload_n C dX3_scoreOn_131 rfl ?_
        refine gx_iadd C dX3_scoreOn_132 ?_
        exact gx_iret C hRt hlocks dX3_scoreOn_133 (by simp [yScore, yMin, c_6, c_76, eq, y_m1 (show yB g r (yH u r - 1) < 2 ^ 31 by omega), nI_clamp (show yB g r (yH u r - 1) < 2 ^ 31 by omega)]) rfl
      · refine gx_bipush (v := 12) C dX3_scoreOn_79 (by decide) ?_
        refine gx_goto (tgt := 85) C dX3_scoreOn_81 (by decide) ?_
        refine gx_istore (lv2 := [some _, some _, some _, some _, some _, some _, some _, none, none]) C dX3_scoreOn_85 (by decide) rfl ?_
        refine gx_aload_n C dX3_scoreOn_87 rfl ?_
        refine yg_X3_boxes C hK hT m123 dX3_scoreOn_88 ?_
        refine yg_X0_weight C hK hT m40 dX3_scoreOn_91 ?_
        refine gx_iload C dX3_scoreOn_94 rfl ?_
        refine yl_2 C hK rfl (by omega) dX3_scoreOn_96 ?_
        refine gx_aload_n C dX3_scoreOn_97 rfl ?_
        refine yg_X3_boxes C hK hT m123 dX3_scoreOn_98 ?_
        refine yg_X0_weight C hK hT m40 dX3_scoreOn_101 ?_
        refine gx_iload_n C dX3_scoreOn_104 rfl ?_
        refine yl_2 C hK rfl (by omega) dX3_scoreOn_105 ?_
        refine gx_isub C dX3_scoreOn_106 ?_
        refine gx_istore (lv2 := [some _, some _, some _, some _, some _, some _, some _, some _, none]) C dX3_scoreOn_107 (by decide) rfl ?_
        refine gx_iconst (v := 3) C dX3_scoreOn_109 (by decide) ?_
        refine gx_iload C dX3_scoreOn_110 rfl ?_
        refine gx_imul C dX3_scoreOn_112 ?_
        refine gx_bipush (v := 24) C dX3_scoreOn_113 (by decide) ?_
        refine gx_mmin C (hT _ m25) (hT _ mMmin_s) (hT _ m2) (hT _ mMmin_c) (Nat.le_of_ble_eq_true rfl) (Nat.le_of_ble_eq_true rfl) (Nat.zero_le _) (Nat.zero_le _) dX3_scoreOn_115 ?_
        refine gx_istore (lv2 := [some _, some _, some _, some _, some _, some _, some _, some _, some _]) C dX3_scoreOn_118 (by decide) rfl ?_
        refine gx_bipush (v := 40) C dX3_scoreOn_120 (by decide) ?_
        refine gx_iload C dX3_scoreOn_122 rfl ?_
        refine gx_isub C dX3_scoreOn_124 ?_
        refine gx_iload C dX3_scoreOn_125 rfl ?_
        refine gx_iadd C dX3_scoreOn_127 ?_
        refine gx_iload C dX3_scoreOn_128 rfl ?_
        refine gx_isub C dX3_scoreOn_130 ?_
        refine gx_iload_n C dX3_scoreOn_131 rfl ?_
        refine gx_iadd C dX3_scoreOn_132 ?_
        exact gx_iret C hRt hlocks dX3_scoreOn_133 (by simp [yScore, yMin, c_6, c_76, eq, y_m1 (show yB g r (yH u r - 1) < 2 ^ 31 by omega), nI_clamp (show yB g r (yH u r - 1) < 2 ^ 31 by omega)]) rfl
    · refine gx_bipush (v := 20) C dX3_scoreOn_32 (by decide) ?_
      refine gx_iload_n C dX3_scoreOn_34 rfl ?_
      refine gx_iadd C dX3_scoreOn_35 ?_
      exact gx_iret C hRt hlocks dX3_scoreOn_36 (by simp [yScore, yMin, c_6, c_29]) rfl
  · refine gx_iconst (v := 0) C dX3_scoreOn_9 (by decide) ?_
    refine gx_goto (tgt := 15) C dX3_scoreOn_10 (by decide) ?_
    refine gx_istore_n (lv2 := [some _, some _, some _, some _, none, none, none, none, none]) C dX3_scoreOn_15 (by decide) rfl ?_
    refine gx_aload_n C dX3_scoreOn_16 rfl ?_
    refine yg_X3_stacks C hK hT m124 dX3_scoreOn_17 ?_
    refine gx_iload_n C dX3_scoreOn_20 rfl ?_
    refine gx_cVi (n := 1) (q0 := 7) C hK (c_X2_top (l := l) (D := D) (cI := cI) (cG := cG) (cL := cL) (ad := ad) (n := n) (t := t) (B := B) (u := u) (g := g) hOK hr) yW_fst (bgV hT m358 m359 m360 m4 m361) rfl rfl rfl (by decide +kernel) ⟨Nat.le_of_ble_eq_true rfl, Nat.le_of_ble_eq_true rfl⟩ rfl rfl rfl rfl (Nat.le_of_ble_eq_true rfl) (Nat.zero_le _) (Nat.zero_le _) dX3_scoreOn_21 ?_
    refine gx_istore (lv2 := [some _, some _, some _, some _, some _, none, none, none, none]) C dX3_scoreOn_24 (by decide) rfl ?_
    refine gx_iload C dX3_scoreOn_26 rfl ?_
    refine gx_iconst (v := (-1)) C dX3_scoreOn_28 (by decide) ?_
    refine gx_icmp_ne (tgt := 37) C dX3_scoreOn_29 (by decide) (fun c_29 => ?_) (fun c_29 => ?_)
    · obtain ⟨h0, hq, eq⟩ := yTop_some hOK hr c_29
      rw [eq]
      refine gx_bipush (v := 15) C dX3_scoreOn_37 (by decide) ?_
      refine gx_aload_n C dX3_scoreOn_39 rfl ?_
      refine gx_iload_n C dX3_scoreOn_40 rfl ?_
      refine gx_iload_n C dX3_scoreOn_41 rfl ?_
      refine gx_aload_n C dX3_scoreOn_42 rfl ?_
      refine yg_X3_stacks C hK hT m124 dX3_scoreOn_43 ?_
      refine yg_X2_heights C hK hT m81 dX3_scoreOn_46 ?_
      refine gx_iload_n C dX3_scoreOn_49 rfl ?_
      refine yl_6 C hK rfl (by omega) (by omega) dX3_scoreOn_50 ?_
      rw [h6]
      refine gx_cVi (n := 3) (q0 := 0) C hK (c_X3_soonerBelow (l := l) (D := D) (cI := cI) (cG := cG) (cL := cL) (ad := ad) (n := n) (t := t) (B := B) (u := u) (g := g) hOK hb hr (Nat.le_refl _)) yW_fst (bgV hT m201 m203 slX3_soonerBelow m1 m204) rfl rfl rfl (by decide +kernel) ⟨Nat.le_of_ble_eq_true rfl, Nat.le_of_ble_eq_true rfl⟩ rfl rfl rfl rfl (Nat.le_of_ble_eq_true rfl) (Nat.zero_le _) (Nat.zero_le _) dX3_scoreOn_51 ?_
      refine gx_imul C dX3_scoreOn_54 ?_
      refine gx_istore (lv2 := [some _, some _, some _, some _, some _, some _, none, none, none]) C dX3_scoreOn_55 (by decide) rfl ?_
      refine gx_aload_n C dX3_scoreOn_57 rfl ?_
      refine yg_X3_boxes C hK hT m123 dX3_scoreOn_58 ?_
      refine yg_X0_ship C hK hT m44 dX3_scoreOn_61 ?_
      refine gx_iload C dX3_scoreOn_64 rfl ?_
      refine yl_4 C hK rfl (by omega) dX3_scoreOn_66 ?_
      refine gx_aload_n C dX3_scoreOn_67 rfl ?_
      refine yg_X3_boxes C hK hT m123 dX3_scoreOn_68 ?_
      refine yg_X0_ship C hK hT m44 dX3_scoreOn_71 ?_
      refine gx_iload_n C dX3_scoreOn_74 rfl ?_
      refine yl_4 C hK rfl (by omega) dX3_scoreOn_75 ?_
      refine gx_icmp_ne (tgt := 84) C dX3_scoreOn_76 (by decide) (fun c_76 => ?_) (fun c_76 => ?_)
      · refine gx_iconst (v := 0) C dX3_scoreOn_84 (by decide) ?_
        refine gx_istore (lv2 := [some _, some _, some _, some _, some _, some _, some _, none, none]) C dX3_scoreOn_85 (by decide) rfl ?_
        refine gx_aload_n C dX3_scoreOn_87 rfl ?_
        refine yg_X3_boxes C hK hT m123 dX3_scoreOn_88 ?_
        refine yg_X0_weight C hK hT m40 dX3_scoreOn_91 ?_
        refine gx_iload C dX3_scoreOn_94 rfl ?_
        refine yl_2 C hK rfl (by omega) dX3_scoreOn_96 ?_
        refine gx_aload_n C dX3_scoreOn_97 rfl ?_
        refine yg_X3_boxes C hK hT m123 dX3_scoreOn_98 ?_
        refine yg_X0_weight C hK hT m40 dX3_scoreOn_101 ?_
        refine gx_iload_n C dX3_scoreOn_104 rfl ?_
        refine yl_2 C hK rfl (by omega) dX3_scoreOn_105 ?_
        refine gx_isub C dX3_scoreOn_106 ?_
        refine gx_istore (lv2 := [some _, some _, some _, some _, some _, some _, some _, some _, none]) C dX3_scoreOn_107 (by decide) rfl ?_
        refine gx_iconst (v := 3) C dX3_scoreOn_109 (by decide) ?_
        refine gx_iload C dX3_scoreOn_110 rfl ?_
        refine gx_imul C dX3_scoreOn_112 ?_
        refine gx_bipush (v := 24) C dX3_scoreOn_113 (by decide) ?_
        refine gx_mmin C (hT _ m25) (hT _ mMmin_s) (hT _ m2) (hT _ mMmin_c) (Nat.le_of_ble_eq_true rfl) (Nat.le_of_ble_eq_true rfl) (Nat.zero_le _) (Nat.zero_le _) dX3_scoreOn_115 ?_
        refine gx_istore (lv2 := [some _, some _, some _, some _, some _, some _, some _, some _, some _]) C dX3_scoreOn_118 (by decide) rfl ?_
        refine gx_bipush (v := 40) C dX3_scoreOn_120 (by decide) ?_
        refine gx_iload C dX3_scoreOn_122 rfl ?_
        refine gx_isub C dX3_scoreOn_124 ?_
        refine gx_iload C dX3_scoreOn_125 rfl ?_
        refine gx_iadd C dX3_scoreOn_127 ?_
        refine gx_iload C dX3_scoreOn_128 rfl ?_
        refine gx_isub C dX3_scoreOn_130 ?_
        refine gx_iload_n C dX3_scoreOn_131 rfl ?_
        refine gx_iadd C dX3_scoreOn_132 ?_
        exact gx_iret C hRt hlocks dX3_scoreOn_133 (by simp [yScore, yMin, c_6, c_76, eq, y_m1 (show yB g r (yH u r - 1) < 2 ^ 31 by omega), nI_clamp (show yB g r (yH u r - 1) < 2 ^ 31 by omega)]) rfl
      · refine gx_bipush (v := 12) C dX3_scoreOn_79 (by decide) ?_
        refine gx_goto (tgt := 85) C dX3_scoreOn_81 (by decide) ?_
        refine gx_istore (lv2 := [some _, some _, some _, some _, some _, some _, some _, none, none]) C dX3_scoreOn_85 (by decide) rfl ?_
        refine gx_aload_n C dX3_scoreOn_87 rfl ?_
        refine yg_X3_boxes C hK hT m123 dX3_scoreOn_88 ?_
        refine yg_X0_weight C hK hT m40 dX3_scoreOn_91 ?_
        refine gx_iload C dX3_scoreOn_94 rfl ?_
        refine yl_2 C hK rfl (by omega) dX3_scoreOn_96 ?_
        refine gx_aload_n C dX3_scoreOn_97 rfl ?_
        refine yg_X3_boxes C hK hT m123 dX3_scoreOn_98 ?_
        refine yg_X0_weight C hK hT m40 dX3_scoreOn_101 ?_
        refine gx_iload_n C dX3_scoreOn_104 rfl ?_
        refine yl_2 C hK rfl (by omega) dX3_scoreOn_105 ?_
        refine gx_isub C dX3_scoreOn_106 ?_
        refine gx_istore (lv2 := [some _, some _, some _, some _, some _, some _, some _, some _, none]) C dX3_scoreOn_107 (by decide) rfl ?_
        refine gx_iconst (v := 3) C dX3_scoreOn_109 (by decide) ?_
        refine gx_iload C dX3_scoreOn_110 rfl ?_
        refine gx_imul C dX3_scoreOn_112 ?_
        refine gx_bipush (v := 24) C dX3_scoreOn_113 (by decide) ?_
        refine gx_mmin C (hT _ m25) (hT _ mMmin_s) (hT _ m2) (hT _ mMmin_c) (Nat.le_of_ble_eq_true rfl) (Nat.le_of_ble_eq_true rfl) (Nat.zero_le _) (Nat.zero_le _) dX3_scoreOn_115 ?_
        refine gx_istore (lv2 := [some _, some _, some _, some _, some _, some _, some _, some _, some _]) C dX3_scoreOn_118 (by decide) rfl ?_
        refine gx_bipush (v := 40) C dX3_scoreOn_120 (by decide) ?_
        refine gx_iload C dX3_scoreOn_122 rfl ?_
        refine gx_isub C dX3_scoreOn_124 ?_
        refine gx_iload C dX3_scoreOn_125 rfl ?_
        refine gx_iadd C dX3_scoreOn_127 ?_
        refine gx_iload C dX3_scoreOn_128 rfl ?_
        refine gx_isub C dX3_scoreOn_130 ?_
        refine gx_iload_n C dX3_scoreOn_131 rfl ?_
        refine gx_iadd C dX3_scoreOn_132 ?_
        exact gx_iret C hRt hlocks dX3_scoreOn_133 (by simp [yScore, yMin, c_6, c_76, eq, y_m1 (show yB g r (yH u r - 1) < 2 ^ 31 by omega), nI_clamp (show yB g r (yH u r - 1) < 2 ^ 31 by omega)]) rfl
    · refine gx_bipush (v := 20) C dX3_scoreOn_32 (by decide) ?_
      refine gx_iload_n C dX3_scoreOn_34 rfl ?_
      refine gx_iadd C dX3_scoreOn_35 ?_
      exact gx_iret C hRt hlocks dX3_scoreOn_36 (by simp [yScore, yMin, c_6, c_29]) rfl
set_option maxHeartbeats 4000000 in
set_option maxRecDepth 100000 in
theorem lp_X3_bestRow {l : Launch} {D : va_G} {cI cG cL : ClassId} {ad : Nat → Nat} {n t : Nat} {B : Int32} {u g : Nat → Nat → Int32} {b : Nat} {k : Bool} {p : Program} {e : Env} {s : State} {m : MethodId} {args : Array Value} {below : List Frame} {meth : Method} {c : Code} (C : CallFix p m c cX3_bestRow 7 s args wsX3_bestRow RX3) (hT : ∀ w ∈ bigW, w ∈ wsX3_bestRow) (hRt : meth.sig.returnType = (some .int)) (hlocks : meth.locks = false) (hK : va_K D vwCl (gT cI cG cL) s) (hOK : yOK n t u g) (hb : b < 60)  : ∀ (d j : Nat) (x y : Int32) (w : Option Value), j + d = n → (x, y) = yBest t B u g b k j → gx_G p l e (headSpec wsX3_bestRow ({ frames := 3, cells := 0, slots := 0, locals := 68 })).room s m args below meth c D vwCl (gx_in (yW cI cG ad n t B u g)) 7 0 0 (gx_Qm D vwCl below args s (yW cI cG ad n t B u g) (yW cI cG ad n t B u g) (some (.int ((yBest t B u g b k n).1)))) (yW cI cG ad n t B u g) 8 [some (.ref (ad 0)), some (.int (nI b)), some (.int (bI k)), some (.int x), some (.int y), some (.int (nI j)), w] [] := by
  intro d
  induction d with
  | zero =>
    intro j x y w hj hx
    have hn := hOK.hn
    refine gx_iload C dX3_bestRow_8 rfl ?_
    refine gx_aload_n C dX3_bestRow_10 rfl ?_
    refine yg_X3_stacks C hK hT m124 dX3_bestRow_11 ?_
    refine yg_X2_rows C hK hT m75 dX3_bestRow_14 ?_
    refine gx_icmp_ge (tgt := 81) C dX3_bestRow_17 (by decide) (fun c_17 => ?_) (fun c => absurd (nI_le (by omega) (by omega)) c)
    refine gx_iload_n C dX3_bestRow_81 rfl ?_
    exact gx_iret C hRt hlocks dX3_bestRow_82 (by have hj9 : j = n := (by omega); rw [hj9] at hx; rw [← hx]) rfl
  | succ d ih =>
    intro j x y w hj hx
    have hn := hOK.hn
    refine gx_iload C dX3_bestRow_8 rfl ?_
    refine gx_aload_n C dX3_bestRow_10 rfl ?_
    refine yg_X3_stacks C hK hT m124 dX3_bestRow_11 ?_
    refine yg_X2_rows C hK hT m75 dX3_bestRow_14 ?_
    refine gx_icmp_ge (tgt := 81) C dX3_bestRow_17 (by decide) (fun c => absurd c (nI_ge (by omega) (by omega))) (fun c_17 => ?_)
    refine gx_aload_n C dX3_bestRow_20 rfl ?_
    refine gx_iload_n C dX3_bestRow_21 rfl ?_
    refine gx_iload C dX3_bestRow_22 rfl ?_
    refine gx_cVi (n := 2) (q0 := 0) C hK (c_X3_ruleBrokenByShift (l := l) (D := D) (cI := cI) (cG := cG) (cL := cL) (ad := ad) (n := n) (t := t) (B := B) (u := u) (g := g) hOK hb (show j < n by omega)) yW_fst (bgV hT m396 m398 slX3_ruleBrokenByShift m1 m399) rfl rfl rfl (by decide +kernel) ⟨Nat.le_of_ble_eq_true rfl, Nat.le_of_ble_eq_true rfl⟩ rfl rfl rfl rfl (Nat.le_of_ble_eq_true rfl) (Nat.zero_le _) (Nat.zero_le _) dX3_bestRow_24 ?_
    refine gx_if_ne (tgt := 75) C dX3_bestRow_27 (by decide) (fun c_27 => ?_) (fun c_27 => ?_)
    · refine gx_iincN (lv2 := [some _, some _, some _, some _, some _, some _, _]) C dX3_bestRow_75 rfl (by decide) rfl ?_
      refine gx_goto (tgt := 8) C dX3_bestRow_78 (by decide) ?_
      exact ih (j + 1) _ _ _ (by omega) (by rw [yBest]; rw [if_pos (Or.inl c_27)]; exact hx)
    · refine gx_iload_n C dX3_bestRow_30 rfl ?_
      refine gx_if_eq (tgt := 47) C dX3_bestRow_31 (by decide) (fun c_31 => ?_) (fun c_31 => ?_)
      · refine gx_aload_n C dX3_bestRow_47 rfl ?_
        refine gx_iload_n C dX3_bestRow_48 rfl ?_
        refine gx_iload C dX3_bestRow_49 rfl ?_
        refine gx_cVi (n := 2) (q0 := 0) C hK (c_X3_scoreOn (l := l) (D := D) (cI := cI) (cG := cG) (cL := cL) (ad := ad) (n := n) (t := t) (B := B) (u := u) (g := g) hOK hb (show j < n by omega)) yW_fst (bgV hT m415 m417 slX3_scoreOn m1 m418) rfl rfl rfl (by decide +kernel) ⟨Nat.le_of_ble_eq_true rfl, Nat.le_of_ble_eq_true rfl⟩ rfl rfl rfl rfl (Nat.le_of_ble_eq_true rfl) (Nat.zero_le _) (Nat.zero_le _) dX3_bestRow_51 ?_
        refine gx_istore (lv2 := [some _, some _, some _, some _, some _, some _, some _]) C dX3_bestRow_54 (by decide) rfl ?_
        refine gx_iload_n C dX3_bestRow_56 rfl ?_
        refine gx_iconst (v := (-1)) C dX3_bestRow_57 (by decide) ?_
        refine gx_icmp_eq (tgt := 68) C dX3_bestRow_58 (by decide) (fun c_58 => ?_) (fun c_58 => ?_)
        · refine gx_iload C dX3_bestRow_68 rfl ?_
          refine gx_istore_n (lv2 := [some _, some _, some _, some _, some _, some _, some _]) C dX3_bestRow_70 (by decide) rfl ?_
          refine gx_iload C dX3_bestRow_71 rfl ?_
          refine gx_istore (lv2 := [some _, some _, some _, some _, some _, some _, some _]) C dX3_bestRow_73 (by decide) rfl ?_
          refine gx_iincN (lv2 := [some _, some _, some _, some _, some _, some _, some _]) C dX3_bestRow_75 rfl (by decide) rfl ?_
          refine gx_goto (tgt := 8) C dX3_bestRow_78 (by decide) ?_
          exact ih (j + 1) _ _ _ (by omega) (by rw [yBest]; rw [if_neg (fun q => q.elim (fun q => q c_27) (fun q => by rw [bI_f c_31] at q; exact absurd q.1 (by decide))), ← hx, if_pos (Or.inl c_58)])
        · refine gx_iload C dX3_bestRow_61 rfl ?_
          refine gx_iload C dX3_bestRow_63 rfl ?_
          refine gx_icmp_le (tgt := 75) C dX3_bestRow_65 (by decide) (fun c_65 => ?_) (fun c_65 => ?_)
          · refine gx_iincN (lv2 := [some _, some _, some _, some _, some _, some _, some _]) C dX3_bestRow_75 rfl (by decide) rfl ?_
            refine gx_goto (tgt := 8) C dX3_bestRow_78 (by decide) ?_
            exact ih (j + 1) _ _ _ (by omega) (by rw [yBest]; rw [if_neg (fun q => q.elim (fun q => q c_27) (fun q => by rw [bI_f c_31] at q; exact absurd q.1 (by decide))), ← hx, if_neg (fun q => q.elim (fun q => c_58 q) (fun q => q c_65))])
          · refine gx_iload C dX3_bestRow_68 rfl ?_
            refine gx_istore_n (lv2 := [some _, some _, some _, some _, some _, some _, some _]) C dX3_bestRow_70 (by decide) rfl ?_
            refine gx_iload C dX3_bestRow_71 rfl ?_
            refine gx_istore (lv2 := [some _, some _, some _, some _, some _, some _, some _]) C dX3_bestRow_73 (by decide) rfl ?_
            refine gx_iincN (lv2 := [some _, some _, some _, some _, some _, some _, some _]) C dX3_bestRow_75 rfl (by decide) rfl ?_
            refine gx_goto (tgt := 8) C dX3_bestRow_78 (by decide) ?_
            exact ih (j + 1) _ _ _ (by omega) (by rw [yBest]; rw [if_neg (fun q => q.elim (fun q => q c_27) (fun q => by rw [bI_f c_31] at q; exact absurd q.1 (by decide))), ← hx, if_pos (Or.inr c_65)])
      · refine gx_aload_n C dX3_bestRow_34 rfl ?_
        refine gx_iload_n C dX3_bestRow_35 rfl ?_
        refine gx_iload C dX3_bestRow_36 rfl ?_
        refine gx_cVi (n := 2) (q0 := 0) C hK (c_X3_wouldBeInTheWay (l := l) (D := D) (cI := cI) (cG := cG) (cL := cL) (ad := ad) (n := n) (t := t) (B := B) (u := u) (g := g) hOK hb (show j < n by omega)) yW_fst (bgV hT m411 m413 slX3_wouldBeInTheWay m1 m414) rfl rfl rfl (by decide +kernel) ⟨Nat.le_of_ble_eq_true rfl, Nat.le_of_ble_eq_true rfl⟩ rfl rfl rfl rfl (Nat.le_of_ble_eq_true rfl) (Nat.zero_le _) (Nat.zero_le _) dX3_bestRow_38 ?_
        refine gx_if_eq (tgt := 47) C dX3_bestRow_41 (by decide) (fun c_41 => ?_) (fun c_41 => ?_)
        · refine gx_aload_n C dX3_bestRow_47 rfl ?_
          refine gx_iload_n C dX3_bestRow_48 rfl ?_
          refine gx_iload C dX3_bestRow_49 rfl ?_
          refine gx_cVi (n := 2) (q0 := 0) C hK (c_X3_scoreOn (l := l) (D := D) (cI := cI) (cG := cG) (cL := cL) (ad := ad) (n := n) (t := t) (B := B) (u := u) (g := g) hOK hb (show j < n by omega)) yW_fst (bgV hT m415 m417 slX3_scoreOn m1 m418) rfl rfl rfl (by decide +kernel) ⟨Nat.le_of_ble_eq_true rfl, Nat.le_of_ble_eq_true rfl⟩ rfl rfl rfl rfl (Nat.le_of_ble_eq_true rfl) (Nat.zero_le _) (Nat.zero_le _) dX3_bestRow_51 ?_
          refine gx_istore (lv2 := [some _, some _, some _, some _, some _, some _, some _]) C dX3_bestRow_54 (by decide) rfl ?_
          refine gx_iload_n C dX3_bestRow_56 rfl ?_
          refine gx_iconst (v := (-1)) C dX3_bestRow_57 (by decide) ?_
          refine gx_icmp_eq (tgt := 68) C dX3_bestRow_58 (by decide) (fun c_58 => ?_) (fun c_58 => ?_)
          · refine gx_iload C dX3_bestRow_68 rfl ?_
            refine gx_istore_n (lv2 := [some _, some _, some _, some _, some _, some _, some _]) C dX3_bestRow_70 (by decide) rfl ?_
            refine gx_iload C dX3_bestRow_71 rfl ?_
            refine gx_istore (lv2 := [some _, some _, some _, some _, some _, some _, some _]) C dX3_bestRow_73 (by decide) rfl ?_
            refine gx_iincN (lv2 := [some _, some _, some _, some _, some _, some _, some _]) C dX3_bestRow_75 rfl (by decide) rfl ?_
            refine gx_goto (tgt := 8) C dX3_bestRow_78 (by decide) ?_
            exact ih (j + 1) _ _ _ (by omega) (by rw [yBest]; rw [if_neg (fun q => q.elim (fun q => q c_27) (fun q => by rw [bI_f c_41] at q; exact absurd q.2 (by decide))), ← hx, if_pos (Or.inl c_58)])
          · refine gx_iload C dX3_bestRow_61 rfl ?_
            refine gx_iload C dX3_bestRow_63 rfl ?_
            refine gx_icmp_le (tgt := 75) C dX3_bestRow_65 (by decide) (fun c_65 => ?_) (fun c_65 => ?_)
            · refine gx_iincN (lv2 := [some _, some _, some _, some _, some _, some _, some _]) C dX3_bestRow_75 rfl (by decide) rfl ?_
              refine gx_goto (tgt := 8) C dX3_bestRow_78 (by decide) ?_
              exact ih (j + 1) _ _ _ (by omega) (by rw [yBest]; rw [if_neg (fun q => q.elim (fun q => q c_27) (fun q => by rw [bI_f c_41] at q; exact absurd q.2 (by decide))), ← hx, if_neg (fun q => q.elim (fun q => c_58 q) (fun q => q c_65))])
            · refine gx_iload C dX3_bestRow_68 rfl ?_
              refine gx_istore_n (lv2 := [some _, some _, some _, some _, some _, some _, some _]) C dX3_bestRow_70 (by decide) rfl ?_
              refine gx_iload C dX3_bestRow_71 rfl ?_
              refine gx_istore (lv2 := [some _, some _, some _, some _, some _, some _, some _]) C dX3_bestRow_73 (by decide) rfl ?_
              refine gx_iincN (lv2 := [some _, some _, some _, some _, some _, some _, some _]) C dX3_bestRow_75 rfl (by decide) rfl ?_
              refine gx_goto (tgt := 8) C dX3_bestRow_78 (by decide) ?_
              exact ih (j + 1) _ _ _ (by omega) (by rw [yBest]; rw [if_neg (fun q => q.elim (fun q => q c_27) (fun q => by rw [bI_f c_41] at q; exact absurd q.2 (by decide))), ← hx, if_pos (Or.inr c_65)])
        · refine gx_goto (tgt := 75) C dX3_bestRow_44 (by decide) ?_
          refine gx_iincN (lv2 := [some _, some _, some _, some _, some _, some _, _]) C dX3_bestRow_75 rfl (by decide) rfl ?_
          refine gx_goto (tgt := 8) C dX3_bestRow_78 (by decide) ?_
          exact ih (j + 1) _ _ _ (by omega) (by rw [yBest]; rw [if_pos (Or.inr ⟨bI_t c_31, bI_t c_41⟩)]; exact hx)
set_option maxHeartbeats 4000000 in
set_option maxRecDepth 100000 in
/-- bestRow -/
theorem c_X3_bestRow {l : Launch} {D : va_G} {cI cG cL : ClassId} {ad : Nat → Nat} {n t : Nat} {B : Int32} {u g : Nat → Nat → Int32} {b : Nat} {k : Bool} (hOK : yOK n t u g) (hb : b < 60) : gx_M l yX3_bestRow wsX3_bestRow ({ frames := 3, cells := 0, slots := 0, locals := 68 }) D vwCl (gT cI cG cL) [.ref (ad 0), .int (nI b), .int (bI k)] (yW cI cG ad n t B u g) (yW cI cG ad n t B u g) (some (.int ((yBest t B u g b k n).1))) := by
  refine gx_ofG (cc := cX3_bestRow) (maxL := 7) (ret := (some .int)) [some (.ref (ad 0)), some (.int (nI b)), some (.int (bI k)), none, none, none, none] (by decide) rfl rfl (Nat.le_of_ble_eq_true rfl) rfl ?_
  intro p e s m args below meth c C hRt hlocks hK
  have C : CallFix p m c cX3_bestRow 7 s args (wsX3_bestRow) RX3 := C
  have hT : ∀ w ∈ bigW, w ∈ wsX3_bestRow := bgT
  have hn := hOK.hn
  refine gx_iconst (v := (-1)) C dX3_bestRow_0 (by decide) ?_
  refine gx_istore_n (lv2 := [some _, some _, some _, some _, none, none, none]) C dX3_bestRow_1 (by decide) rfl ?_
  refine gx_iconst (v := 0) C dX3_bestRow_2 (by decide) ?_
  refine gx_istore (lv2 := [some _, some _, some _, some _, some _, none, none]) C dX3_bestRow_3 (by decide) rfl ?_
  refine gx_iconst (v := 0) C dX3_bestRow_5 (by decide) ?_
  refine gx_istore (lv2 := [some _, some _, some _, some _, some _, some _, none]) C dX3_bestRow_6 (by decide) rfl ?_
  exact lp_X3_bestRow C hT hRt hlocks hK hOK hb (n) 0 _ _ _ (by omega) rfl

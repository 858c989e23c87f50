set_option maxHeartbeats 4000000 in
set_option maxRecDepth 100000 in
/-- isWithin -/
theorem c_X3_isWithin {l : Launch} {D : va_G} {cI cG cL : ClassId} {v a b : Int32}   : gx_M l yX3_isWithin wsX3_isWithin ({ frames := 0, cells := 0, slots := 0, locals := 0 }) D vwCl (gT cI cG cL) [.int v, .int a, .int b] [] [] (some (.int (bI (yIn v a b)))) := by
  refine gx_ofG (cc := cX3_isWithin) (maxL := 3) (ret := (some .boolean)) [some (.int v), some (.int a), some (.int b)] (by decide) rfl rfl (Nat.le_of_ble_eq_true rfl) rfl ?_
  intro p e s m args below meth c C hRt hlocks hK
  have C : CallFix p m c cX3_isWithin 3 s args (wsX3_isWithin) RX3 := C
  have hT : ∀ w ∈ bigW, w ∈ wsX3_isWithin := bgT
  refine gx_iload_n C dX3_isWithin_0 rfl ?_
  refine gx_iload_n C dX3_isWithin_1 rfl ?_
  refine gx_icmp_lt (tgt := 14) C dX3_isWithin_2 (by decide) (fun c_2 => ?_) (fun c_2 => ?_)
  · refine gx_iconst (v := 0) C dX3_isWithin_14 (by decide) ?_
    exact gx_zret C hRt hlocks dX3_isWithin_15 rfl (by first | exact bI_pt (decide_eq_true ⟨Int32.not_lt.mp c_2, Int32.not_lt.mp c_7⟩) | exact bI_pf (decide_eq_false (fun q => absurd c_2 (Int32.not_lt.mpr q.1))) | exact bI_pf (decide_eq_false (fun q => absurd c_7 (Int32.not_lt.mpr q.2)))) rfl
  · refine gx_iload_n C dX3_isWithin_5 rfl ?_
    refine gx_iload_n C dX3_isWithin_6 rfl ?_
    refine gx_icmp_gt (tgt := 14) C dX3_isWithin_7 (by decide) (fun c_7 => ?_) (fun c_7 => ?_)
    · refine gx_iconst (v := 0) C dX3_isWithin_14 (by decide) ?_
      exact gx_zret C hRt hlocks dX3_isWithin_15 rfl (by first | exact bI_pt (decide_eq_true ⟨Int32.not_lt.mp c_2, Int32.not_lt.mp c_7⟩) | exact bI_pf (decide_eq_false (fun q => absurd c_2 (Int32.not_lt.mpr q.1))) | exact bI_pf (decide_eq_false (fun q => absurd c_7 (Int32.not_lt.mpr q.2)))) rfl
    · refine gx_iconst (v := 1) C dX3_isWithin_10 (by decide) ?_
      refine gx_goto (tgt := 15) C dX3_isWithin_11 (by decide) ?_
      exact gx_zret C hRt hlocks dX3_isWithin_15 rfl (by first | exact bI_pt (decide_eq_true ⟨Int32.not_lt.mp c_2, Int32.not_lt.mp c_7⟩) | exact bI_pf (decide_eq_false (fun q => absurd c_2 (Int32.not_lt.mpr q.1))) | exact bI_pf (decide_eq_false (fun q => absurd c_7 (Int32.not_lt.mpr q.2)))) rfl
set_option maxHeartbeats 4000000 in
set_option maxRecDepth 100000 in
/-- held -/
theorem c_X3_held {l : Launch} {D : va_G} {cI cG cL : ClassId} {v a : Int32}   : gx_M l yX3_held wsX3_held ({ frames := 1, cells := 0, slots := 0, locals := 21 }) D vwCl (gT cI cG cL) [.int v, .int a] [] [] (some (.int (yHeld v a))) := by
  refine gx_ofG (cc := cX3_held) (maxL := 2) (ret := (some .int)) [some (.int v), some (.int a)] (by decide) rfl rfl (Nat.le_of_ble_eq_true rfl) rfl ?_
  intro p e s m args below meth c C hRt hlocks hK
  have C : CallFix p m c cX3_held 2 s args (wsX3_held) RX3 := C
  have hT : ∀ w ∈ bigW, w ∈ wsX3_held := bgT
  refine gx_iconst (v := 1) C dX3_held_0 (by decide) ?_
  refine gx_iload_n C dX3_held_1 rfl ?_
  refine gx_iload_n C dX3_held_2 rfl ?_
  refine gx_mmin C (hT _ m25) (hT _ mMmin_s) (hT _ m2) (hT _ mMmin_c) (Nat.le_of_ble_eq_true rfl) (Nat.le_of_ble_eq_true rfl) (Nat.zero_le _) (Nat.zero_le _) dX3_held_3 ?_
  refine gx_mmax C (hT _ m28) (hT _ mMmax_s) (hT _ m2) (hT _ mMmax_c) (Nat.le_of_ble_eq_true rfl) (Nat.le_of_ble_eq_true rfl) (Nat.zero_le _) (Nat.zero_le _) dX3_held_6 ?_
  exact gx_iret C hRt hlocks dX3_held_9 rfl rfl
set_option maxHeartbeats 4000000 in
set_option maxRecDepth 100000 in
/-- ruleBrokenByGround -/
theorem c_X3_ruleBrokenByGround {l : Launch} {D : va_G} {cI cG cL : ClassId} {a b : Int32}   : gx_M l yX3_ruleBrokenByGround wsX3_ruleBrokenByGround ({ frames := 0, cells := 0, slots := 0, locals := 0 }) D vwCl (gT cI cG cL) [.int a, .int b] [] [] (some (.int (yGr a b))) := by
  refine gx_ofG (cc := cX3_ruleBrokenByGround) (maxL := 2) (ret := (some .int)) [some (.int a), some (.int b)] (by decide) rfl rfl (Nat.le_of_ble_eq_true rfl) rfl ?_
  intro p e s m args below meth c C hRt hlocks hK
  have C : CallFix p m c cX3_ruleBrokenByGround 2 s args (wsX3_ruleBrokenByGround) RX3 := C
  have hT : ∀ w ∈ bigW, w ∈ wsX3_ruleBrokenByGround := bgT
  refine gx_iload_n C dX3_ruleBrokenByGround_0 rfl ?_
  refine gx_iconst (v := 1) C dX3_ruleBrokenByGround_1 (by decide) ?_
  refine gx_icmp_ne (tgt := 13) C dX3_ruleBrokenByGround_2 (by decide) (fun c_2 => ?_) (fun c_2 => ?_)
  · refine gx_iload_n C dX3_ruleBrokenByGround_13 rfl ?_
    refine gx_iconst (v := 2) C dX3_ruleBrokenByGround_14 (by decide) ?_
    refine gx_icmp_ne (tgt := 22) C dX3_ruleBrokenByGround_15 (by decide) (fun c_15 => ?_) (fun c_15 => ?_)
    · refine gx_iconst (v := 0) C dX3_ruleBrokenByGround_22 (by decide) ?_
      refine gx_iload_n C dX3_ruleBrokenByGround_23 rfl ?_
      refine gx_iconst (v := 2) C dX3_ruleBrokenByGround_24 (by decide) ?_
      refine gx_icmp_ne (tgt := 32) C dX3_ruleBrokenByGround_25 (by decide) (fun c_25 => ?_) (fun c_25 => ?_)
      · refine gx_iconst (v := 0) C dX3_ruleBrokenByGround_32 (by decide) ?_
        refine gx_icmp_eq (tgt := 39) C dX3_ruleBrokenByGround_33 (by decide) (fun c_33 => ?_) (fun c => absurd c (by decide))
        refine gx_iconst (v := 0) C dX3_ruleBrokenByGround_39 (by decide) ?_
        exact gx_iret C hRt hlocks dX3_ruleBrokenByGround_40 (by simp_all [yGr]) rfl
      · refine gx_iconst (v := 1) C dX3_ruleBrokenByGround_28 (by decide) ?_
        refine gx_goto (tgt := 33) C dX3_ruleBrokenByGround_29 (by decide) ?_
        refine gx_icmp_eq (tgt := 39) C dX3_ruleBrokenByGround_33 (by decide) (fun c => absurd c (by decide)) (fun c_33 => ?_)
        refine gx_bipush (v := 8) C dX3_ruleBrokenByGround_36 (by decide) ?_
        exact gx_iret C hRt hlocks dX3_ruleBrokenByGround_38 (by simp_all [yGr]) rfl
    · refine gx_iconst (v := 1) C dX3_ruleBrokenByGround_18 (by decide) ?_
      refine gx_goto (tgt := 23) C dX3_ruleBrokenByGround_19 (by decide) ?_
      refine gx_iload_n C dX3_ruleBrokenByGround_23 rfl ?_
      refine gx_iconst (v := 2) C dX3_ruleBrokenByGround_24 (by decide) ?_
      refine gx_icmp_ne (tgt := 32) C dX3_ruleBrokenByGround_25 (by decide) (fun c_25 => ?_) (fun c_25 => ?_)
      · refine gx_iconst (v := 0) C dX3_ruleBrokenByGround_32 (by decide) ?_
        refine gx_icmp_eq (tgt := 39) C dX3_ruleBrokenByGround_33 (by decide) (fun c => absurd c (by decide)) (fun c_33 => ?_)
        refine gx_bipush (v := 8) C dX3_ruleBrokenByGround_36 (by decide) ?_
        exact gx_iret C hRt hlocks dX3_ruleBrokenByGround_38 (by simp_all [yGr]) rfl
      · refine gx_iconst (v := 1) C dX3_ruleBrokenByGround_28 (by decide) ?_
        refine gx_goto (tgt := 33) C dX3_ruleBrokenByGround_29 (by decide) ?_
        refine gx_icmp_eq (tgt := 39) C dX3_ruleBrokenByGround_33 (by decide) (fun c_33 => ?_) (fun c => absurd c (by decide))
        refine gx_iconst (v := 0) C dX3_ruleBrokenByGround_39 (by decide) ?_
        exact gx_iret C hRt hlocks dX3_ruleBrokenByGround_40 (by simp_all [yGr]) rfl
  · refine gx_iload_n C dX3_ruleBrokenByGround_5 rfl ?_
    refine gx_iconst (v := 1) C dX3_ruleBrokenByGround_6 (by decide) ?_
    refine gx_icmp_eq (tgt := 13) C dX3_ruleBrokenByGround_7 (by decide) (fun c_7 => ?_) (fun c_7 => ?_)
    · refine gx_iload_n C dX3_ruleBrokenByGround_13 rfl ?_
      refine gx_iconst (v := 2) C dX3_ruleBrokenByGround_14 (by decide) ?_
      refine gx_icmp_ne (tgt := 22) C dX3_ruleBrokenByGround_15 (by decide) (fun c_15 => ?_) (fun c_15 => ?_)
      · refine gx_iconst (v := 0) C dX3_ruleBrokenByGround_22 (by decide) ?_
        refine gx_iload_n C dX3_ruleBrokenByGround_23 rfl ?_
        refine gx_iconst (v := 2) C dX3_ruleBrokenByGround_24 (by decide) ?_
        refine gx_icmp_ne (tgt := 32) C dX3_ruleBrokenByGround_25 (by decide) (fun c_25 => ?_) (fun c_25 => ?_)
        · refine gx_iconst (v := 0) C dX3_ruleBrokenByGround_32 (by decide) ?_
          refine gx_icmp_eq (tgt := 39) C dX3_ruleBrokenByGround_33 (by decide) (fun c_33 => ?_) (fun c => absurd c (by decide))
          refine gx_iconst (v := 0) C dX3_ruleBrokenByGround_39 (by decide) ?_
          exact gx_iret C hRt hlocks dX3_ruleBrokenByGround_40 (by simp_all [yGr]) rfl
        · refine gx_iconst (v := 1) C dX3_ruleBrokenByGround_28 (by decide) ?_
          refine gx_goto (tgt := 33) C dX3_ruleBrokenByGround_29 (by decide) ?_
          refine gx_icmp_eq (tgt := 39) C dX3_ruleBrokenByGround_33 (by decide) (fun c => absurd c (by decide)) (fun c_33 => ?_)
          refine gx_bipush (v := 8) C dX3_ruleBrokenByGround_36 (by decide) ?_
          exact gx_iret C hRt hlocks dX3_ruleBrokenByGround_38 (by simp_all [yGr]) rfl
      · refine gx_iconst (v := 1) C dX3_ruleBrokenByGround_18 (by decide) ?_
        refine gx_goto (tgt := 23) C dX3_ruleBrokenByGround_19 (by decide) ?_
        refine gx_iload_n C dX3_ruleBrokenByGround_23 rfl ?_
        refine gx_iconst (v := 2) C dX3_ruleBrokenByGround_24 (by decide) ?_
        refine gx_icmp_ne (tgt := 32) C dX3_ruleBrokenByGround_25 (by decide) (fun c_25 => ?_) (fun c_25 => ?_)
        · refine gx_iconst (v := 0) C dX3_ruleBrokenByGround_32 (by decide) ?_
          refine gx_icmp_eq (tgt := 39) C dX3_ruleBrokenByGround_33 (by decide) (fun c => absurd c (by decide)) (fun c_33 => ?_)
          refine gx_bipush (v := 8) C dX3_ruleBrokenByGround_36 (by decide) ?_
          exact gx_iret C hRt hlocks dX3_ruleBrokenByGround_38 (by simp_all [yGr]) rfl
        · refine gx_iconst (v := 1) C dX3_ruleBrokenByGround_28 (by decide) ?_
          refine gx_goto (tgt := 33) C dX3_ruleBrokenByGround_29 (by decide) ?_
          refine gx_icmp_eq (tgt := 39) C dX3_ruleBrokenByGround_33 (by decide) (fun c_33 => ?_) (fun c => absurd c (by decide))
          refine gx_iconst (v := 0) C dX3_ruleBrokenByGround_39 (by decide) ?_
          exact gx_iret C hRt hlocks dX3_ruleBrokenByGround_40 (by simp_all [yGr]) rfl
    · refine gx_bipush (v := 7) C dX3_ruleBrokenByGround_10 (by decide) ?_
      exact gx_iret C hRt hlocks dX3_ruleBrokenByGround_12 (by simp only [yGr]; rw [if_pos ⟨by assumption, by assumption⟩]) rfl
set_option maxHeartbeats 4000000 in
set_option maxRecDepth 100000 in
/-- hasRow -/
theorem c_X2_hasRow {l : Launch} {D : va_G} {cI cG cL : ClassId} {ad : Nat → Nat} {n t : Nat} {B : Int32} {u g : Nat → Nat → Int32} {x : Int32}  : gx_M l yX2_hasRow wsX2_hasRow ({ frames := 0, cells := 0, slots := 0, locals := 0 }) D vwCl (gT cI cG cL) [.ref (ad 7), .int x] (yW cI cG ad n t B u g) (yW cI cG ad n t B u g) (some (.int (bI (yRow n x)))) := by
  refine gx_ofG (cc := cX2_hasRow) (maxL := 2) (ret := (some .boolean)) [some (.ref (ad 7)), some (.int x)] (by decide) rfl rfl (Nat.le_of_ble_eq_true rfl) rfl ?_
  intro p e s m args below meth c C hRt hlocks hK
  have C : CallFix p m c cX2_hasRow 2 s args (wsX2_hasRow) RX2 := C
  have hT : ∀ w ∈ bigW, w ∈ wsX2_hasRow := bgT
  refine gx_iload_n C dX2_hasRow_0 rfl ?_
  refine gx_if_lt (tgt := 16) C dX2_hasRow_1 (by decide) (fun c_1 => ?_) (fun c_1 => ?_)
  · refine gx_iconst (v := 0) C dX2_hasRow_16 (by decide) ?_
    exact gx_zret C hRt hlocks dX2_hasRow_17 rfl (by first | exact bI_pt (decide_eq_true ⟨Int32.not_lt.mp c_1, Int32.not_le.mp c_9⟩) | exact bI_pf (decide_eq_false (fun q => absurd c_1 (Int32.not_lt.mpr q.1))) | exact bI_pf (decide_eq_false (fun q => absurd q.2 (Int32.not_lt.mpr c_9)))) rfl
  · refine gx_iload_n C dX2_hasRow_4 rfl ?_
    refine gx_aload_n C dX2_hasRow_5 rfl ?_
    refine yg_X2_rows C hK hT m74 dX2_hasRow_6 ?_
    refine gx_icmp_ge (tgt := 16) C dX2_hasRow_9 (by decide) (fun c_9 => ?_) (fun c_9 => ?_)
    · refine gx_iconst (v := 0) C dX2_hasRow_16 (by decide) ?_
      exact gx_zret C hRt hlocks dX2_hasRow_17 rfl (by first | exact bI_pt (decide_eq_true ⟨Int32.not_lt.mp c_1, Int32.not_le.mp c_9⟩) | exact bI_pf (decide_eq_false (fun q => absurd c_1 (Int32.not_lt.mpr q.1))) | exact bI_pf (decide_eq_false (fun q => absurd q.2 (Int32.not_lt.mpr c_9)))) rfl
    · refine gx_iconst (v := 1) C dX2_hasRow_12 (by decide) ?_
      refine gx_goto (tgt := 17) C dX2_hasRow_13 (by decide) ?_
      exact gx_zret C hRt hlocks dX2_hasRow_17 rfl (by first | exact bI_pt (decide_eq_true ⟨Int32.not_lt.mp c_1, Int32.not_le.mp c_9⟩) | exact bI_pf (decide_eq_false (fun q => absurd c_1 (Int32.not_lt.mpr q.1))) | exact bI_pf (decide_eq_false (fun q => absurd q.2 (Int32.not_lt.mpr c_9)))) rfl
set_option maxHeartbeats 4000000 in
set_option maxRecDepth 100000 in
/-- has -/
theorem c_X0_has {l : Launch} {D : va_G} {cI cG cL : ClassId} {ad : Nat → Nat} {n t : Nat} {B : Int32} {u g : Nat → Nat → Int32} {x : Int32}  : gx_M l yX0_has wsX0_has ({ frames := 0, cells := 0, slots := 0, locals := 0 }) D vwCl (gT cI cG cL) [.ref (ad 1), .int x] (yW cI cG ad n t B u g) (yW cI cG ad n t B u g) (some (.int (bI (yHas u x)))) := by
  refine gx_ofG (cc := cX0_has) (maxL := 2) (ret := (some .boolean)) [some (.ref (ad 1)), some (.int x)] (by decide) rfl rfl (Nat.le_of_ble_eq_true rfl) rfl ?_
  intro p e s m args below meth c C hRt hlocks hK
  have C : CallFix p m c cX0_has 2 s args (wsX0_has) RX0 := C
  have hT : ∀ w ∈ bigW, w ∈ wsX0_has := bgT
  refine gx_iload_n C dX0_has_0 rfl ?_
  refine gx_if_lt (tgt := 16) C dX0_has_1 (by decide) (fun c_1 => ?_) (fun c_1 => ?_)
  · refine gx_iconst (v := 0) C dX0_has_16 (by decide) ?_
    exact gx_zret C hRt hlocks dX0_has_17 rfl (by first | exact bI_pt (decide_eq_true ⟨Int32.not_lt.mp c_1, Int32.not_le.mp c_9⟩) | exact bI_pf (decide_eq_false (fun q => absurd c_1 (Int32.not_lt.mpr q.1))) | exact bI_pf (decide_eq_false (fun q => absurd q.2 (Int32.not_lt.mpr c_9)))) rfl
  · refine gx_iload_n C dX0_has_4 rfl ?_
    refine gx_aload_n C dX0_has_5 rfl ?_
    refine yg_X0_told C hK hT m47 dX0_has_6 ?_
    refine gx_icmp_ge (tgt := 16) C dX0_has_9 (by decide) (fun c_9 => ?_) (fun c_9 => ?_)
    · refine gx_iconst (v := 0) C dX0_has_16 (by decide) ?_
      exact gx_zret C hRt hlocks dX0_has_17 rfl (by first | exact bI_pt (decide_eq_true ⟨Int32.not_lt.mp c_1, Int32.not_le.mp c_9⟩) | exact bI_pf (decide_eq_false (fun q => absurd c_1 (Int32.not_lt.mpr q.1))) | exact bI_pf (decide_eq_false (fun q => absurd q.2 (Int32.not_lt.mpr c_9)))) rfl
    · refine gx_iconst (v := 1) C dX0_has_12 (by decide) ?_
      refine gx_goto (tgt := 17) C dX0_has_13 (by decide) ?_
      exact gx_zret C hRt hlocks dX0_has_17 rfl (by first | exact bI_pt (decide_eq_true ⟨Int32.not_lt.mp c_1, Int32.not_le.mp c_9⟩) | exact bI_pf (decide_eq_false (fun q => absurd c_1 (Int32.not_lt.mpr q.1))) | exact bI_pf (decide_eq_false (fun q => absurd q.2 (Int32.not_lt.mpr c_9)))) rfl
set_option maxHeartbeats 4000000 in
set_option maxRecDepth 100000 in
/-- stands -/
theorem c_X2_stands {l : Launch} {D : va_G} {cI cG cL : ClassId} {ad : Nat → Nat} {n t : Nat} {B : Int32} {u g : Nat → Nat → Int32} {b : Nat} (hb : b < 60) : gx_M l yX2_stands wsX2_stands ({ frames := 0, cells := 0, slots := 0, locals := 0 }) D vwCl (gT cI cG cL) [.ref (ad 7), .int (nI b)] (yW cI cG ad n t B u g) (yW cI cG ad n t B u g) (some (.int (bI (ySt u b)))) := by
  refine gx_ofG (cc := cX2_stands) (maxL := 2) (ret := (some .boolean)) [some (.ref (ad 7)), some (.int (nI b))] (by decide) rfl rfl (Nat.le_of_ble_eq_true rfl) rfl ?_
  intro p e s m args below meth c C hRt hlocks hK
  have C : CallFix p m c cX2_stands 2 s args (wsX2_stands) RX2 := C
  have hT : ∀ w ∈ bigW, w ∈ wsX2_stands := bgT
  refine gx_aload_n C dX2_stands_0 rfl ?_
  refine yg_X2_rowOf C hK hT m82 dX2_stands_1 ?_
  refine gx_iload_n C dX2_stands_4 rfl ?_
  refine yl_7 C hK rfl (by omega) dX2_stands_5 ?_
  refine gx_iconst (v := (-1)) C dX2_stands_6 (by decide) ?_
  refine gx_icmp_eq (tgt := 14) C dX2_stands_7 (by decide) (fun c_7 => ?_) (fun c_7 => ?_)
  · refine gx_iconst (v := 0) C dX2_stands_14 (by decide) ?_
    exact gx_zret C hRt hlocks dX2_stands_15 rfl (by first | exact bI_pt (decide_eq_true c_7) | exact bI_pf (decide_eq_false (fun q => q c_7))) rfl
  · refine gx_iconst (v := 1) C dX2_stands_10 (by decide) ?_
    refine gx_goto (tgt := 15) C dX2_stands_11 (by decide) ?_
    exact gx_zret C hRt hlocks dX2_stands_15 rfl (by first | exact bI_pt (decide_eq_true c_7) | exact bI_pf (decide_eq_false (fun q => q c_7))) rfl
set_option maxHeartbeats 4000000 in
set_option maxRecDepth 100000 in
/-- top -/
theorem c_X2_top {l : Launch} {D : va_G} {cI cG cL : ClassId} {ad : Nat → Nat} {n t : Nat} {B : Int32} {u g : Nat → Nat → Int32} {r : Nat} (hOK : yOK n t u g) (hr : r < n) : gx_M l yX2_top wsX2_top ({ frames := 0, cells := 0, slots := 0, locals := 0 }) D vwCl (gT cI cG cL) [.ref (ad 7), .int (nI r)] (yW cI cG ad n t B u g) (yW cI cG ad n t B u g) (some (.int (yTop u g r))) := by
  refine gx_ofG (cc := cX2_top) (maxL := 2) (ret := (some .int)) [some (.ref (ad 7)), some (.int (nI r))] (by decide) rfl rfl (Nat.le_of_ble_eq_true rfl) rfl ?_
  intro p e s m args below meth c C hRt hlocks hK
  have C : CallFix p m c cX2_top 2 s args (wsX2_top) RX2 := C
  have hT : ∀ w ∈ bigW, w ∈ wsX2_top := bgT
  have hn := hOK.hn
  have ht := hOK.ht
  have h6 := hOK.h6 hr
  have hh := hOK.hh hr
  refine gx_aload_n C dX2_top_0 rfl ?_
  refine yg_X2_heights C hK hT m80 dX2_top_1 ?_
  refine gx_iload_n C dX2_top_4 rfl ?_
  refine yl_6 C hK rfl (by omega) (by omega) dX2_top_5 ?_
  refine gx_if_ne (tgt := 13) C dX2_top_6 (by decide) (fun c_6 => ?_) (fun c_6 => ?_)
  · refine gx_aload_n C dX2_top_13 rfl ?_
    refine yg_X2_cells C hK hT m78 dX2_top_14 ?_
    refine gx_iload_n C dX2_top_17 rfl ?_
    refine yl_grid C hK rfl (by omega) (by omega) dX2_top_18 ?_
    have hz : yH u r ≠ 0 := fun q => c_6 (by rw [h6, q]; rfl)
    refine gx_aload_n C dX2_top_19 rfl ?_
    refine yg_X2_heights C hK hT m80 dX2_top_20 ?_
    refine gx_iload_n C dX2_top_23 rfl ?_
    refine yl_6 C hK rfl (by omega) (by omega) dX2_top_24 ?_
    refine gx_iconst (v := 1) C dX2_top_25 (by decide) ?_
    refine gx_isub C dX2_top_26 ?_
    rw [show u 6 r - 1 = nI (yH u r - 1) by rw [h6]; exact pk_sub (b := 1) (by omega)]
    refine yl_row C hK rfl (by omega) (by omega) (by omega) dX2_top_27 ?_
    exact gx_iret C hRt hlocks dX2_top_28 (by first | exact (if_pos c_6).symm | exact (if_neg c_6).symm) rfl
  · refine gx_iconst (v := (-1)) C dX2_top_9 (by decide) ?_
    refine gx_goto (tgt := 28) C dX2_top_10 (by decide) ?_
    exact gx_iret C hRt hlocks dX2_top_28 (by first | exact (if_pos c_6).symm | exact (if_neg c_6).symm) rfl
set_option maxHeartbeats 4000000 in
set_option maxRecDepth 100000 in
/-- above -/
theorem c_X2_above {l : Launch} {D : va_G} {cI cG cL : ClassId} {ad : Nat → Nat} {n t : Nat} {B : Int32} {u g : Nat → Nat → Int32} {b : Nat} (hOK : yOK n t u g) (hb : b < 60) : gx_M l yX2_above wsX2_above ({ frames := 1, cells := 0, slots := 0, locals := 21 }) D vwCl (gT cI cG cL) [.ref (ad 7), .int (nI b)] (yW cI cG ad n t B u g) (yW cI cG ad n t B u g) (some (.int (yAb u b))) := by
  refine gx_ofG (cc := cX2_above) (maxL := 2) (ret := (some .int)) [some (.ref (ad 7)), some (.int (nI b))] (by decide) rfl rfl (Nat.le_of_ble_eq_true rfl) rfl ?_
  intro p e s m args below meth c C hRt hlocks hK
  have C : CallFix p m c cX2_above 2 s args (wsX2_above) RX2 := C
  have hT : ∀ w ∈ bigW, w ∈ wsX2_above := bgT
  have hn := hOK.hn
  have ht := hOK.ht
  refine gx_aload_n C dX2_above_0 rfl ?_
  refine gx_iload_n C dX2_above_1 rfl ?_
  refine gx_cVi (n := 1) (q0 := 7) C hK (c_X2_stands (l := l) (D := D) (cI := cI) (cG := cG) (cL := cL) (ad := ad) (n := n) (t := t) (B := B) (u := u) (g := g) hb) yW_fst (bgV hT m172 m173 m174 m4 m175) rfl rfl rfl (by decide +kernel) ⟨Nat.le_of_ble_eq_true rfl, Nat.le_of_ble_eq_true rfl⟩ rfl rfl rfl rfl (Nat.le_of_ble_eq_true rfl) (Nat.zero_le _) (Nat.zero_le _) dX2_above_2 ?_
  refine gx_if_eq (tgt := 31) C dX2_above_5 (by decide) (fun c_5 => ?_) (fun c_5 => ?_)
  · refine gx_iconst (v := 0) C dX2_above_31 (by decide) ?_
    exact gx_iret C hRt hlocks dX2_above_32 (by first | exact (if_pos (ySt_f c_5)).symm | (rw [yAb, if_neg (ySt_t c_5), e7, nI_clamp (by omega)])) rfl
  · obtain ⟨r, k, hr, hk, e7, e8⟩ := hOK.h7 hb (ySt_t c_5)
    refine gx_aload_n C dX2_above_8 rfl ?_
    refine yg_X2_heights C hK hT m80 dX2_above_9 ?_
    refine gx_aload_n C dX2_above_12 rfl ?_
    refine yg_X2_rowOf C hK hT m82 dX2_above_13 ?_
    refine gx_iload_n C dX2_above_16 rfl ?_
    refine yl_7 C hK rfl (by omega) dX2_above_17 ?_
    rw [e7]
    refine yl_6 C hK rfl (by omega) (by omega) dX2_above_18 ?_
    refine gx_iconst (v := 1) C dX2_above_19 (by decide) ?_
    refine gx_isub C dX2_above_20 ?_
    refine gx_aload_n C dX2_above_21 rfl ?_
    refine yg_X2_tierOf C hK hT m84 dX2_above_22 ?_
    refine gx_iload_n C dX2_above_25 rfl ?_
    refine yl_8 C hK rfl (by omega) dX2_above_26 ?_
    refine gx_isub C dX2_above_27 ?_
    refine gx_goto (tgt := 32) C dX2_above_28 (by decide) ?_
    exact gx_iret C hRt hlocks dX2_above_32 (by first | exact (if_pos (ySt_f c_5)).symm | (rw [yAb, if_neg (ySt_t c_5), e7, nI_clamp (by omega)])) rfl
set_option maxHeartbeats 4000000 in
set_option maxRecDepth 100000 in
/-- isOnTop -/
theorem c_X2_isOnTop {l : Launch} {D : va_G} {cI cG cL : ClassId} {ad : Nat → Nat} {n t : Nat} {B : Int32} {u g : Nat → Nat → Int32} {b : Nat} (hOK : yOK n t u g) (hb : b < 60) : gx_M l yX2_isOnTop wsX2_isOnTop ({ frames := 2, cells := 0, slots := 0, locals := 42 }) D vwCl (gT cI cG cL) [.ref (ad 7), .int (nI b)] (yW cI cG ad n t B u g) (yW cI cG ad n t B u g) (some (.int (bI (yOn u b)))) := by
  refine gx_ofG (cc := cX2_isOnTop) (maxL := 2) (ret := (some .boolean)) [some (.ref (ad 7)), some (.int (nI b))] (by decide) rfl rfl (Nat.le_of_ble_eq_true rfl) rfl ?_
  intro p e s m args below meth c C hRt hlocks hK
  have C : CallFix p m c cX2_isOnTop 2 s args (wsX2_isOnTop) RX2 := C
  have hT : ∀ w ∈ bigW, w ∈ wsX2_isOnTop := bgT
  refine gx_aload_n C dX2_isOnTop_0 rfl ?_
  refine gx_iload_n C dX2_isOnTop_1 rfl ?_
  refine gx_cVi (n := 1) (q0 := 7) C hK (c_X2_stands (l := l) (D := D) (cI := cI) (cG := cG) (cL := cL) (ad := ad) (n := n) (t := t) (B := B) (u := u) (g := g) hb) yW_fst (bgV hT m172 m173 m174 m4 m175) rfl rfl rfl (by decide +kernel) ⟨Nat.le_of_ble_eq_true rfl, Nat.le_of_ble_eq_true rfl⟩ rfl rfl rfl rfl (Nat.le_of_ble_eq_true rfl) (Nat.zero_le _) (Nat.zero_le _) dX2_isOnTop_2 ?_
  refine gx_if_eq (tgt := 20) C dX2_isOnTop_5 (by decide) (fun c_5 => ?_) (fun c_5 => ?_)
  · refine gx_iconst (v := 0) C dX2_isOnTop_20 (by decide) ?_
    exact gx_zret C hRt hlocks dX2_isOnTop_21 rfl (by first | (rw [show yOn u b = true from decide_eq_true ⟨ySt_t c_5, c_13⟩]; rfl) | (rw [show yOn u b = false from decide_eq_false (fun q => c_13 q.2)]; rfl) | (rw [show yOn u b = false from decide_eq_false (fun q => q.1 (ySt_f c_5))]; rfl)) rfl
  · refine gx_aload_n C dX2_isOnTop_8 rfl ?_
    refine gx_iload_n C dX2_isOnTop_9 rfl ?_
    refine gx_cVi (n := 1) (q0 := 7) C hK (c_X2_above (l := l) (D := D) (cI := cI) (cG := cG) (cL := cL) (ad := ad) (n := n) (t := t) (B := B) (u := u) (g := g) hOK hb) yW_fst (bgV hT m385 m386 m387 m4 m388) rfl rfl rfl (by decide +kernel) ⟨Nat.le_of_ble_eq_true rfl, Nat.le_of_ble_eq_true rfl⟩ rfl rfl rfl rfl (Nat.le_of_ble_eq_true rfl) (Nat.zero_le _) (Nat.zero_le _) dX2_isOnTop_10 ?_
    refine gx_if_ne (tgt := 20) C dX2_isOnTop_13 (by decide) (fun c_13 => ?_) (fun c_13 => ?_)
    · refine gx_iconst (v := 0) C dX2_isOnTop_20 (by decide) ?_
      exact gx_zret C hRt hlocks dX2_isOnTop_21 rfl (by first | (rw [show yOn u b = true from decide_eq_true ⟨ySt_t c_5, c_13⟩]; rfl) | (rw [show yOn u b = false from decide_eq_false (fun q => c_13 q.2)]; rfl) | (rw [show yOn u b = false from decide_eq_false (fun q => q.1 (ySt_f c_5))]; rfl)) rfl
    · refine gx_iconst (v := 1) C dX2_isOnTop_16 (by decide) ?_
      refine gx_goto (tgt := 21) C dX2_isOnTop_17 (by decide) ?_
      exact gx_zret C hRt hlocks dX2_isOnTop_21 rfl (by first | (rw [show yOn u b = true from decide_eq_true ⟨ySt_t c_5, c_13⟩]; rfl) | (rw [show yOn u b = false from decide_eq_false (fun q => c_13 q.2)]; rfl) | (rw [show yOn u b = false from decide_eq_false (fun q => q.1 (ySt_f c_5))]; rfl)) rfl
set_option maxHeartbeats 4000000 in
set_option maxRecDepth 100000 in
/-- lift -/
theorem c_X2_lift {l : Launch} {D : va_G} {cI cG cL : ClassId} {ad : Nat → Nat} {n t : Nat} {B : Int32} {u g : Nat → Nat → Int32} {b r : Nat} (hOK : yOK n t u g) (hb : b < 60) (hr : r < n) (e7 : u 7 b = nI r) (h0 : 0 < yH u r) : gx_M l yX2_lift wsX2_lift ({ frames := 0, cells := 0, slots := 0, locals := 0 }) D vwCl (gT cI cG cL) [.ref (ad 7), .int (nI b)] (yW cI cG ad n t B u g) (yW cI cG ad n t B (yLiftU u b r) (yLiftG u g r)) none := by
  refine gx_ofG (cc := cX2_lift) (maxL := 3) (ret := none) [some (.ref (ad 7)), some (.int (nI b)), none] (by decide) rfl rfl (Nat.le_of_ble_eq_true rfl) rfl ?_
  intro p e s m args below meth c C hRt hlocks hK
  have C : CallFix p m c cX2_lift 3 s args (wsX2_lift) RX2 := C
  have hT : ∀ w ∈ bigW, w ∈ wsX2_lift := bgT
  have hn := hOK.hn
  have ht := hOK.ht
  have h6 := hOK.h6 hr
  have hh := hOK.hh hr
  refine gx_aload_n C dX2_lift_0 rfl ?_
  refine yg_X2_rowOf C hK hT m82 dX2_lift_1 ?_
  refine gx_iload_n C dX2_lift_4 rfl ?_
  refine yl_7 C hK rfl (by omega) dX2_lift_5 ?_
  rw [e7]
  refine gx_istore_n (lv2 := [some _, some _, some _]) C dX2_lift_6 (by decide) rfl ?_
  refine gx_aload_n C dX2_lift_7 rfl ?_
  refine yg_X2_heights C hK hT m80 dX2_lift_8 ?_
  refine gx_iload_n C dX2_lift_11 rfl ?_
  refine gx_dup2 C dX2_lift_12 rfl rfl ?_
  refine yl_6 C hK rfl (by omega) (by omega) dX2_lift_13 ?_
  refine gx_iconst (v := 1) C dX2_lift_14 (by decide) ?_
  refine gx_isub C dX2_lift_15 ?_
  refine ys_6 C hK rfl (by omega) (by omega) dX2_lift_16 ?_
  refine gx_aload_n C dX2_lift_17 rfl ?_
  refine yg_X2_cells C hK hT m78 dX2_lift_18 ?_
  refine gx_iload_n C dX2_lift_21 rfl ?_
  refine yl_grid C hK rfl (by omega) (by omega) dX2_lift_22 ?_
  refine gx_aload_n C dX2_lift_23 rfl ?_
  refine yg_X2_heights C hK hT m80 dX2_lift_24 ?_
  refine gx_iload_n C dX2_lift_27 rfl ?_
  refine yl_6 C hK rfl (by omega) (by omega) dX2_lift_28 ?_
  rw [show mu u 6 r (u 6 r - 1) 6 r = nI (yH u r - 1) by rw [mu_same, pk_us, h6]; exact pk_sub (b := 1) (by omega)]
  refine gx_iconst (v := (-1)) C dX2_lift_29 (by decide) ?_
  refine ys_row C hK rfl (by omega) (by omega) (by omega) dX2_lift_30 ?_
  refine gx_aload_n C dX2_lift_31 rfl ?_
  refine yg_X2_rowOf C hK hT m82 dX2_lift_32 ?_
  refine gx_iload_n C dX2_lift_35 rfl ?_
  refine gx_iconst (v := (-1)) C dX2_lift_36 (by decide) ?_
  refine ys_7 C hK rfl (by omega) dX2_lift_37 ?_
  refine gx_aload_n C dX2_lift_38 rfl ?_
  refine yg_X2_tierOf C hK hT m84 dX2_lift_39 ?_
  refine gx_iload_n C dX2_lift_42 rfl ?_
  refine gx_iconst (v := (-1)) C dX2_lift_43 (by decide) ?_
  refine ys_8 C hK rfl (by omega) dX2_lift_44 ?_
  exact gx_vret C hRt hlocks dX2_lift_45 rfl
set_option maxHeartbeats 4000000 in
set_option maxRecDepth 100000 in
/-- lay -/
theorem c_X2_lay {l : Launch} {D : va_G} {cI cG cL : ClassId} {ad : Nat → Nat} {n t : Nat} {B : Int32} {u g : Nat → Nat → Int32} {b r : Nat} (hn : n ≤ 16) (ht : t ≤ 8) (hb : b < 60) (hr : r < n) (h6 : u 6 r = nI (yH u r)) (h0 : yH u r < t) : gx_M l yX2_lay wsX2_lay ({ frames := 0, cells := 0, slots := 0, locals := 0 }) D vwCl (gT cI cG cL) [.ref (ad 7), .int (nI b), .int (nI r)] (yW cI cG ad n t B u g) (yW cI cG ad n t B (yLayU u b r) (yLayG u g b r)) none := by
  refine gx_ofG (cc := cX2_lay) (maxL := 4) (ret := none) [some (.ref (ad 7)), some (.int (nI b)), some (.int (nI r)), none] (by decide) rfl rfl (Nat.le_of_ble_eq_true rfl) rfl ?_
  intro p e s m args below meth c C hRt hlocks hK
  have C : CallFix p m c cX2_lay 4 s args (wsX2_lay) RX2 := C
  have hT : ∀ w ∈ bigW, w ∈ wsX2_lay := bgT
  refine gx_aload_n C dX2_lay_0 rfl ?_
  refine yg_X2_heights C hK hT m80 dX2_lay_1 ?_
  refine gx_iload_n C dX2_lay_4 rfl ?_
  refine yl_6 C hK rfl (by omega) (by omega) dX2_lay_5 ?_
  rw [h6]
  refine gx_istore_n (lv2 := [some _, some _, some _, some _]) C dX2_lay_6 (by decide) rfl ?_
  refine gx_aload_n C dX2_lay_7 rfl ?_
  refine yg_X2_cells C hK hT m78 dX2_lay_8 ?_
  refine gx_iload_n C dX2_lay_11 rfl ?_
  refine yl_grid C hK rfl (by omega) (by omega) dX2_lay_12 ?_
  refine gx_iload_n C dX2_lay_13 rfl ?_
  refine gx_iload_n C dX2_lay_14 rfl ?_
  refine ys_row C hK rfl (by omega) (by omega) (by omega) dX2_lay_15 ?_
  refine gx_aload_n C dX2_lay_16 rfl ?_
  refine yg_X2_rowOf C hK hT m82 dX2_lay_17 ?_
  refine gx_iload_n C dX2_lay_20 rfl ?_
  refine gx_iload_n C dX2_lay_21 rfl ?_
  refine ys_7 C hK rfl (by omega) dX2_lay_22 ?_
  refine gx_aload_n C dX2_lay_23 rfl ?_
  refine yg_X2_tierOf C hK hT m84 dX2_lay_24 ?_
  refine gx_iload_n C dX2_lay_27 rfl ?_
  refine gx_iload_n C dX2_lay_28 rfl ?_
  refine ys_8 C hK rfl (by omega) dX2_lay_29 ?_
  refine gx_aload_n C dX2_lay_30 rfl ?_
  refine yg_X2_heights C hK hT m80 dX2_lay_31 ?_
  refine gx_iload_n C dX2_lay_34 rfl ?_
  refine gx_dup2 C dX2_lay_35 rfl rfl ?_
  refine yl_6 C hK rfl (by omega) (by omega) dX2_lay_36 ?_
  refine gx_iconst (v := 1) C dX2_lay_37 (by decide) ?_
  refine gx_iadd C dX2_lay_38 ?_
  refine ys_6 C hK rfl (by omega) (by omega) dX2_lay_39 ?_
  exact gx_vret C hRt hlocks dX2_lay_40 rfl
set_option maxHeartbeats 4000000 in
set_option maxRecDepth 100000 in
/-- tell -/
theorem c_X0_tell {l : Launch} {D : va_G} {cI cG cL : ClassId} {ad : Nat → Nat} {n t : Nat} {B : Int32} {u g : Nat → Nat → Int32} {x1 x2 x3 x4 x5 : Int32} {T : Nat} (hT : T < 60) (e0 : u 0 0 = nI T) : gx_M l yX0_tell wsX0_tell ({ frames := 0, cells := 0, slots := 0, locals := 0 }) D vwCl (gT cI cG cL) [.ref (ad 1), .int x1, .int x2, .int x3, .int x4, .int x5] (yW cI cG ad n t B u g) (yW cI cG ad n t B (yTellU u T x1 x2 x3 x4 x5) g) (some (.int (nI T))) := by
  refine gx_ofG (cc := cX0_tell) (maxL := 7) (ret := (some .int)) [some (.ref (ad 1)), some (.int x1), some (.int x2), some (.int x3), some (.int x4), some (.int x5), none] (by decide) rfl rfl (Nat.le_of_ble_eq_true rfl) rfl ?_
  intro p e s m args below meth c C hRt hlocks hK
  have C : CallFix p m c cX0_tell 7 s args (wsX0_tell) RX0 := C
  have hT : ∀ w ∈ bigW, w ∈ wsX0_tell := bgT
  refine gx_aload_n C dX0_tell_0 rfl ?_
  refine yg_X0_told C hK hT m47 dX0_tell_1 ?_
  rw [e0]
  refine gx_istore (lv2 := [some _, some _, some _, some _, some _, some _, some _]) C dX0_tell_4 (by decide) rfl ?_
  refine gx_aload_n C dX0_tell_6 rfl ?_
  refine yg_X0_size C hK hT m37 dX0_tell_7 ?_
  refine gx_iload C dX0_tell_10 rfl ?_
  refine gx_iload_n C dX0_tell_12 rfl ?_
  refine ys_1 C hK rfl (by omega) dX0_tell_13 ?_
  refine gx_aload_n C dX0_tell_14 rfl ?_
  refine yg_X0_weight C hK hT m39 dX0_tell_15 ?_
  refine gx_iload C dX0_tell_18 rfl ?_
  refine gx_iload_n C dX0_tell_20 rfl ?_
  refine ys_2 C hK rfl (by omega) dX0_tell_21 ?_
  refine gx_aload_n C dX0_tell_22 rfl ?_
  refine yg_X0_leaves C hK hT m41 dX0_tell_23 ?_
  refine gx_iload C dX0_tell_26 rfl ?_
  refine gx_iload_n C dX0_tell_28 rfl ?_
  refine ys_3 C hK rfl (by omega) dX0_tell_29 ?_
  refine gx_aload_n C dX0_tell_30 rfl ?_
  refine yg_X0_ship C hK hT m43 dX0_tell_31 ?_
  refine gx_iload C dX0_tell_34 rfl ?_
  refine gx_iload C dX0_tell_36 rfl ?_
  refine ys_4 C hK rfl (by omega) dX0_tell_38 ?_
  refine gx_aload_n C dX0_tell_39 rfl ?_
  refine yg_X0_kind C hK hT m45 dX0_tell_40 ?_
  refine gx_iload C dX0_tell_43 rfl ?_
  refine gx_iload C dX0_tell_45 rfl ?_
  refine ys_5 C hK rfl (by omega) dX0_tell_47 ?_
  refine gx_aload_n C dX0_tell_48 rfl ?_
  refine gx_dup C dX0_tell_49 rfl ?_
  refine yg_X0_told C hK hT m47 dX0_tell_50 ?_
  refine gx_iconst (v := 1) C dX0_tell_53 (by decide) ?_
  refine gx_iadd C dX0_tell_54 ?_
  refine yp_X0_told C hK hT m47 dX0_tell_55 ?_
  refine gx_iload C dX0_tell_58 rfl ?_
  exact gx_iret C hRt hlocks dX0_tell_60 rfl rfl
set_option maxHeartbeats 4000000 in
set_option maxRecDepth 100000 in
/-- keep -/
theorem c_X1_keep {l : Launch} {D : va_G} {cI cG cL : ClassId} {ad : Nat → Nat} {n t : Nat} {B : Int32} {u g : Nat → Nat → Int32} {x : Int32} {b mk : Nat} (hm : mk < 2 ^ 30) (e1 : u 0 1 = nI mk) : gx_M l yX1_keep wsX1_keep ({ frames := 1, cells := 0, slots := 0, locals := 21 }) D vwCl (gT cI cG cL) [.ref (ad 12), .int (nI b), .int x] (yW cI cG ad n t B u g) (yW cI cG ad n t B (yKeepU u (mk % 100) b x) g) none := by
  refine gx_ofG (cc := cX1_keep) (maxL := 4) (ret := none) [some (.ref (ad 12)), some (.int (nI b)), some (.int x), none] (by decide) rfl rfl (Nat.le_of_ble_eq_true rfl) rfl ?_
  intro p e s m args below meth c C hRt hlocks hK
  have C : CallFix p m c cX1_keep 4 s args (wsX1_keep) RX1 := C
  have hT : ∀ w ∈ bigW, w ∈ wsX1_keep := bgT
  refine gx_aload_n C dX1_keep_0 rfl ?_
  refine yg_X1_made C hK hT m109 dX1_keep_1 ?_
  refine gx_bipush (v := 100) C dX1_keep_4 (by decide) ?_
  refine gx_irem C dX1_keep_6 (by decide) ?_
  rw [show u 0 1 - u 0 1 / 100 * 100 = nI (mk % 100) by rw [e1]; exact pk_rem (d := 100) (by omega) (by decide) (by decide)]
  have hq : mk % 100 < 100 := Nat.mod_lt _ (by decide)
  refine gx_istore_n (lv2 := [some _, some _, some _, some _]) C dX1_keep_7 (by decide) rfl ?_
  refine gx_aload_n C dX1_keep_8 rfl ?_
  refine yg_X1_boxes C hK hT m105 dX1_keep_9 ?_
  refine gx_iload_n C dX1_keep_12 rfl ?_
  refine gx_iload_n C dX1_keep_13 rfl ?_
  refine ys_9 C hK rfl (by omega) dX1_keep_14 ?_
  refine gx_aload_n C dX1_keep_15 rfl ?_
  refine yg_X1_origins C hK hT m107 dX1_keep_16 ?_
  refine gx_iload_n C dX1_keep_19 rfl ?_
  refine gx_iload_n C dX1_keep_20 rfl ?_
  refine ys_10 C hK rfl (by omega) dX1_keep_21 ?_
  refine gx_aload_n C dX1_keep_22 rfl ?_
  refine gx_dup C dX1_keep_23 rfl ?_
  refine yg_X1_made C hK hT m109 dX1_keep_24 ?_
  refine gx_iconst (v := 1) C dX1_keep_27 (by decide) ?_
  refine gx_iadd C dX1_keep_28 ?_
  refine yp_X1_made C hK hT m109 dX1_keep_29 ?_
  refine gx_aload_n C dX1_keep_32 rfl ?_
  refine gx_aload_n C dX1_keep_33 rfl ?_
  refine yg_X1_kept C hK hT m111 dX1_keep_34 ?_
  refine gx_iconst (v := 1) C dX1_keep_37 (by decide) ?_
  refine gx_iadd C dX1_keep_38 ?_
  refine gx_bipush (v := 100) C dX1_keep_39 (by decide) ?_
  refine gx_mmin C (hT _ m373) (hT _ mMmin_s) (hT _ m2) (hT _ mMmin_c) (Nat.le_of_ble_eq_true rfl) (Nat.le_of_ble_eq_true rfl) (Nat.zero_le _) (Nat.zero_le _) dX1_keep_41 ?_
  refine yp_X1_kept C hK hT m111 dX1_keep_44 ?_
  exact gx_vret C hRt hlocks dX1_keep_47 rfl
set_option maxHeartbeats 4000000 in
set_option maxRecDepth 100000 in
/-- dropLatest -/
theorem c_X1_dropLatest {l : Launch} {D : va_G} {cI cG cL : ClassId} {ad : Nat → Nat} {n t : Nat} {B : Int32} {u g : Nat → Nat → Int32} {mk : Nat} (hm : mk < 2 ^ 30) (e1 : u 0 1 = nI (mk + 1)) : gx_M l yX1_dropLatest wsX1_dropLatest ({ frames := 0, cells := 0, slots := 0, locals := 0 }) D vwCl (gT cI cG cL) [.ref (ad 12)] (yW cI cG ad n t B u g) (yW cI cG ad n t B (yDropU u) g) (some (.int (nI (mk % 100)))) := by
  refine gx_ofG (cc := cX1_dropLatest) (maxL := 1) (ret := (some .int)) [some (.ref (ad 12))] (by decide) rfl rfl (Nat.le_of_ble_eq_true rfl) rfl ?_
  intro p e s m args below meth c C hRt hlocks hK
  have C : CallFix p m c cX1_dropLatest 1 s args (wsX1_dropLatest) RX1 := C
  have hT : ∀ w ∈ bigW, w ∈ wsX1_dropLatest := bgT
  refine gx_aload_n C dX1_dropLatest_0 rfl ?_
  refine gx_dup C dX1_dropLatest_1 rfl ?_
  refine yg_X1_made C hK hT m109 dX1_dropLatest_2 ?_
  refine gx_iconst (v := 1) C dX1_dropLatest_5 (by decide) ?_
  refine gx_isub C dX1_dropLatest_6 ?_
  refine yp_X1_made C hK hT m109 dX1_dropLatest_7 ?_
  refine gx_aload_n C dX1_dropLatest_10 rfl ?_
  refine gx_dup C dX1_dropLatest_11 rfl ?_
  refine yg_X1_kept C hK hT m111 dX1_dropLatest_12 ?_
  refine gx_iconst (v := 1) C dX1_dropLatest_15 (by decide) ?_
  refine gx_isub C dX1_dropLatest_16 ?_
  refine yp_X1_kept C hK hT m111 dX1_dropLatest_17 ?_
  refine gx_aload_n C dX1_dropLatest_20 rfl ?_
  refine yg_X1_made C hK hT m109 dX1_dropLatest_21 ?_
  refine gx_bipush (v := 100) C dX1_dropLatest_24 (by decide) ?_
  refine gx_irem C dX1_dropLatest_26 (by decide) ?_
  exact gx_iret C hRt hlocks dX1_dropLatest_27 (by show u 0 1 - 1 - (u 0 1 - 1) / 100 * 100 = _; rw [e1, nI_pred]; exact pk_rem (d := 100) (by omega) (by decide) (by decide)) rfl
set_option maxHeartbeats 4000000 in
set_option maxRecDepth 100000 in
theorem lp_X3_weightOn {l : Launch} {D : va_G} {cI cG cL : ClassId} {ad : Nat → Nat} {n t : Nat} {B : Int32} {u g : Nat → Nat → Int32} {r : Nat} {p : Program} {e : Env} {s : State} {m : MethodId} {args : Array Value} {below : List Frame} {meth : Method} {c : Code} (C : CallFix p m c cX3_weightOn 4 s args wsX3_weightOn RX3) (hT : ∀ w ∈ bigW, w ∈ wsX3_weightOn) (hRt : meth.sig.returnType = (some .int)) (hlocks : meth.locks = false) (hK : va_K D vwCl (gT cI cG cL) s) (hOK : yOK n t u g) (hr : r < n)  : ∀ (d j : Nat) , j + d = yH u r → gx_G p l e (headSpec wsX3_weightOn ({ frames := 0, cells := 0, slots := 0, locals := 0 })).room s m args below meth c D vwCl (gx_in (yW cI cG ad n t B u g)) 4 0 0 (gx_Qm D vwCl below args s (yW cI cG ad n t B u g) (yW cI cG ad n t B u g) (some (.int (yWt u g r)))) (yW cI cG ad n t B u g) 4 [some (.ref (ad 0)), some (.int (nI r)), some (.int (ySum (fun j => u 2 (yB g r j)) j)), some (.int (nI j))] [] := by
  intro d
  induction d with
  | zero =>
    intro j  hj 
    have hn := hOK.hn
    have ht := hOK.ht
    have h6 := hOK.h6 hr
    have hh := hOK.hh hr
    refine gx_iload_n C dX3_weightOn_4 rfl ?_
    refine gx_aload_n C dX3_weightOn_5 rfl ?_
    refine yg_X3_stacks C hK hT m124 dX3_weightOn_6 ?_
    refine yg_X2_heights C hK hT m81 dX3_weightOn_9 ?_
    refine gx_iload_n C dX3_weightOn_12 rfl ?_
    refine yl_6 C hK rfl (by omega) (by omega) dX3_weightOn_13 ?_
    rw [h6]
    refine gx_icmp_ge (tgt := 45) C dX3_weightOn_14 (by decide) (fun c_14 => ?_) (fun c => absurd (nI_le (by omega) (by omega)) c)
    refine gx_iload_n C dX3_weightOn_45 rfl ?_
    exact gx_iret C hRt hlocks dX3_weightOn_46 (by rw [Nat.add_zero] at hj; rw [hj]; rfl) rfl
  | succ d ih =>
    intro j  hj 
    have hn := hOK.hn
    have ht := hOK.ht
    have h6 := hOK.h6 hr
    have hh := hOK.hh hr
    refine gx_iload_n C dX3_weightOn_4 rfl ?_
    refine gx_aload_n C dX3_weightOn_5 rfl ?_
    refine yg_X3_stacks C hK hT m124 dX3_weightOn_6 ?_
    refine yg_X2_heights C hK hT m81 dX3_weightOn_9 ?_
    refine gx_iload_n C dX3_weightOn_12 rfl ?_
    refine yl_6 C hK rfl (by omega) (by omega) dX3_weightOn_13 ?_
    rw [h6]
    refine gx_icmp_ge (tgt := 45) C dX3_weightOn_14 (by decide) (fun c => absurd c (nI_ge (by omega) (by omega))) (fun c_14 => ?_)
    refine gx_iload_n C dX3_weightOn_17 rfl ?_
    refine gx_aload_n C dX3_weightOn_18 rfl ?_
    refine yg_X3_boxes C hK hT m123 dX3_weightOn_19 ?_
    refine yg_X0_weight C hK hT m40 dX3_weightOn_22 ?_
    refine gx_aload_n C dX3_weightOn_25 rfl ?_
    refine yg_X3_stacks C hK hT m124 dX3_weightOn_26 ?_
    refine yg_X2_cells C hK hT m79 dX3_weightOn_29 ?_
    refine gx_iload_n C dX3_weightOn_32 rfl ?_
    refine yl_grid C hK rfl (by omega) (by omega) dX3_weightOn_33 ?_
    refine gx_iload_n C dX3_weightOn_34 rfl ?_
    refine yl_row C hK rfl (by omega) (by omega) (by omega) dX3_weightOn_35 ?_
    have hj2 : j < yH u r := by omega
    have hb2 := hOK.hb hr hj2
    rw [hOK.hg hr hj2]
    refine yl_2 C hK rfl (by omega) dX3_weightOn_36 ?_
    refine gx_iadd C dX3_weightOn_37 ?_
    refine gx_istore_n (lv2 := [some _, some _, some _, some _]) C dX3_weightOn_38 (by decide) rfl ?_
    refine gx_iincN (lv2 := [some _, some _, some _, some _]) C dX3_weightOn_39 rfl (by decide) rfl ?_
    refine gx_goto (tgt := 4) C dX3_weightOn_42 (by decide) ?_
    exact ih (j + 1)  (by omega) 
set_option maxHeartbeats 4000000 in
set_option maxRecDepth 100000 in
/-- weightOn -/
theorem c_X3_weightOn {l : Launch} {D : va_G} {cI cG cL : ClassId} {ad : Nat → Nat} {n t : Nat} {B : Int32} {u g : Nat → Nat → Int32} {r : Nat} (hOK : yOK n t u g) (hr : r < n) : gx_M l yX3_weightOn wsX3_weightOn ({ frames := 0, cells := 0, slots := 0, locals := 0 }) D vwCl (gT cI cG cL) [.ref (ad 0), .int (nI r)] (yW cI cG ad n t B u g) (yW cI cG ad n t B u g) (some (.int (yWt u g r))) := by
  refine gx_ofG (cc := cX3_weightOn) (maxL := 4) (ret := (some .int)) [some (.ref (ad 0)), some (.int (nI r)), none, none] (by decide) rfl rfl (Nat.le_of_ble_eq_true rfl) rfl ?_
  intro p e s m args below meth c C hRt hlocks hK
  have C : CallFix p m c cX3_weightOn 4 s args (wsX3_weightOn) RX3 := C
  have hT : ∀ w ∈ bigW, w ∈ wsX3_weightOn := bgT
  refine gx_iconst (v := 0) C dX3_weightOn_0 (by decide) ?_
  refine gx_istore_n (lv2 := [some _, some _, some _, none]) C dX3_weightOn_1 (by decide) rfl ?_
  refine gx_iconst (v := 0) C dX3_weightOn_2 (by decide) ?_
  refine gx_istore_n (lv2 := [some _, some _, some _, some _]) C dX3_weightOn_3 (by decide) rfl ?_
  exact lp_X3_weightOn C hT hRt hlocks hK hOK hr (yH u r) 0  (by omega) 
set_option maxHeartbeats 4000000 in
set_option maxRecDepth 100000 in
theorem lp_X3_soonerBelow {l : Launch} {D : va_G} {cI cG cL : ClassId} {ad : Nat → Nat} {n t : Nat} {B : Int32} {u g : Nat → Nat → Int32} {b r k : Nat} {p : Program} {e : Env} {s : State} {m : MethodId} {args : Array Value} {below : List Frame} {meth : Method} {c : Code} (C : CallFix p m c cX3_soonerBelow 6 s args wsX3_soonerBelow RX3) (hT : ∀ w ∈ bigW, w ∈ wsX3_soonerBelow) (hRt : meth.sig.returnType = (some .int)) (hlocks : meth.locks = false) (hK : va_K D vwCl (gT cI cG cL) s) (hOK : yOK n t u g) (hb : b < 60) (hr : r < n) (hk : k ≤ yH u r)  : ∀ (d j : Nat) , j + d = k → gx_G p l e (headSpec wsX3_soonerBelow ({ frames := 0, cells := 0, slots := 0, locals := 0 })).room s m args below meth c D vwCl (gx_in (yW cI cG ad n t B u g)) 6 0 0 (gx_Qm D vwCl below args s (yW cI cG ad n t B u g) (yW cI cG ad n t B u g) (some (.int (nI (ySo u g b r k))))) (yW cI cG ad n t B u g) 6 [some (.ref (ad 0)), some (.int (nI b)), some (.int (nI r)), some (.int (nI k)), some (.int (nI (ySo u g b r j))), some (.int (nI j))] [] := by
  intro d
  induction d with
  | zero =>
    intro j  hj 
    have hn := hOK.hn
    have ht := hOK.ht
    have h6 := hOK.h6 hr
    have hh := hOK.hh hr
    refine gx_iload C dX3_soonerBelow_6 rfl ?_
    refine gx_iload_n C dX3_soonerBelow_8 rfl ?_
    refine gx_icmp_ge (tgt := 53) C dX3_soonerBelow_9 (by decide) (fun c_9 => ?_) (fun c => absurd (nI_le (by omega) (by omega)) c)
    refine gx_iload C dX3_soonerBelow_53 rfl ?_
    exact gx_iret C hRt hlocks dX3_soonerBelow_55 (by rw [Nat.add_zero] at hj; rw [hj]) rfl
  | succ d ih =>
    intro j  hj 
    have hn := hOK.hn
    have ht := hOK.ht
    have h6 := hOK.h6 hr
    have hh := hOK.hh hr
    refine gx_iload C dX3_soonerBelow_6 rfl ?_
    refine gx_iload_n C dX3_soonerBelow_8 rfl ?_
    refine gx_icmp_ge (tgt := 53) C dX3_soonerBelow_9 (by decide) (fun c => absurd c (nI_ge (by omega) (by omega))) (fun c_9 => ?_)
    refine gx_aload_n C dX3_soonerBelow_12 rfl ?_
    refine yg_X3_boxes C hK hT m123 dX3_soonerBelow_13 ?_
    refine yg_X0_leaves C hK hT m42 dX3_soonerBelow_16 ?_
    refine gx_aload_n C dX3_soonerBelow_19 rfl ?_
    refine yg_X3_stacks C hK hT m124 dX3_soonerBelow_20 ?_
    refine yg_X2_cells C hK hT m79 dX3_soonerBelow_23 ?_
    refine gx_iload_n C dX3_soonerBelow_26 rfl ?_
    refine yl_grid C hK rfl (by omega) (by omega) dX3_soonerBelow_27 ?_
    refine gx_iload C dX3_soonerBelow_28 rfl ?_
    refine yl_row C hK rfl (by omega) (by omega) (by omega) dX3_soonerBelow_30 ?_
    have hj2 : j < yH u r := by omega
    have hb2 := hOK.hb hr hj2
    rw [hOK.hg hr hj2]
    refine yl_3 C hK rfl (by omega) dX3_soonerBelow_31 ?_
    refine gx_aload_n C dX3_soonerBelow_32 rfl ?_
    refine yg_X3_boxes C hK hT m123 dX3_soonerBelow_33 ?_
    refine yg_X0_leaves C hK hT m42 dX3_soonerBelow_36 ?_
    refine gx_iload_n C dX3_soonerBelow_39 rfl ?_
    refine yl_3 C hK rfl (by omega) dX3_soonerBelow_40 ?_
    refine gx_icmp_ge (tgt := 47) C dX3_soonerBelow_41 (by decide) (fun c_41 => ?_) (fun c_41 => ?_)
    · first | rw [← e9] | rw [show ySo u g b r j = ySo u g b r (j + 1) by simp only [ySo, yCnt]; rw [if_neg (by simp only [decide_eq_true_eq]; exact Int32.not_lt.mpr c_41)]; rfl]
      refine gx_iincN (lv2 := [some _, some _, some _, some _, some _, some _]) C dX3_soonerBelow_47 rfl (by decide) rfl ?_
      refine gx_goto (tgt := 6) C dX3_soonerBelow_50 (by decide) ?_
      exact ih (j + 1)  (by omega) 
    · have e9 : ySo u g b r (j + 1) = ySo u g b r j + 1 := by simp only [ySo, yCnt]; rw [if_pos (decide_eq_true (Int32.not_le.mp c_41))]
      refine gx_iincN (lv2 := [some _, some _, some _, some _, some _, some _]) C dX3_soonerBelow_44 rfl (by decide) rfl ?_
      first | rw [← e9] | rw [show ySo u g b r j = ySo u g b r (j + 1) by simp only [ySo, yCnt]; rw [if_neg (by simp only [decide_eq_true_eq]; exact Int32.not_lt.mpr c_41)]; rfl]
      refine gx_iincN (lv2 := [some _, some _, some _, some _, some _, some _]) C dX3_soonerBelow_47 rfl (by decide) rfl ?_
      refine gx_goto (tgt := 6) C dX3_soonerBelow_50 (by decide) ?_
      exact ih (j + 1)  (by omega) 
set_option maxHeartbeats 4000000 in
set_option maxRecDepth 100000 in
/-- soonerBelow -/
theorem c_X3_soonerBelow {l : Launch} {D : va_G} {cI cG cL : ClassId} {ad : Nat → Nat} {n t : Nat} {B : Int32} {u g : Nat → Nat → Int32} {b r k : Nat} (hOK : yOK n t u g) (hb : b < 60) (hr : r < n) (hk : k ≤ yH u r) : gx_M l yX3_soonerBelow wsX3_soonerBelow ({ frames := 0, cells := 0, slots := 0, locals := 0 }) D vwCl (gT cI cG cL) [.ref (ad 0), .int (nI b), .int (nI r), .int (nI k)] (yW cI cG ad n t B u g) (yW cI cG ad n t B u g) (some (.int (nI (ySo u g b r k)))) := by
  refine gx_ofG (cc := cX3_soonerBelow) (maxL := 6) (ret := (some .int)) [some (.ref (ad 0)), some (.int (nI b)), some (.int (nI r)), some (.int (nI k)), none, none] (by decide) rfl rfl (Nat.le_of_ble_eq_true rfl) rfl ?_
  intro p e s m args below meth c C hRt hlocks hK
  have C : CallFix p m c cX3_soonerBelow 6 s args (wsX3_soonerBelow) RX3 := C
  have hT : ∀ w ∈ bigW, w ∈ wsX3_soonerBelow := bgT
  refine gx_iconst (v := 0) C dX3_soonerBelow_0 (by decide) ?_
  refine gx_istore (lv2 := [some _, some _, some _, some _, some _, none]) C dX3_soonerBelow_1 (by decide) rfl ?_
  refine gx_iconst (v := 0) C dX3_soonerBelow_3 (by decide) ?_
  refine gx_istore (lv2 := [some _, some _, some _, some _, some _, some _]) C dX3_soonerBelow_4 (by decide) rfl ?_
  exact lp_X3_soonerBelow C hT hRt hlocks hK hOK hb hr hk (k) 0  (by omega) 

theorem c_X4_moves_all {l : Launch} {D : va_G} {cI cG cL : ClassId} {ad : Nat → Nat} {n t : Nat} {B : Int32} {v : Nat → Nat → Int32} {x : Int32} {b T k : Nat} (hT6 : T ≤ 60) (e0 : v 0 0 = nI T) (hb : b < 60) (hk : k ≤ 100) (ek : v 0 2 = nI k) : gx_M l yX4_moves wsX4_moves ({ frames := 2, cells := 0, slots := 0, locals := 45 }) D vwCl (gT cI cG cL) [.ref (ad 0), .int (nI b), .int x] (mW cI ad n t B v) (mW cI ad n t B (mMv v T k b x)) none := by
  by_cases h : k = 100
  · rw [mMv, if_pos h]
    exact c_X4_moves_full hT6 e0 hb (by rw [ek, h]; rfl)
  · rw [mMv, if_neg h]
    exact c_X4_moves hT6 e0 hb (by omega) ek
set_option maxHeartbeats 4000000 in
set_option maxRecDepth 100000 in
theorem c_X4_put_bad {l : Launch} {D : va_G} {cI cG cL : ClassId} {ad : Nat → Nat} {n t : Nat} {B : Int32} {v : Nat → Nat → Int32} {x y : Int32} (hF : yHas v x = false ∨ yRow n y = false) : gx_M l yX4_put wsX4_put ({ frames := 1, cells := 0, slots := 0, locals := 21 }) D vwCl (gT cI cG cL) [.ref (ad 0), .int x, .int y] (mW cI ad n t B v) (mW cI ad n t B (mu v 0 3 1)) (some (.int 0)) := by
  refine gx_ofG (cc := cX4_put) (maxL := 4) (ret := (some .int)) [some (.ref (ad 0)), some (.int x), some (.int y), none] (by decide) rfl rfl (Nat.le_of_ble_eq_true rfl) rfl ?_
  intro p e s m args below meth c C hRt hlocks hK
  have C : CallFix p m c cX4_put 4 s args (wsX4_put) RX4 := C
  have hT : ∀ w ∈ bigW, w ∈ wsX4_put := bgT
  refine gx_aload_n C dX4_put_0 rfl ?_
  refine gx_iload_n C dX4_put_1 rfl ?_
  refine gx_cVi (n := 1) (q0 := 0) C hK (c_X4_isBox (l := l) (D := D) (cI := cI) (cG := cG) (cL := cL) (ad := ad) (n := n) (t := t) (B := B) (v := v) (x := x)) mW_fst (bgV hT m555 m557 slX4_isBox m7 m558) rfl rfl rfl (by decide +kernel) ⟨Nat.le_of_ble_eq_true rfl, Nat.le_of_ble_eq_true rfl⟩ rfl rfl rfl rfl (Nat.le_of_ble_eq_true rfl) (Nat.zero_le _) (Nat.zero_le _) dX4_put_2 ?_
  refine gx_if_eq (tgt := 16) C dX4_put_5 (by decide) (fun c_5 => ?_) (fun c_5 => ?_)
  · refine gx_aload_n C dX4_put_16 rfl ?_
    refine gx_iconst (v := 1) C dX4_put_17 (by decide) ?_
    refine gx_cVi (n := 1) (q0 := 0) C hK (c_X4_fails (l := l) (D := D) (cI := cI) (cG := cG) (cL := cL) (ad := ad) (n := n) (t := t) (B := B) (v := v) (x := 1)) mW_fst (bgV hT m531 m533 slX4_fails m7 m534) rfl rfl rfl (by decide +kernel) ⟨Nat.le_of_ble_eq_true rfl, Nat.le_of_ble_eq_true rfl⟩ rfl rfl rfl rfl (Nat.le_of_ble_eq_true rfl) (Nat.zero_le _) (Nat.zero_le _) dX4_put_18 ?_
    exact gx_iret C hRt hlocks dX4_put_21 rfl rfl
  · refine gx_aload_n C dX4_put_8 rfl ?_
    refine gx_iload_n C dX4_put_9 rfl ?_
    refine gx_cVi (n := 1) (q0 := 0) C hK (c_X4_isRow (l := l) (D := D) (cI := cI) (cG := cG) (cL := cL) (ad := ad) (n := n) (t := t) (B := B) (v := v) (x := y)) mW_fst (bgV hT m539 m541 slX4_isRow m7 m542) rfl rfl rfl (by decide +kernel) ⟨Nat.le_of_ble_eq_true rfl, Nat.le_of_ble_eq_true rfl⟩ rfl rfl rfl rfl (Nat.le_of_ble_eq_true rfl) (Nat.zero_le _) (Nat.zero_le _) dX4_put_10 ?_
    refine gx_if_ne (tgt := 22) C dX4_put_13 (by decide) (fun c => absurd (bI_0.mpr (hF.resolve_left (by rw [bI_t c_5]; decide))) c) (fun c_13 => ?_)
    refine gx_aload_n C dX4_put_16 rfl ?_
    refine gx_iconst (v := 1) C dX4_put_17 (by decide) ?_
    refine gx_cVi (n := 1) (q0 := 0) C hK (c_X4_fails (l := l) (D := D) (cI := cI) (cG := cG) (cL := cL) (ad := ad) (n := n) (t := t) (B := B) (v := v) (x := 1)) mW_fst (bgV hT m531 m533 slX4_fails m7 m534) rfl rfl rfl (by decide +kernel) ⟨Nat.le_of_ble_eq_true rfl, Nat.le_of_ble_eq_true rfl⟩ rfl rfl rfl rfl (Nat.le_of_ble_eq_true rfl) (Nat.zero_le _) (Nat.zero_le _) dX4_put_18 ?_
    exact gx_iret C hRt hlocks dX4_put_21 rfl rfl
set_option maxHeartbeats 4000000 in
set_option maxRecDepth 100000 in
theorem c_X4_put_no {l : Launch} {D : va_G} {cI cG cL : ClassId} {ad : Nat → Nat} {n t : Nat} {B : Int32} {v : Nat → Nat → Int32} {b r T : Nat} (hT6 : T ≤ 60) (e0 : v 0 0 = nI T) (hb : b < 60) (hB : yHas v (nI b) = true) (hn : n ≤ 16) (hr : r < n) (hz : ¬ mWhyP t B (mu v 0 3 0) T b r ≤ 0) : gx_M l yX4_put wsX4_put ({ frames := 2, cells := 0, slots := 0, locals := 47 }) D vwCl (gT cI cG cL) [.ref (ad 0), .int (nI b), .int (nI r)] (mW cI ad n t B v) (mW cI ad n t B (mu v 0 3 0)) (some (.int (-mWhyP t B (mu v 0 3 0) T b r))) := by
  refine gx_ofG (cc := cX4_put) (maxL := 4) (ret := (some .int)) [some (.ref (ad 0)), some (.int (nI b)), some (.int (nI r)), none] (by decide) rfl rfl (Nat.le_of_ble_eq_true rfl) rfl ?_
  intro p e s m args below meth c C hRt hlocks hK
  have C : CallFix p m c cX4_put 4 s args (wsX4_put) RX4 := C
  have hT : ∀ w ∈ bigW, w ∈ wsX4_put := bgT
  refine gx_aload_n C dX4_put_0 rfl ?_
  refine gx_iload_n C dX4_put_1 rfl ?_
  refine gx_cVi (n := 1) (q0 := 0) C hK (c_X4_isBox (l := l) (D := D) (cI := cI) (cG := cG) (cL := cL) (ad := ad) (n := n) (t := t) (B := B) (v := v) (x := nI b)) mW_fst (bgV hT m555 m557 slX4_isBox m7 m558) rfl rfl rfl (by decide +kernel) ⟨Nat.le_of_ble_eq_true rfl, Nat.le_of_ble_eq_true rfl⟩ rfl rfl rfl rfl (Nat.le_of_ble_eq_true rfl) (Nat.zero_le _) (Nat.zero_le _) dX4_put_2 ?_
  refine gx_if_eq (tgt := 16) C dX4_put_5 (by decide) (fun c => absurd c (by rw [hB]; decide)) (fun c_5 => ?_)
  refine gx_aload_n C dX4_put_8 rfl ?_
  refine gx_iload_n C dX4_put_9 rfl ?_
  refine gx_cVi (n := 1) (q0 := 0) C hK (c_X4_isRow (l := l) (D := D) (cI := cI) (cG := cG) (cL := cL) (ad := ad) (n := n) (t := t) (B := B) (v := v) (x := nI r)) mW_fst (bgV hT m539 m541 slX4_isRow m7 m542) rfl rfl rfl (by decide +kernel) ⟨Nat.le_of_ble_eq_true rfl, Nat.le_of_ble_eq_true rfl⟩ rfl rfl rfl rfl (Nat.le_of_ble_eq_true rfl) (Nat.zero_le _) (Nat.zero_le _) dX4_put_10 ?_
  refine gx_if_ne (tgt := 22) C dX4_put_13 (by decide) (fun c_13 => ?_) (fun c => absurd c (by rw [yRow_of hn hr]; decide))
  refine gx_aload_n C dX4_put_22 rfl ?_
  refine gx_iconst (v := 0) C dX4_put_23 (by decide) ?_
  refine mp_X4_thrown C hK hT m465 dX4_put_24 ?_
  refine gx_aload_n C dX4_put_27 rfl ?_
  refine mg_X4_rowOf C hK hT m477 dX4_put_28 ?_
  refine gx_iload_n C dX4_put_31 rfl ?_
  refine ml_7 C hK rfl (by omega) dX4_put_32 ?_
  refine gx_if_lt (tgt := 40) C dX4_put_33 (by decide) (fun c_33 => ?_) (fun c_33 => ?_)
  · refine gx_aload_n C dX4_put_40 rfl ?_
    refine gx_iload_n C dX4_put_41 rfl ?_
    refine gx_iload_n C dX4_put_42 rfl ?_
    refine gx_cVi (n := 2) (q0 := 0) C hK (c_X4_broken (l := l) (D := D) (cI := cI) (cG := cG) (cL := cL) (ad := ad) (n := n) (t := t) (B := B) (v := mu v 0 3 0) (r := r) hT6 e0 hb (by omega)) mW_fst (bgV hT m559 m561 slX4_broken m7 m562) rfl rfl rfl (by decide +kernel) ⟨Nat.le_of_ble_eq_true rfl, Nat.le_of_ble_eq_true rfl⟩ rfl rfl rfl rfl (Nat.le_of_ble_eq_true rfl) (Nat.zero_le _) (Nat.zero_le _) dX4_put_43 ?_
    refine gx_istore_n (lv2 := [some _, some _, some _, some _]) C dX4_put_46 (by decide) rfl ?_
    refine gx_iload_n C dX4_put_47 rfl ?_
    refine gx_if_le (tgt := 54) C dX4_put_48 (by decide) (fun c => absurd (by rw [mWhyP, if_pos c_33]; exact c) hz) (fun c_48 => ?_)
    refine gx_iload_n C dX4_put_51 rfl ?_
    refine gx_ineg C dX4_put_52 ?_
    exact gx_iret C hRt hlocks dX4_put_53 (by rw [mWhyP, if_pos c_33]) rfl
  · refine gx_iconst (v := 1) C dX4_put_36 (by decide) ?_
    refine gx_goto (tgt := 46) C dX4_put_37 (by decide) ?_
    refine gx_istore_n (lv2 := [some _, some _, some _, some _]) C dX4_put_46 (by decide) rfl ?_
    refine gx_iload_n C dX4_put_47 rfl ?_
    refine gx_if_le (tgt := 54) C dX4_put_48 (by decide) (fun c => absurd c (by decide)) (fun c_48 => ?_)
    refine gx_iload_n C dX4_put_51 rfl ?_
    refine gx_ineg C dX4_put_52 ?_
    exact gx_iret C hRt hlocks dX4_put_53 (by rw [mWhyP, if_neg c_33]) rfl
set_option maxHeartbeats 4000000 in
set_option maxRecDepth 100000 in
theorem c_X4_put {l : Launch} {D : va_G} {cI cG cL : ClassId} {ad : Nat → Nat} {n t : Nat} {B : Int32} {v : Nat → Nat → Int32} {b r T k : Nat} (hT6 : T ≤ 60) (e0 : v 0 0 = nI T) (hb : b < 60) (hB : yHas v (nI b) = true) (hn : n ≤ 16) (hr : r < n) (hs : v 7 b < 0) (hz : mBr t B (mu v 0 3 0) T b r ≤ 0) (hk : k ≤ 100) (ek : v 0 2 = nI k) : gx_M l yX4_put wsX4_put ({ frames := 3, cells := 0, slots := 0, locals := 68 }) D vwCl (gT cI cG cL) [.ref (ad 0), .int (nI b), .int (nI r)] (mW cI ad n t B v) (mW cI ad n t B (mMv (mu v 0 3 0) T k b (nI r))) (some (.int 1)) := by
  refine gx_ofG (cc := cX4_put) (maxL := 4) (ret := (some .int)) [some (.ref (ad 0)), some (.int (nI b)), some (.int (nI r)), none] (by decide) rfl rfl (Nat.le_of_ble_eq_true rfl) rfl ?_
  intro p e s m args below meth c C hRt hlocks hK
  have C : CallFix p m c cX4_put 4 s args (wsX4_put) RX4 := C
  have hT : ∀ w ∈ bigW, w ∈ wsX4_put := bgT
  refine gx_aload_n C dX4_put_0 rfl ?_
  refine gx_iload_n C dX4_put_1 rfl ?_
  refine gx_cVi (n := 1) (q0 := 0) C hK (c_X4_isBox (l := l) (D := D) (cI := cI) (cG := cG) (cL := cL) (ad := ad) (n := n) (t := t) (B := B) (v := v) (x := nI b)) mW_fst (bgV hT m555 m557 slX4_isBox m7 m558) rfl rfl rfl (by decide +kernel) ⟨Nat.le_of_ble_eq_true rfl, Nat.le_of_ble_eq_true rfl⟩ rfl rfl rfl rfl (Nat.le_of_ble_eq_true rfl) (Nat.zero_le _) (Nat.zero_le _) dX4_put_2 ?_
  refine gx_if_eq (tgt := 16) C dX4_put_5 (by decide) (fun c => absurd c (by rw [hB]; decide)) (fun c_5 => ?_)
  refine gx_aload_n C dX4_put_8 rfl ?_
  refine gx_iload_n C dX4_put_9 rfl ?_
  refine gx_cVi (n := 1) (q0 := 0) C hK (c_X4_isRow (l := l) (D := D) (cI := cI) (cG := cG) (cL := cL) (ad := ad) (n := n) (t := t) (B := B) (v := v) (x := nI r)) mW_fst (bgV hT m539 m541 slX4_isRow m7 m542) rfl rfl rfl (by decide +kernel) ⟨Nat.le_of_ble_eq_true rfl, Nat.le_of_ble_eq_true rfl⟩ rfl rfl rfl rfl (Nat.le_of_ble_eq_true rfl) (Nat.zero_le _) (Nat.zero_le _) dX4_put_10 ?_
  refine gx_if_ne (tgt := 22) C dX4_put_13 (by decide) (fun c_13 => ?_) (fun c => absurd c (by rw [yRow_of hn hr]; decide))
  refine gx_aload_n C dX4_put_22 rfl ?_
  refine gx_iconst (v := 0) C dX4_put_23 (by decide) ?_
  refine mp_X4_thrown C hK hT m465 dX4_put_24 ?_
  refine gx_aload_n C dX4_put_27 rfl ?_
  refine mg_X4_rowOf C hK hT m477 dX4_put_28 ?_
  refine gx_iload_n C dX4_put_31 rfl ?_
  refine ml_7 C hK rfl (by omega) dX4_put_32 ?_
  refine gx_if_lt (tgt := 40) C dX4_put_33 (by decide) (fun c_33 => ?_) (fun c => absurd hs c)
  refine gx_aload_n C dX4_put_40 rfl ?_
  refine gx_iload_n C dX4_put_41 rfl ?_
  refine gx_iload_n C dX4_put_42 rfl ?_
  refine gx_cVi (n := 2) (q0 := 0) C hK (c_X4_broken (l := l) (D := D) (cI := cI) (cG := cG) (cL := cL) (ad := ad) (n := n) (t := t) (B := B) (v := mu v 0 3 0) (r := r) hT6 e0 hb (by omega)) mW_fst (bgV hT m559 m561 slX4_broken m7 m562) rfl rfl rfl (by decide +kernel) ⟨Nat.le_of_ble_eq_true rfl, Nat.le_of_ble_eq_true rfl⟩ rfl rfl rfl rfl (Nat.le_of_ble_eq_true rfl) (Nat.zero_le _) (Nat.zero_le _) dX4_put_43 ?_
  refine gx_istore_n (lv2 := [some _, some _, some _, some _]) C dX4_put_46 (by decide) rfl ?_
  refine gx_iload_n C dX4_put_47 rfl ?_
  refine gx_if_le (tgt := 54) C dX4_put_48 (by decide) (fun c_48 => ?_) (fun c => absurd hz c)
  refine gx_aload_n C dX4_put_54 rfl ?_
  refine gx_iload_n C dX4_put_55 rfl ?_
  refine gx_iload_n C dX4_put_56 rfl ?_
  refine gx_cVv (n := 2) (q0 := 0) C hK (c_X4_moves_all (l := l) (D := D) (cI := cI) (cG := cG) (cL := cL) (ad := ad) (n := n) (t := t) (B := B) (v := mu v 0 3 0) (x := nI r) hT6 e0 hb hk ek) mW_fst (bgV hT m575 m577 slX4_moves m7 m578) rfl rfl rfl (by decide +kernel) ⟨Nat.le_of_ble_eq_true rfl, Nat.le_of_ble_eq_true rfl⟩ rfl rfl rfl rfl (Nat.le_of_ble_eq_true rfl) (Nat.zero_le _) (Nat.zero_le _) dX4_put_57 ?_
  refine gx_iconst (v := 1) C dX4_put_60 (by decide) ?_
  exact gx_iret C hRt hlocks dX4_put_61 rfl rfl
set_option maxHeartbeats 4000000 in
set_option maxRecDepth 100000 in
theorem c_X4_take_bad {l : Launch} {D : va_G} {cI cG cL : ClassId} {ad : Nat → Nat} {n t : Nat} {B : Int32} {v : Nat → Nat → Int32} {x : Int32} (hF : yHas v x = false) : gx_M l yX4_take wsX4_take ({ frames := 1, cells := 0, slots := 0, locals := 21 }) D vwCl (gT cI cG cL) [.ref (ad 0), .int x] (mW cI ad n t B v) (mW cI ad n t B (mu v 0 3 1)) (some (.int 0)) := by
  refine gx_ofG (cc := cX4_take) (maxL := 2) (ret := (some .int)) [some (.ref (ad 0)), some (.int x)] (by decide) rfl rfl (Nat.le_of_ble_eq_true rfl) rfl ?_
  intro p e s m args below meth c C hRt hlocks hK
  have C : CallFix p m c cX4_take 2 s args (wsX4_take) RX4 := C
  have hT : ∀ w ∈ bigW, w ∈ wsX4_take := bgT
  refine gx_aload_n C dX4_take_0 rfl ?_
  refine gx_iload_n C dX4_take_1 rfl ?_
  refine gx_cVi (n := 1) (q0 := 0) C hK (c_X4_isBox (l := l) (D := D) (cI := cI) (cG := cG) (cL := cL) (ad := ad) (n := n) (t := t) (B := B) (v := v) (x := x)) mW_fst (bgV hT m555 m557 slX4_isBox m7 m558) rfl rfl rfl (by decide +kernel) ⟨Nat.le_of_ble_eq_true rfl, Nat.le_of_ble_eq_true rfl⟩ rfl rfl rfl rfl (Nat.le_of_ble_eq_true rfl) (Nat.zero_le _) (Nat.zero_le _) dX4_take_2 ?_
  refine gx_if_ne (tgt := 14) C dX4_take_5 (by decide) (fun c => absurd (bI_0.mpr hF) c) (fun c_5 => ?_)
  refine gx_aload_n C dX4_take_8 rfl ?_
  refine gx_iconst (v := 1) C dX4_take_9 (by decide) ?_
  refine gx_cVi (n := 1) (q0 := 0) C hK (c_X4_fails (l := l) (D := D) (cI := cI) (cG := cG) (cL := cL) (ad := ad) (n := n) (t := t) (B := B) (v := v) (x := 1)) mW_fst (bgV hT m531 m533 slX4_fails m7 m534) rfl rfl rfl (by decide +kernel) ⟨Nat.le_of_ble_eq_true rfl, Nat.le_of_ble_eq_true rfl⟩ rfl rfl rfl rfl (Nat.le_of_ble_eq_true rfl) (Nat.zero_le _) (Nat.zero_le _) dX4_take_10 ?_
  exact gx_iret C hRt hlocks dX4_take_13 rfl rfl
set_option maxHeartbeats 4000000 in
set_option maxRecDepth 100000 in
theorem c_X4_take_no {l : Launch} {D : va_G} {cI cG cL : ClassId} {ad : Nat → Nat} {n t : Nat} {B : Int32} {v : Nat → Nat → Int32} {b T : Nat} (hT6 : T ≤ 60) (e0 : v 0 0 = nI T) (hb : b < 60) (hB : yHas v (nI b) = true) (ho : mTop (mu v 0 3 0) T b = false) : gx_M l yX4_take wsX4_take ({ frames := 2, cells := 0, slots := 0, locals := 44 }) D vwCl (gT cI cG cL) [.ref (ad 0), .int (nI b)] (mW cI ad n t B v) (mW cI ad n t B (mu v 0 3 0)) (some (.int 0)) := by
  refine gx_ofG (cc := cX4_take) (maxL := 2) (ret := (some .int)) [some (.ref (ad 0)), some (.int (nI b))] (by decide) rfl rfl (Nat.le_of_ble_eq_true rfl) rfl ?_
  intro p e s m args below meth c C hRt hlocks hK
  have C : CallFix p m c cX4_take 2 s args (wsX4_take) RX4 := C
  have hT : ∀ w ∈ bigW, w ∈ wsX4_take := bgT
  refine gx_aload_n C dX4_take_0 rfl ?_
  refine gx_iload_n C dX4_take_1 rfl ?_
  refine gx_cVi (n := 1) (q0 := 0) C hK (c_X4_isBox (l := l) (D := D) (cI := cI) (cG := cG) (cL := cL) (ad := ad) (n := n) (t := t) (B := B) (v := v) (x := nI b)) mW_fst (bgV hT m555 m557 slX4_isBox m7 m558) rfl rfl rfl (by decide +kernel) ⟨Nat.le_of_ble_eq_true rfl, Nat.le_of_ble_eq_true rfl⟩ rfl rfl rfl rfl (Nat.le_of_ble_eq_true rfl) (Nat.zero_le _) (Nat.zero_le _) dX4_take_2 ?_
  refine gx_if_ne (tgt := 14) C dX4_take_5 (by decide) (fun c_5 => ?_) (fun c => absurd c (by rw [hB]; decide))
  refine gx_aload_n C dX4_take_14 rfl ?_
  refine gx_iconst (v := 0) C dX4_take_15 (by decide) ?_
  refine mp_X4_thrown C hK hT m465 dX4_take_16 ?_
  refine gx_aload_n C dX4_take_19 rfl ?_
  refine gx_iload_n C dX4_take_20 rfl ?_
  refine gx_cVi (n := 1) (q0 := 0) C hK (c_X4_isTop (l := l) (D := D) (cI := cI) (cG := cG) (cL := cL) (ad := ad) (n := n) (t := t) (B := B) (v := mu v 0 3 0) hT6 e0 hb) mW_fst (bgV hT m587 m589 slX4_isTop m7 m590) rfl rfl rfl (by decide +kernel) ⟨Nat.le_of_ble_eq_true rfl, Nat.le_of_ble_eq_true rfl⟩ rfl rfl rfl rfl (Nat.le_of_ble_eq_true rfl) (Nat.zero_le _) (Nat.zero_le _) dX4_take_21 ?_
  refine gx_if_ne (tgt := 29) C dX4_take_24 (by decide) (fun c => absurd (bI_0.mpr ho) c) (fun c_24 => ?_)
  refine gx_iconst (v := 0) C dX4_take_27 (by decide) ?_
  exact gx_iret C hRt hlocks dX4_take_28 rfl rfl
set_option maxHeartbeats 4000000 in
set_option maxRecDepth 100000 in
theorem c_X4_take {l : Launch} {D : va_G} {cI cG cL : ClassId} {ad : Nat → Nat} {n t : Nat} {B : Int32} {v : Nat → Nat → Int32} {b T k : Nat} (hT6 : T ≤ 60) (e0 : v 0 0 = nI T) (hb : b < 60) (hB : yHas v (nI b) = true) (ho : mTop (mu v 0 3 0) T b = true) (hk : k ≤ 100) (ek : v 0 2 = nI k) : gx_M l yX4_take wsX4_take ({ frames := 3, cells := 0, slots := 0, locals := 68 }) D vwCl (gT cI cG cL) [.ref (ad 0), .int (nI b)] (mW cI ad n t B v) (mW cI ad n t B (mMv (mu v 0 3 0) T k b (-1))) (some (.int 1)) := by
  refine gx_ofG (cc := cX4_take) (maxL := 2) (ret := (some .int)) [some (.ref (ad 0)), some (.int (nI b))] (by decide) rfl rfl (Nat.le_of_ble_eq_true rfl) rfl ?_
  intro p e s m args below meth c C hRt hlocks hK
  have C : CallFix p m c cX4_take 2 s args (wsX4_take) RX4 := C
  have hT : ∀ w ∈ bigW, w ∈ wsX4_take := bgT
  refine gx_aload_n C dX4_take_0 rfl ?_
  refine gx_iload_n C dX4_take_1 rfl ?_
  refine gx_cVi (n := 1) (q0 := 0) C hK (c_X4_isBox (l := l) (D := D) (cI := cI) (cG := cG) (cL := cL) (ad := ad) (n := n) (t := t) (B := B) (v := v) (x := nI b)) mW_fst (bgV hT m555 m557 slX4_isBox m7 m558) rfl rfl rfl (by decide +kernel) ⟨Nat.le_of_ble_eq_true rfl, Nat.le_of_ble_eq_true rfl⟩ rfl rfl rfl rfl (Nat.le_of_ble_eq_true rfl) (Nat.zero_le _) (Nat.zero_le _) dX4_take_2 ?_
  refine gx_if_ne (tgt := 14) C dX4_take_5 (by decide) (fun c_5 => ?_) (fun c => absurd c (by rw [hB]; decide))
  refine gx_aload_n C dX4_take_14 rfl ?_
  refine gx_iconst (v := 0) C dX4_take_15 (by decide) ?_
  refine mp_X4_thrown C hK hT m465 dX4_take_16 ?_
  refine gx_aload_n C dX4_take_19 rfl ?_
  refine gx_iload_n C dX4_take_20 rfl ?_
  refine gx_cVi (n := 1) (q0 := 0) C hK (c_X4_isTop (l := l) (D := D) (cI := cI) (cG := cG) (cL := cL) (ad := ad) (n := n) (t := t) (B := B) (v := mu v 0 3 0) hT6 e0 hb) mW_fst (bgV hT m587 m589 slX4_isTop m7 m590) rfl rfl rfl (by decide +kernel) ⟨Nat.le_of_ble_eq_true rfl, Nat.le_of_ble_eq_true rfl⟩ rfl rfl rfl rfl (Nat.le_of_ble_eq_true rfl) (Nat.zero_le _) (Nat.zero_le _) dX4_take_21 ?_
  refine gx_if_ne (tgt := 29) C dX4_take_24 (by decide) (fun c_24 => ?_) (fun c => absurd c (by rw [ho]; decide))
  refine gx_aload_n C dX4_take_29 rfl ?_
  refine gx_iload_n C dX4_take_30 rfl ?_
  refine gx_iconst (v := (-1)) C dX4_take_31 (by decide) ?_
  refine gx_cVv (n := 2) (q0 := 0) C hK (c_X4_moves_all (l := l) (D := D) (cI := cI) (cG := cG) (cL := cL) (ad := ad) (n := n) (t := t) (B := B) (v := mu v 0 3 0) (x := -1) hT6 e0 hb hk ek) mW_fst (bgV hT m575 m577 slX4_moves m7 m578) rfl rfl rfl (by decide +kernel) ⟨Nat.le_of_ble_eq_true rfl, Nat.le_of_ble_eq_true rfl⟩ rfl rfl rfl rfl (Nat.le_of_ble_eq_true rfl) (Nat.zero_le _) (Nat.zero_le _) dX4_take_32 ?_
  refine gx_iconst (v := 1) C dX4_take_35 (by decide) ?_
  exact gx_iret C hRt hlocks dX4_take_36 rfl rfl
set_option maxHeartbeats 4000000 in
set_option maxRecDepth 100000 in
theorem c_X4_shift_bad {l : Launch} {D : va_G} {cI cG cL : ClassId} {ad : Nat → Nat} {n t : Nat} {B : Int32} {v : Nat → Nat → Int32} {x y : Int32} (hF : yHas v x = false ∨ yRow n y = false) : gx_M l yX4_shift wsX4_shift ({ frames := 1, cells := 0, slots := 0, locals := 21 }) D vwCl (gT cI cG cL) [.ref (ad 0), .int x, .int y] (mW cI ad n t B v) (mW cI ad n t B (mu v 0 3 1)) (some (.int 0)) := by
  refine gx_ofG (cc := cX4_shift) (maxL := 4) (ret := (some .int)) [some (.ref (ad 0)), some (.int x), some (.int y), none] (by decide) rfl rfl (Nat.le_of_ble_eq_true rfl) rfl ?_
  intro p e s m args below meth c C hRt hlocks hK
  have C : CallFix p m c cX4_shift 4 s args (wsX4_shift) RX4 := C
  have hT : ∀ w ∈ bigW, w ∈ wsX4_shift := bgT
  refine gx_aload_n C dX4_shift_0 rfl ?_
  refine gx_iload_n C dX4_shift_1 rfl ?_
  refine gx_cVi (n := 1) (q0 := 0) C hK (c_X4_isBox (l := l) (D := D) (cI := cI) (cG := cG) (cL := cL) (ad := ad) (n := n) (t := t) (B := B) (v := v) (x := x)) mW_fst (bgV hT m555 m557 slX4_isBox m7 m558) rfl rfl rfl (by decide +kernel) ⟨Nat.le_of_ble_eq_true rfl, Nat.le_of_ble_eq_true rfl⟩ rfl rfl rfl rfl (Nat.le_of_ble_eq_true rfl) (Nat.zero_le _) (Nat.zero_le _) dX4_shift_2 ?_
  refine gx_if_eq (tgt := 16) C dX4_shift_5 (by decide) (fun c_5 => ?_) (fun c_5 => ?_)
  · refine gx_aload_n C dX4_shift_16 rfl ?_
    refine gx_iconst (v := 1) C dX4_shift_17 (by decide) ?_
    refine gx_cVi (n := 1) (q0 := 0) C hK (c_X4_fails (l := l) (D := D) (cI := cI) (cG := cG) (cL := cL) (ad := ad) (n := n) (t := t) (B := B) (v := v) (x := 1)) mW_fst (bgV hT m531 m533 slX4_fails m7 m534) rfl rfl rfl (by decide +kernel) ⟨Nat.le_of_ble_eq_true rfl, Nat.le_of_ble_eq_true rfl⟩ rfl rfl rfl rfl (Nat.le_of_ble_eq_true rfl) (Nat.zero_le _) (Nat.zero_le _) dX4_shift_18 ?_
    exact gx_iret C hRt hlocks dX4_shift_21 rfl rfl
  · refine gx_aload_n C dX4_shift_8 rfl ?_
    refine gx_iload_n C dX4_shift_9 rfl ?_
    refine gx_cVi (n := 1) (q0 := 0) C hK (c_X4_isRow (l := l) (D := D) (cI := cI) (cG := cG) (cL := cL) (ad := ad) (n := n) (t := t) (B := B) (v := v) (x := y)) mW_fst (bgV hT m539 m541 slX4_isRow m7 m542) rfl rfl rfl (by decide +kernel) ⟨Nat.le_of_ble_eq_true rfl, Nat.le_of_ble_eq_true rfl⟩ rfl rfl rfl rfl (Nat.le_of_ble_eq_true rfl) (Nat.zero_le _) (Nat.zero_le _) dX4_shift_10 ?_
    refine gx_if_ne (tgt := 22) C dX4_shift_13 (by decide) (fun c => absurd (bI_0.mpr (hF.resolve_left (by rw [bI_t c_5]; decide))) c) (fun c_13 => ?_)
    refine gx_aload_n C dX4_shift_16 rfl ?_
    refine gx_iconst (v := 1) C dX4_shift_17 (by decide) ?_
    refine gx_cVi (n := 1) (q0 := 0) C hK (c_X4_fails (l := l) (D := D) (cI := cI) (cG := cG) (cL := cL) (ad := ad) (n := n) (t := t) (B := B) (v := v) (x := 1)) mW_fst (bgV hT m531 m533 slX4_fails m7 m534) rfl rfl rfl (by decide +kernel) ⟨Nat.le_of_ble_eq_true rfl, Nat.le_of_ble_eq_true rfl⟩ rfl rfl rfl rfl (Nat.le_of_ble_eq_true rfl) (Nat.zero_le _) (Nat.zero_le _) dX4_shift_18 ?_
    exact gx_iret C hRt hlocks dX4_shift_21 rfl rfl
set_option maxHeartbeats 4000000 in
set_option maxRecDepth 100000 in
theorem c_X4_shift_off {l : Launch} {D : va_G} {cI cG cL : ClassId} {ad : Nat → Nat} {n t : Nat} {B : Int32} {v : Nat → Nat → Int32} {b r T : Nat} (hT6 : T ≤ 60) (e0 : v 0 0 = nI T) (hb : b < 60) (hB : yHas v (nI b) = true) (hn : n ≤ 16) (hr : r < n) (ho : mTop (mu v 0 3 0) T b = false) : gx_M l yX4_shift wsX4_shift ({ frames := 2, cells := 0, slots := 0, locals := 44 }) D vwCl (gT cI cG cL) [.ref (ad 0), .int (nI b), .int (nI r)] (mW cI ad n t B v) (mW cI ad n t B (mu v 0 3 0)) (some (.int 0)) := by
  refine gx_ofG (cc := cX4_shift) (maxL := 4) (ret := (some .int)) [some (.ref (ad 0)), some (.int (nI b)), some (.int (nI r)), none] (by decide) rfl rfl (Nat.le_of_ble_eq_true rfl) rfl ?_
  intro p e s m args below meth c C hRt hlocks hK
  have C : CallFix p m c cX4_shift 4 s args (wsX4_shift) RX4 := C
  have hT : ∀ w ∈ bigW, w ∈ wsX4_shift := bgT
  refine gx_aload_n C dX4_shift_0 rfl ?_
  refine gx_iload_n C dX4_shift_1 rfl ?_
  refine gx_cVi (n := 1) (q0 := 0) C hK (c_X4_isBox (l := l) (D := D) (cI := cI) (cG := cG) (cL := cL) (ad := ad) (n := n) (t := t) (B := B) (v := v) (x := nI b)) mW_fst (bgV hT m555 m557 slX4_isBox m7 m558) rfl rfl rfl (by decide +kernel) ⟨Nat.le_of_ble_eq_true rfl, Nat.le_of_ble_eq_true rfl⟩ rfl rfl rfl rfl (Nat.le_of_ble_eq_true rfl) (Nat.zero_le _) (Nat.zero_le _) dX4_shift_2 ?_
  refine gx_if_eq (tgt := 16) C dX4_shift_5 (by decide) (fun c => absurd c (by rw [hB]; decide)) (fun c_5 => ?_)
  refine gx_aload_n C dX4_shift_8 rfl ?_
  refine gx_iload_n C dX4_shift_9 rfl ?_
  refine gx_cVi (n := 1) (q0 := 0) C hK (c_X4_isRow (l := l) (D := D) (cI := cI) (cG := cG) (cL := cL) (ad := ad) (n := n) (t := t) (B := B) (v := v) (x := nI r)) mW_fst (bgV hT m539 m541 slX4_isRow m7 m542) rfl rfl rfl (by decide +kernel) ⟨Nat.le_of_ble_eq_true rfl, Nat.le_of_ble_eq_true rfl⟩ rfl rfl rfl rfl (Nat.le_of_ble_eq_true rfl) (Nat.zero_le _) (Nat.zero_le _) dX4_shift_10 ?_
  refine gx_if_ne (tgt := 22) C dX4_shift_13 (by decide) (fun c_13 => ?_) (fun c => absurd c (by rw [yRow_of hn hr]; decide))
  refine gx_aload_n C dX4_shift_22 rfl ?_
  refine gx_iconst (v := 0) C dX4_shift_23 (by decide) ?_
  refine mp_X4_thrown C hK hT m465 dX4_shift_24 ?_
  refine gx_aload_n C dX4_shift_27 rfl ?_
  refine gx_iload_n C dX4_shift_28 rfl ?_
  refine gx_cVi (n := 1) (q0 := 0) C hK (c_X4_isTop (l := l) (D := D) (cI := cI) (cG := cG) (cL := cL) (ad := ad) (n := n) (t := t) (B := B) (v := mu v 0 3 0) hT6 e0 hb) mW_fst (bgV hT m587 m589 slX4_isTop m7 m590) rfl rfl rfl (by decide +kernel) ⟨Nat.le_of_ble_eq_true rfl, Nat.le_of_ble_eq_true rfl⟩ rfl rfl rfl rfl (Nat.le_of_ble_eq_true rfl) (Nat.zero_le _) (Nat.zero_le _) dX4_shift_29 ?_
  refine gx_if_ne (tgt := 37) C dX4_shift_32 (by decide) (fun c => absurd (bI_0.mpr ho) c) (fun c_32 => ?_)
  refine gx_iconst (v := 0) C dX4_shift_35 (by decide) ?_
  exact gx_iret C hRt hlocks dX4_shift_36 rfl rfl
set_option maxHeartbeats 4000000 in
set_option maxRecDepth 100000 in
theorem c_X4_shift_no {l : Launch} {D : va_G} {cI cG cL : ClassId} {ad : Nat → Nat} {n t : Nat} {B : Int32} {v : Nat → Nat → Int32} {b r T : Nat} (hT6 : T ≤ 60) (e0 : v 0 0 = nI T) (hb : b < 60) (hB : yHas v (nI b) = true) (hn : n ≤ 16) (hr : r < n) (ho : mTop (mu v 0 3 0) T b = true) (hz : ¬ mWhyS t B (mu v 0 3 0) T b r ≤ 0) : gx_M l yX4_shift wsX4_shift ({ frames := 2, cells := 0, slots := 0, locals := 47 }) D vwCl (gT cI cG cL) [.ref (ad 0), .int (nI b), .int (nI r)] (mW cI ad n t B v) (mW cI ad n t B (mu v 0 3 0)) (some (.int (-mWhyS t B (mu v 0 3 0) T b r))) := by
  refine gx_ofG (cc := cX4_shift) (maxL := 4) (ret := (some .int)) [some (.ref (ad 0)), some (.int (nI b)), some (.int (nI r)), none] (by decide) rfl rfl (Nat.le_of_ble_eq_true rfl) rfl ?_
  intro p e s m args below meth c C hRt hlocks hK
  have C : CallFix p m c cX4_shift 4 s args (wsX4_shift) RX4 := C
  have hT : ∀ w ∈ bigW, w ∈ wsX4_shift := bgT
  refine gx_aload_n C dX4_shift_0 rfl ?_
  refine gx_iload_n C dX4_shift_1 rfl ?_
  refine gx_cVi (n := 1) (q0 := 0) C hK (c_X4_isBox (l := l) (D := D) (cI := cI) (cG := cG) (cL := cL) (ad := ad) (n := n) (t := t) (B := B) (v := v) (x := nI b)) mW_fst (bgV hT m555 m557 slX4_isBox m7 m558) rfl rfl rfl (by decide +kernel) ⟨Nat.le_of_ble_eq_true rfl, Nat.le_of_ble_eq_true rfl⟩ rfl rfl rfl rfl (Nat.le_of_ble_eq_true rfl) (Nat.zero_le _) (Nat.zero_le _) dX4_shift_2 ?_
  refine gx_if_eq (tgt := 16) C dX4_shift_5 (by decide) (fun c => absurd c (by rw [hB]; decide)) (fun c_5 => ?_)
  refine gx_aload_n C dX4_shift_8 rfl ?_
  refine gx_iload_n C dX4_shift_9 rfl ?_
  refine gx_cVi (n := 1) (q0 := 0) C hK (c_X4_isRow (l := l) (D := D) (cI := cI) (cG := cG) (cL := cL) (ad := ad) (n := n) (t := t) (B := B) (v := v) (x := nI r)) mW_fst (bgV hT m539 m541 slX4_isRow m7 m542) rfl rfl rfl (by decide +kernel) ⟨Nat.le_of_ble_eq_true rfl, Nat.le_of_ble_eq_true rfl⟩ rfl rfl rfl rfl (Nat.le_of_ble_eq_true rfl) (Nat.zero_le _) (Nat.zero_le _) dX4_shift_10 ?_
  refine gx_if_ne (tgt := 22) C dX4_shift_13 (by decide) (fun c_13 => ?_) (fun c => absurd c (by rw [yRow_of hn hr]; decide))
  refine gx_aload_n C dX4_shift_22 rfl ?_
  refine gx_iconst (v := 0) C dX4_shift_23 (by decide) ?_
  refine mp_X4_thrown C hK hT m465 dX4_shift_24 ?_
  refine gx_aload_n C dX4_shift_27 rfl ?_
  refine gx_iload_n C dX4_shift_28 rfl ?_
  refine gx_cVi (n := 1) (q0 := 0) C hK (c_X4_isTop (l := l) (D := D) (cI := cI) (cG := cG) (cL := cL) (ad := ad) (n := n) (t := t) (B := B) (v := mu v 0 3 0) hT6 e0 hb) mW_fst (bgV hT m587 m589 slX4_isTop m7 m590) rfl rfl rfl (by decide +kernel) ⟨Nat.le_of_ble_eq_true rfl, Nat.le_of_ble_eq_true rfl⟩ rfl rfl rfl rfl (Nat.le_of_ble_eq_true rfl) (Nat.zero_le _) (Nat.zero_le _) dX4_shift_29 ?_
  refine gx_if_ne (tgt := 37) C dX4_shift_32 (by decide) (fun c_32 => ?_) (fun c => absurd c (by rw [ho]; decide))
  refine gx_aload_n C dX4_shift_37 rfl ?_
  refine mg_X4_rowOf C hK hT m477 dX4_shift_38 ?_
  refine gx_iload_n C dX4_shift_41 rfl ?_
  refine ml_7 C hK rfl (by omega) dX4_shift_42 ?_
  refine gx_iload_n C dX4_shift_43 rfl ?_
  refine gx_icmp_ne (tgt := 51) C dX4_shift_44 (by decide) (fun c_44 => ?_) (fun c_44 => ?_)
  · refine gx_aload_n C dX4_shift_51 rfl ?_
    refine gx_iload_n C dX4_shift_52 rfl ?_
    refine gx_iload_n C dX4_shift_53 rfl ?_
    refine gx_cVi (n := 2) (q0 := 0) C hK (c_X4_broken (l := l) (D := D) (cI := cI) (cG := cG) (cL := cL) (ad := ad) (n := n) (t := t) (B := B) (v := mu v 0 3 0) (r := r) hT6 e0 hb (by omega)) mW_fst (bgV hT m559 m561 slX4_broken m7 m562) rfl rfl rfl (by decide +kernel) ⟨Nat.le_of_ble_eq_true rfl, Nat.le_of_ble_eq_true rfl⟩ rfl rfl rfl rfl (Nat.le_of_ble_eq_true rfl) (Nat.zero_le _) (Nat.zero_le _) dX4_shift_54 ?_
    refine gx_istore_n (lv2 := [some _, some _, some _, some _]) C dX4_shift_57 (by decide) rfl ?_
    refine gx_iload_n C dX4_shift_58 rfl ?_
    refine gx_if_le (tgt := 65) C dX4_shift_59 (by decide) (fun c => absurd (by rw [mWhyS, if_neg c_44]; exact c) hz) (fun c_59 => ?_)
    refine gx_iload_n C dX4_shift_62 rfl ?_
    refine gx_ineg C dX4_shift_63 ?_
    exact gx_iret C hRt hlocks dX4_shift_64 (by rw [mWhyS, if_neg c_44]) rfl
  · refine gx_iconst (v := 1) C dX4_shift_47 (by decide) ?_
    refine gx_goto (tgt := 57) C dX4_shift_48 (by decide) ?_
    refine gx_istore_n (lv2 := [some _, some _, some _, some _]) C dX4_shift_57 (by decide) rfl ?_
    refine gx_iload_n C dX4_shift_58 rfl ?_
    refine gx_if_le (tgt := 65) C dX4_shift_59 (by decide) (fun c => absurd c (by decide)) (fun c_59 => ?_)
    refine gx_iload_n C dX4_shift_62 rfl ?_
    refine gx_ineg C dX4_shift_63 ?_
    exact gx_iret C hRt hlocks dX4_shift_64 (by rw [mWhyS, if_pos c_44]) rfl
set_option maxHeartbeats 4000000 in
set_option maxRecDepth 100000 in
theorem c_X4_shift {l : Launch} {D : va_G} {cI cG cL : ClassId} {ad : Nat → Nat} {n t : Nat} {B : Int32} {v : Nat → Nat → Int32} {b r T k : Nat} (hT6 : T ≤ 60) (e0 : v 0 0 = nI T) (hb : b < 60) (hB : yHas v (nI b) = true) (hn : n ≤ 16) (hr : r < n) (ho : mTop (mu v 0 3 0) T b = true) (hs : ¬ v 7 b = nI r) (hz : mBr t B (mu v 0 3 0) T b r ≤ 0) (hk : k ≤ 100) (ek : v 0 2 = nI k) : gx_M l yX4_shift wsX4_shift ({ frames := 3, cells := 0, slots := 0, locals := 68 }) D vwCl (gT cI cG cL) [.ref (ad 0), .int (nI b), .int (nI r)] (mW cI ad n t B v) (mW cI ad n t B (mMv (mu v 0 3 0) T k b (nI r))) (some (.int 1)) := by
  refine gx_ofG (cc := cX4_shift) (maxL := 4) (ret := (some .int)) [some (.ref (ad 0)), some (.int (nI b)), some (.int (nI r)), none] (by decide) rfl rfl (Nat.le_of_ble_eq_true rfl) rfl ?_
  intro p e s m args below meth c C hRt hlocks hK
  have C : CallFix p m c cX4_shift 4 s args (wsX4_shift) RX4 := C
  have hT : ∀ w ∈ bigW, w ∈ wsX4_shift := bgT
  refine gx_aload_n C dX4_shift_0 rfl ?_
  refine gx_iload_n C dX4_shift_1 rfl ?_
  refine gx_cVi (n := 1) (q0 := 0) C hK (c_X4_isBox (l := l) (D := D) (cI := cI) (cG := cG) (cL := cL) (ad := ad) (n := n) (t := t) (B := B) (v := v) (x := nI b)) mW_fst (bgV hT m555 m557 slX4_isBox m7 m558) rfl rfl rfl (by decide +kernel) ⟨Nat.le_of_ble_eq_true rfl, Nat.le_of_ble_eq_true rfl⟩ rfl rfl rfl rfl (Nat.le_of_ble_eq_true rfl) (Nat.zero_le _) (Nat.zero_le _) dX4_shift_2 ?_
  refine gx_if_eq (tgt := 16) C dX4_shift_5 (by decide) (fun c => absurd c (by rw [hB]; decide)) (fun c_5 => ?_)
  refine gx_aload_n C dX4_shift_8 rfl ?_
  refine gx_iload_n C dX4_shift_9 rfl ?_
  refine gx_cVi (n := 1) (q0 := 0) C hK (c_X4_isRow (l := l) (D := D) (cI := cI) (cG := cG) (cL := cL) (ad := ad) (n := n) (t := t) (B := B) (v := v) (x := nI r)) mW_fst (bgV hT m539 m541 slX4_isRow m7 m542) rfl rfl rfl (by decide +kernel) ⟨Nat.le_of_ble_eq_true rfl, Nat.le_of_ble_eq_true rfl⟩ rfl rfl rfl rfl (Nat.le_of_ble_eq_true rfl) (Nat.zero_le _) (Nat.zero_le _) dX4_shift_10 ?_
  refine gx_if_ne (tgt := 22) C dX4_shift_13 (by decide) (fun c_13 => ?_) (fun c => absurd c (by rw [yRow_of hn hr]; decide))
  refine gx_aload_n C dX4_shift_22 rfl ?_
  refine gx_iconst (v := 0) C dX4_shift_23 (by decide) ?_
  refine mp_X4_thrown C hK hT m465 dX4_shift_24 ?_
  refine gx_aload_n C dX4_shift_27 rfl ?_
  refine gx_iload_n C dX4_shift_28 rfl ?_
  refine gx_cVi (n := 1) (q0 := 0) C hK (c_X4_isTop (l := l) (D := D) (cI := cI) (cG := cG) (cL := cL) (ad := ad) (n := n) (t := t) (B := B) (v := mu v 0 3 0) hT6 e0 hb) mW_fst (bgV hT m587 m589 slX4_isTop m7 m590) rfl rfl rfl (by decide +kernel) ⟨Nat.le_of_ble_eq_true rfl, Nat.le_of_ble_eq_true rfl⟩ rfl rfl rfl rfl (Nat.le_of_ble_eq_true rfl) (Nat.zero_le _) (Nat.zero_le _) dX4_shift_29 ?_
  refine gx_if_ne (tgt := 37) C dX4_shift_32 (by decide) (fun c_32 => ?_) (fun c => absurd c (by rw [ho]; decide))
  refine gx_aload_n C dX4_shift_37 rfl ?_
  refine mg_X4_rowOf C hK hT m477 dX4_shift_38 ?_
  refine gx_iload_n C dX4_shift_41 rfl ?_
  refine ml_7 C hK rfl (by omega) dX4_shift_42 ?_
  refine gx_iload_n C dX4_shift_43 rfl ?_
  refine gx_icmp_ne (tgt := 51) C dX4_shift_44 (by decide) (fun c_44 => ?_) (fun c => absurd c hs)
  refine gx_aload_n C dX4_shift_51 rfl ?_
  refine gx_iload_n C dX4_shift_52 rfl ?_
  refine gx_iload_n C dX4_shift_53 rfl ?_
  refine gx_cVi (n := 2) (q0 := 0) C hK (c_X4_broken (l := l) (D := D) (cI := cI) (cG := cG) (cL := cL) (ad := ad) (n := n) (t := t) (B := B) (v := mu v 0 3 0) (r := r) hT6 e0 hb (by omega)) mW_fst (bgV hT m559 m561 slX4_broken m7 m562) rfl rfl rfl (by decide +kernel) ⟨Nat.le_of_ble_eq_true rfl, Nat.le_of_ble_eq_true rfl⟩ rfl rfl rfl rfl (Nat.le_of_ble_eq_true rfl) (Nat.zero_le _) (Nat.zero_le _) dX4_shift_54 ?_
  refine gx_istore_n (lv2 := [some _, some _, some _, some _]) C dX4_shift_57 (by decide) rfl ?_
  refine gx_iload_n C dX4_shift_58 rfl ?_
  refine gx_if_le (tgt := 65) C dX4_shift_59 (by decide) (fun c_59 => ?_) (fun c => absurd hz c)
  refine gx_aload_n C dX4_shift_65 rfl ?_
  refine gx_iload_n C dX4_shift_66 rfl ?_
  refine gx_iload_n C dX4_shift_67 rfl ?_
  refine gx_cVv (n := 2) (q0 := 0) C hK (c_X4_moves_all (l := l) (D := D) (cI := cI) (cG := cG) (cL := cL) (ad := ad) (n := n) (t := t) (B := B) (v := mu v 0 3 0) (x := nI r) hT6 e0 hb hk ek) mW_fst (bgV hT m575 m577 slX4_moves m7 m578) rfl rfl rfl (by decide +kernel) ⟨Nat.le_of_ble_eq_true rfl, Nat.le_of_ble_eq_true rfl⟩ rfl rfl rfl rfl (Nat.le_of_ble_eq_true rfl) (Nat.zero_le _) (Nat.zero_le _) dX4_shift_68 ?_
  refine gx_iconst (v := 1) C dX4_shift_71 (by decide) ?_
  exact gx_iret C hRt hlocks dX4_shift_72 rfl rfl
set_option maxHeartbeats 4000000 in
set_option maxRecDepth 100000 in
theorem c_X4_score_bad {l : Launch} {D : va_G} {cI cG cL : ClassId} {ad : Nat → Nat} {n t : Nat} {B : Int32} {v : Nat → Nat → Int32} {x y : Int32} (hF : yHas v x = false ∨ yRow n y = false) : gx_M l yX4_score wsX4_score ({ frames := 1, cells := 0, slots := 0, locals := 21 }) D vwCl (gT cI cG cL) [.ref (ad 0), .int x, .int y] (mW cI ad n t B v) (mW cI ad n t B (mu v 0 3 1)) (some (.int 0)) := by
  refine gx_ofG (cc := cX4_score) (maxL := 3) (ret := (some .int)) [some (.ref (ad 0)), some (.int x), some (.int y)] (by decide) rfl rfl (Nat.le_of_ble_eq_true rfl) rfl ?_
  intro p e s m args below meth c C hRt hlocks hK
  have C : CallFix p m c cX4_score 3 s args (wsX4_score) RX4 := C
  have hT : ∀ w ∈ bigW, w ∈ wsX4_score := bgT
  refine gx_aload_n C dX4_score_0 rfl ?_
  refine gx_iload_n C dX4_score_1 rfl ?_
  refine gx_cVi (n := 1) (q0 := 0) C hK (c_X4_isBox (l := l) (D := D) (cI := cI) (cG := cG) (cL := cL) (ad := ad) (n := n) (t := t) (B := B) (v := v) (x := x)) mW_fst (bgV hT m555 m557 slX4_isBox m7 m558) rfl rfl rfl (by decide +kernel) ⟨Nat.le_of_ble_eq_true rfl, Nat.le_of_ble_eq_true rfl⟩ rfl rfl rfl rfl (Nat.le_of_ble_eq_true rfl) (Nat.zero_le _) (Nat.zero_le _) dX4_score_2 ?_
  refine gx_if_eq (tgt := 16) C dX4_score_5 (by decide) (fun c_5 => ?_) (fun c_5 => ?_)
  · refine gx_aload_n C dX4_score_16 rfl ?_
    refine gx_iconst (v := 1) C dX4_score_17 (by decide) ?_
    refine gx_cVi (n := 1) (q0 := 0) C hK (c_X4_fails (l := l) (D := D) (cI := cI) (cG := cG) (cL := cL) (ad := ad) (n := n) (t := t) (B := B) (v := v) (x := 1)) mW_fst (bgV hT m531 m533 slX4_fails m7 m534) rfl rfl rfl (by decide +kernel) ⟨Nat.le_of_ble_eq_true rfl, Nat.le_of_ble_eq_true rfl⟩ rfl rfl rfl rfl (Nat.le_of_ble_eq_true rfl) (Nat.zero_le _) (Nat.zero_le _) dX4_score_18 ?_
    exact gx_iret C hRt hlocks dX4_score_21 rfl rfl
  · refine gx_aload_n C dX4_score_8 rfl ?_
    refine gx_iload_n C dX4_score_9 rfl ?_
    refine gx_cVi (n := 1) (q0 := 0) C hK (c_X4_isRow (l := l) (D := D) (cI := cI) (cG := cG) (cL := cL) (ad := ad) (n := n) (t := t) (B := B) (v := v) (x := y)) mW_fst (bgV hT m539 m541 slX4_isRow m7 m542) rfl rfl rfl (by decide +kernel) ⟨Nat.le_of_ble_eq_true rfl, Nat.le_of_ble_eq_true rfl⟩ rfl rfl rfl rfl (Nat.le_of_ble_eq_true rfl) (Nat.zero_le _) (Nat.zero_le _) dX4_score_10 ?_
    refine gx_if_ne (tgt := 22) C dX4_score_13 (by decide) (fun c => absurd (bI_0.mpr (hF.resolve_left (by rw [bI_t c_5]; decide))) c) (fun c_13 => ?_)
    refine gx_aload_n C dX4_score_16 rfl ?_
    refine gx_iconst (v := 1) C dX4_score_17 (by decide) ?_
    refine gx_cVi (n := 1) (q0 := 0) C hK (c_X4_fails (l := l) (D := D) (cI := cI) (cG := cG) (cL := cL) (ad := ad) (n := n) (t := t) (B := B) (v := v) (x := 1)) mW_fst (bgV hT m531 m533 slX4_fails m7 m534) rfl rfl rfl (by decide +kernel) ⟨Nat.le_of_ble_eq_true rfl, Nat.le_of_ble_eq_true rfl⟩ rfl rfl rfl rfl (Nat.le_of_ble_eq_true rfl) (Nat.zero_le _) (Nat.zero_le _) dX4_score_18 ?_
    exact gx_iret C hRt hlocks dX4_score_21 rfl rfl
set_option maxHeartbeats 4000000 in
set_option maxRecDepth 100000 in
theorem c_X4_score_no {l : Launch} {D : va_G} {cI cG cL : ClassId} {ad : Nat → Nat} {n t : Nat} {B : Int32} {v : Nat → Nat → Int32} {b r T : Nat} (hT6 : T ≤ 60) (e0 : v 0 0 = nI T) (hb : b < 60) (hB : yHas v (nI b) = true) (hn : n ≤ 16) (hr : r < n) (hz : ¬ v 7 b < 0 ∨ ¬ mBr t B v T b r ≤ 0) : gx_M l yX4_score wsX4_score ({ frames := 2, cells := 0, slots := 0, locals := 47 }) D vwCl (gT cI cG cL) [.ref (ad 0), .int (nI b), .int (nI r)] (mW cI ad n t B v) (mW cI ad n t B (mu v 0 3 2)) (some (.int 0)) := by
  refine gx_ofG (cc := cX4_score) (maxL := 3) (ret := (some .int)) [some (.ref (ad 0)), some (.int (nI b)), some (.int (nI r))] (by decide) rfl rfl (Nat.le_of_ble_eq_true rfl) rfl ?_
  intro p e s m args below meth c C hRt hlocks hK
  have C : CallFix p m c cX4_score 3 s args (wsX4_score) RX4 := C
  have hT : ∀ w ∈ bigW, w ∈ wsX4_score := bgT
  refine gx_aload_n C dX4_score_0 rfl ?_
  refine gx_iload_n C dX4_score_1 rfl ?_
  refine gx_cVi (n := 1) (q0 := 0) C hK (c_X4_isBox (l := l) (D := D) (cI := cI) (cG := cG) (cL := cL) (ad := ad) (n := n) (t := t) (B := B) (v := v) (x := nI b)) mW_fst (bgV hT m555 m557 slX4_isBox m7 m558) rfl rfl rfl (by decide +kernel) ⟨Nat.le_of_ble_eq_true rfl, Nat.le_of_ble_eq_true rfl⟩ rfl rfl rfl rfl (Nat.le_of_ble_eq_true rfl) (Nat.zero_le _) (Nat.zero_le _) dX4_score_2 ?_
  refine gx_if_eq (tgt := 16) C dX4_score_5 (by decide) (fun c => absurd c (by rw [hB]; decide)) (fun c_5 => ?_)
  refine gx_aload_n C dX4_score_8 rfl ?_
  refine gx_iload_n C dX4_score_9 rfl ?_
  refine gx_cVi (n := 1) (q0 := 0) C hK (c_X4_isRow (l := l) (D := D) (cI := cI) (cG := cG) (cL := cL) (ad := ad) (n := n) (t := t) (B := B) (v := v) (x := nI r)) mW_fst (bgV hT m539 m541 slX4_isRow m7 m542) rfl rfl rfl (by decide +kernel) ⟨Nat.le_of_ble_eq_true rfl, Nat.le_of_ble_eq_true rfl⟩ rfl rfl rfl rfl (Nat.le_of_ble_eq_true rfl) (Nat.zero_le _) (Nat.zero_le _) dX4_score_10 ?_
  refine gx_if_ne (tgt := 22) C dX4_score_13 (by decide) (fun c_13 => ?_) (fun c => absurd c (by rw [yRow_of hn hr]; decide))
  refine gx_aload_n C dX4_score_22 rfl ?_
  refine mg_X4_rowOf C hK hT m477 dX4_score_23 ?_
  refine gx_iload_n C dX4_score_26 rfl ?_
  refine ml_7 C hK rfl (by omega) dX4_score_27 ?_
  refine gx_if_ge (tgt := 40) C dX4_score_28 (by decide) (fun c_28 => ?_) (fun c_28 => ?_)
  · refine gx_aload_n C dX4_score_40 rfl ?_
    refine gx_iconst (v := 2) C dX4_score_41 (by decide) ?_
    refine gx_cVi (n := 1) (q0 := 0) C hK (c_X4_fails (l := l) (D := D) (cI := cI) (cG := cG) (cL := cL) (ad := ad) (n := n) (t := t) (B := B) (v := v) (x := 2)) mW_fst (bgV hT m531 m533 slX4_fails m7 m534) rfl rfl rfl (by decide +kernel) ⟨Nat.le_of_ble_eq_true rfl, Nat.le_of_ble_eq_true rfl⟩ rfl rfl rfl rfl (Nat.le_of_ble_eq_true rfl) (Nat.zero_le _) (Nat.zero_le _) dX4_score_42 ?_
    exact gx_iret C hRt hlocks dX4_score_45 rfl rfl
  · refine gx_aload_n C dX4_score_31 rfl ?_
    refine gx_iload_n C dX4_score_32 rfl ?_
    refine gx_iload_n C dX4_score_33 rfl ?_
    refine gx_cVi (n := 2) (q0 := 0) C hK (c_X4_broken (l := l) (D := D) (cI := cI) (cG := cG) (cL := cL) (ad := ad) (n := n) (t := t) (B := B) (v := v) (r := r) hT6 e0 hb (by omega)) mW_fst (bgV hT m559 m561 slX4_broken m7 m562) rfl rfl rfl (by decide +kernel) ⟨Nat.le_of_ble_eq_true rfl, Nat.le_of_ble_eq_true rfl⟩ rfl rfl rfl rfl (Nat.le_of_ble_eq_true rfl) (Nat.zero_le _) (Nat.zero_le _) dX4_score_34 ?_
    refine gx_if_le (tgt := 46) C dX4_score_37 (by decide) (fun c => absurd c (hz.resolve_left (fun q => q (Int32.not_le.mp c_28)))) (fun c_37 => ?_)
    refine gx_aload_n C dX4_score_40 rfl ?_
    refine gx_iconst (v := 2) C dX4_score_41 (by decide) ?_
    refine gx_cVi (n := 1) (q0 := 0) C hK (c_X4_fails (l := l) (D := D) (cI := cI) (cG := cG) (cL := cL) (ad := ad) (n := n) (t := t) (B := B) (v := v) (x := 2)) mW_fst (bgV hT m531 m533 slX4_fails m7 m534) rfl rfl rfl (by decide +kernel) ⟨Nat.le_of_ble_eq_true rfl, Nat.le_of_ble_eq_true rfl⟩ rfl rfl rfl rfl (Nat.le_of_ble_eq_true rfl) (Nat.zero_le _) (Nat.zero_le _) dX4_score_42 ?_
    exact gx_iret C hRt hlocks dX4_score_45 rfl rfl
set_option maxHeartbeats 4000000 in
set_option maxRecDepth 100000 in
theorem c_X4_score {l : Launch} {D : va_G} {cI cG cL : ClassId} {ad : Nat → Nat} {n t : Nat} {B : Int32} {v : Nat → Nat → Int32} {b r T : Nat} (hT6 : T ≤ 60) (e0 : v 0 0 = nI T) (hb : b < 60) (hB : yHas v (nI b) = true) (hn : n ≤ 16) (hr : r < n) (hs : v 7 b < 0) (hz : mBr t B v T b r ≤ 0) (hsc : mHt (mu v 0 3 0) (nI r) T = 0 ∨ ∃ q, q < 60 ∧ mAt (mu v 0 3 0) (nI r) (nI (mHt (mu v 0 3 0) (nI r) T) - 1) T = nI q) : gx_M l yX4_score wsX4_score ({ frames := 2, cells := 0, slots := 0, locals := 51 }) D vwCl (gT cI cG cL) [.ref (ad 0), .int (nI b), .int (nI r)] (mW cI ad n t B v) (mW cI ad n t B (mu v 0 3 0)) (some (.int (mSc (mu v 0 3 0) T b r))) := by
  refine gx_ofG (cc := cX4_score) (maxL := 3) (ret := (some .int)) [some (.ref (ad 0)), some (.int (nI b)), some (.int (nI r))] (by decide) rfl rfl (Nat.le_of_ble_eq_true rfl) rfl ?_
  intro p e s m args below meth c C hRt hlocks hK
  have C : CallFix p m c cX4_score 3 s args (wsX4_score) RX4 := C
  have hT : ∀ w ∈ bigW, w ∈ wsX4_score := bgT
  refine gx_aload_n C dX4_score_0 rfl ?_
  refine gx_iload_n C dX4_score_1 rfl ?_
  refine gx_cVi (n := 1) (q0 := 0) C hK (c_X4_isBox (l := l) (D := D) (cI := cI) (cG := cG) (cL := cL) (ad := ad) (n := n) (t := t) (B := B) (v := v) (x := nI b)) mW_fst (bgV hT m555 m557 slX4_isBox m7 m558) rfl rfl rfl (by decide +kernel) ⟨Nat.le_of_ble_eq_true rfl, Nat.le_of_ble_eq_true rfl⟩ rfl rfl rfl rfl (Nat.le_of_ble_eq_true rfl) (Nat.zero_le _) (Nat.zero_le _) dX4_score_2 ?_
  refine gx_if_eq (tgt := 16) C dX4_score_5 (by decide) (fun c => absurd c (by rw [hB]; decide)) (fun c_5 => ?_)
  refine gx_aload_n C dX4_score_8 rfl ?_
  refine gx_iload_n C dX4_score_9 rfl ?_
  refine gx_cVi (n := 1) (q0 := 0) C hK (c_X4_isRow (l := l) (D := D) (cI := cI) (cG := cG) (cL := cL) (ad := ad) (n := n) (t := t) (B := B) (v := v) (x := nI r)) mW_fst (bgV hT m539 m541 slX4_isRow m7 m542) rfl rfl rfl (by decide +kernel) ⟨Nat.le_of_ble_eq_true rfl, Nat.le_of_ble_eq_true rfl⟩ rfl rfl rfl rfl (Nat.le_of_ble_eq_true rfl) (Nat.zero_le _) (Nat.zero_le _) dX4_score_10 ?_
  refine gx_if_ne (tgt := 22) C dX4_score_13 (by decide) (fun c_13 => ?_) (fun c => absurd c (by rw [yRow_of hn hr]; decide))
  refine gx_aload_n C dX4_score_22 rfl ?_
  refine mg_X4_rowOf C hK hT m477 dX4_score_23 ?_
  refine gx_iload_n C dX4_score_26 rfl ?_
  refine ml_7 C hK rfl (by omega) dX4_score_27 ?_
  refine gx_if_ge (tgt := 40) C dX4_score_28 (by decide) (fun c => absurd hs (Int32.not_lt.mpr c)) (fun c_28 => ?_)
  refine gx_aload_n C dX4_score_31 rfl ?_
  refine gx_iload_n C dX4_score_32 rfl ?_
  refine gx_iload_n C dX4_score_33 rfl ?_
  refine gx_cVi (n := 2) (q0 := 0) C hK (c_X4_broken (l := l) (D := D) (cI := cI) (cG := cG) (cL := cL) (ad := ad) (n := n) (t := t) (B := B) (v := v) (r := r) hT6 e0 hb (by omega)) mW_fst (bgV hT m559 m561 slX4_broken m7 m562) rfl rfl rfl (by decide +kernel) ⟨Nat.le_of_ble_eq_true rfl, Nat.le_of_ble_eq_true rfl⟩ rfl rfl rfl rfl (Nat.le_of_ble_eq_true rfl) (Nat.zero_le _) (Nat.zero_le _) dX4_score_34 ?_
  refine gx_if_le (tgt := 46) C dX4_score_37 (by decide) (fun c_37 => ?_) (fun c => absurd hz c)
  refine gx_aload_n C dX4_score_46 rfl ?_
  refine gx_iconst (v := 0) C dX4_score_47 (by decide) ?_
  refine mp_X4_thrown C hK hT m465 dX4_score_48 ?_
  refine gx_aload_n C dX4_score_51 rfl ?_
  refine gx_iload_n C dX4_score_52 rfl ?_
  refine gx_iload_n C dX4_score_53 rfl ?_
  refine gx_cVi (n := 2) (q0 := 0) C hK (c_X4_scoreOf (l := l) (D := D) (cI := cI) (cG := cG) (cL := cL) (ad := ad) (n := n) (t := t) (B := B) (v := mu v 0 3 0) (r := r) hT6 e0 hb (by omega) hsc) mW_fst (bgV hT m599 m601 slX4_scoreOf m7 m602) rfl rfl rfl (by decide +kernel) ⟨Nat.le_of_ble_eq_true rfl, Nat.le_of_ble_eq_true rfl⟩ rfl rfl rfl rfl (Nat.le_of_ble_eq_true rfl) (Nat.zero_le _) (Nat.zero_le _) dX4_score_54 ?_
  exact gx_iret C hRt hlocks dX4_score_57 rfl rfl
set_option maxHeartbeats 4000000 in
set_option maxRecDepth 100000 in
theorem c_X4_undo_no {l : Launch} {D : va_G} {cI cG cL : ClassId} {ad : Nat → Nat} {n t : Nat} {B : Int32} {v : Nat → Nat → Int32}  (h2 : v 0 2 = 0) : gx_M l yX4_undo wsX4_undo ({ frames := 0, cells := 0, slots := 0, locals := 0 }) D vwCl (gT cI cG cL) [.ref (ad 0)] (mW cI ad n t B v) (mW cI ad n t B (mu v 0 3 0)) (some (.int (-1))) := by
  refine gx_ofG (cc := cX4_undo) (maxL := 2) (ret := (some .int)) [some (.ref (ad 0)), none] (by decide) rfl rfl (Nat.le_of_ble_eq_true rfl) rfl ?_
  intro p e s m args below meth c C hRt hlocks hK
  have C : CallFix p m c cX4_undo 2 s args (wsX4_undo) RX4 := C
  have hT : ∀ w ∈ bigW, w ∈ wsX4_undo := bgT
  refine gx_aload_n C dX4_undo_0 rfl ?_
  refine gx_iconst (v := 0) C dX4_undo_1 (by decide) ?_
  refine mp_X4_thrown C hK hT m465 dX4_undo_2 ?_
  refine gx_aload_n C dX4_undo_5 rfl ?_
  refine mg_X4_kept C hK hT m480 dX4_undo_6 ?_
  refine gx_if_ne (tgt := 14) C dX4_undo_9 (by decide) (fun c => absurd h2 c) (fun c_9 => ?_)
  refine gx_iconst (v := (-1)) C dX4_undo_12 (by decide) ?_
  exact gx_iret C hRt hlocks dX4_undo_13 rfl rfl
set_option maxHeartbeats 4000000 in
set_option maxRecDepth 100000 in
theorem c_X4_undo {l : Launch} {D : va_G} {cI cG cL : ClassId} {ad : Nat → Nat} {n t : Nat} {B : Int32} {v : Nat → Nat → Int32} {x : Int32} {b T k : Nat} (hT6 : T ≤ 60) (e0 : v 0 0 = nI T) (hb : b < 60) (hk : k < 100) (ek : v 0 2 = nI (k + 1)) (e9 : v 9 k = nI b) (e10 : v 10 k = x) : gx_M l yX4_undo wsX4_undo ({ frames := 2, cells := 0, slots := 0, locals := 45 }) D vwCl (gT cI cG cL) [.ref (ad 0)] (mW cI ad n t B v) (mW cI ad n t B (mGoes (mu (mu (mu (mu v 0 3 0) 0 2 (v 0 2 - 1)) 0 1 (v 0 1 - 1)) 7 b (-1)) T b x)) (some (.int (nI b))) := by
  refine gx_ofG (cc := cX4_undo) (maxL := 2) (ret := (some .int)) [some (.ref (ad 0)), none] (by decide) rfl rfl (Nat.le_of_ble_eq_true rfl) rfl ?_
  intro p e s m args below meth c C hRt hlocks hK
  have C : CallFix p m c cX4_undo 2 s args (wsX4_undo) RX4 := C
  have hT : ∀ w ∈ bigW, w ∈ wsX4_undo := bgT
  refine gx_aload_n C dX4_undo_0 rfl ?_
  refine gx_iconst (v := 0) C dX4_undo_1 (by decide) ?_
  refine mp_X4_thrown C hK hT m465 dX4_undo_2 ?_
  refine gx_aload_n C dX4_undo_5 rfl ?_
  refine mg_X4_kept C hK hT m480 dX4_undo_6 ?_
  refine gx_if_ne (tgt := 14) C dX4_undo_9 (by decide) (fun c_9 => ?_) (fun c => absurd c (by rw [show mu v 0 3 0 0 2 = v 0 2 from rfl, ek]; exact nI_ne0 (by omega) (by omega)))
  refine gx_aload_n C dX4_undo_14 rfl ?_
  refine gx_dup C dX4_undo_15 rfl ?_
  refine mg_X4_kept C hK hT m480 dX4_undo_16 ?_
  refine gx_iconst (v := 1) C dX4_undo_19 (by decide) ?_
  refine gx_isub C dX4_undo_20 ?_
  refine mp_X4_kept C hK hT m480 dX4_undo_21 ?_
  refine gx_aload_n C dX4_undo_24 rfl ?_
  refine gx_dup C dX4_undo_25 rfl ?_
  refine mg_X4_made C hK hT m479 dX4_undo_26 ?_
  refine gx_iconst (v := 1) C dX4_undo_29 (by decide) ?_
  refine gx_isub C dX4_undo_30 ?_
  refine mp_X4_made C hK hT m479 dX4_undo_31 ?_
  rw [show mW cI ad n t B (mu (mu (mu v 0 3 0) 0 2 (mu v 0 3 0 0 2 - 1)) 0 1 (mu (mu v 0 3 0) 0 2 (mu v 0 3 0 0 2 - 1) 0 1 - 1)) = mW cI ad n t B (mu (mu (mu v 0 3 0) 0 2 (v 0 2 - 1)) 0 1 (v 0 1 - 1)) from rfl]
  refine gx_aload_n C dX4_undo_34 rfl ?_
  refine mg_X4_moved C hK hT m481 dX4_undo_35 ?_
  refine gx_aload_n C dX4_undo_38 rfl ?_
  refine mg_X4_kept C hK hT m480 dX4_undo_39 ?_
  rw [show (mu (mu (mu v 0 3 0) 0 2 (v 0 2 - 1)) 0 1 (v 0 1 - 1)) 0 2 = nI k by show v 0 2 - 1 = nI k; rw [ek]; exact nI_pred k]
  refine ml_9 C hK rfl (by omega) dX4_undo_42 ?_
  rw [show (mu (mu (mu v 0 3 0) 0 2 (v 0 2 - 1)) 0 1 (v 0 1 - 1)) 9 k = nI b from e9]
  refine gx_istore_n (lv2 := [some _, some _]) C dX4_undo_43 (by decide) rfl ?_
  refine gx_aload_n C dX4_undo_44 rfl ?_
  refine mg_X4_rowOf C hK hT m477 dX4_undo_45 ?_
  refine gx_iload_n C dX4_undo_48 rfl ?_
  refine gx_iconst (v := (-1)) C dX4_undo_49 (by decide) ?_
  refine ms_7 C hK rfl (by omega) dX4_undo_50 ?_
  refine gx_aload_n C dX4_undo_51 rfl ?_
  refine gx_iload_n C dX4_undo_52 rfl ?_
  refine gx_aload_n C dX4_undo_53 rfl ?_
  refine mg_X4_was C hK hT m482 dX4_undo_54 ?_
  refine gx_aload_n C dX4_undo_57 rfl ?_
  refine mg_X4_kept C hK hT m480 dX4_undo_58 ?_
  rw [show mu (mu (mu (mu v 0 3 0) 0 2 (v 0 2 - 1)) 0 1 (v 0 1 - 1)) 7 b (-1) 0 2 = nI k by show v 0 2 - 1 = nI k; rw [ek]; exact nI_pred k]
  refine ml_10 C hK rfl (by omega) dX4_undo_61 ?_
  rw [show mu (mu (mu (mu v 0 3 0) 0 2 (v 0 2 - 1)) 0 1 (v 0 1 - 1)) 7 b (-1) 10 k = x from e10]
  refine gx_cVv (n := 2) (q0 := 0) C hK (c_X4_goes (l := l) (D := D) (cI := cI) (cG := cG) (cL := cL) (ad := ad) (n := n) (t := t) (B := B) (v := mu (mu (mu (mu v 0 3 0) 0 2 (v 0 2 - 1)) 0 1 (v 0 1 - 1)) 7 b (-1)) (x := x) hT6 e0 hb) mW_fst (bgV hT m579 m581 slX4_goes m7 m582) rfl rfl rfl (by decide +kernel) ⟨Nat.le_of_ble_eq_true rfl, Nat.le_of_ble_eq_true rfl⟩ rfl rfl rfl rfl (Nat.le_of_ble_eq_true rfl) (Nat.zero_le _) (Nat.zero_le _) dX4_undo_62 ?_
  refine gx_iload_n C dX4_undo_65 rfl ?_
  exact gx_iret C hRt hlocks dX4_undo_66 rfl rfl
set_option maxHeartbeats 4000000 in
set_option maxRecDepth 100000 in
theorem c_X4_at_bad {l : Launch} {D : va_G} {cI cG cL : ClassId} {ad : Nat → Nat} {n t : Nat} {B : Int32} {v : Nat → Nat → Int32} {x y : Int32} (hF : yRow n x = false ∨ yIn y 0 (nI t - 1) = false) : gx_M l yX4_at wsX4_at ({ frames := 1, cells := 0, slots := 0, locals := 22 }) D vwCl (gT cI cG cL) [.ref (ad 0), .int x, .int y] (mW cI ad n t B v) (mW cI ad n t B (mu v 0 3 1)) (some (.int 0)) := by
  refine gx_ofG (cc := cX4_at) (maxL := 3) (ret := (some .int)) [some (.ref (ad 0)), some (.int x), some (.int y)] (by decide) rfl rfl (Nat.le_of_ble_eq_true rfl) rfl ?_
  intro p e s m args below meth c C hRt hlocks hK
  have C : CallFix p m c cX4_at 3 s args (wsX4_at) RX4 := C
  have hT : ∀ w ∈ bigW, w ∈ wsX4_at := bgT
  refine gx_aload_n C dX4_at_0 rfl ?_
  refine gx_iload_n C dX4_at_1 rfl ?_
  refine gx_cVi (n := 1) (q0 := 0) C hK (c_X4_isRow (l := l) (D := D) (cI := cI) (cG := cG) (cL := cL) (ad := ad) (n := n) (t := t) (B := B) (v := v) (x := x)) mW_fst (bgV hT m539 m541 slX4_isRow m7 m542) rfl rfl rfl (by decide +kernel) ⟨Nat.le_of_ble_eq_true rfl, Nat.le_of_ble_eq_true rfl⟩ rfl rfl rfl rfl (Nat.le_of_ble_eq_true rfl) (Nat.zero_le _) (Nat.zero_le _) dX4_at_2 ?_
  refine gx_if_eq (tgt := 22) C dX4_at_5 (by decide) (fun c_5 => ?_) (fun c_5 => ?_)
  · refine gx_aload_n C dX4_at_22 rfl ?_
    refine gx_iconst (v := 1) C dX4_at_23 (by decide) ?_
    refine gx_cVi (n := 1) (q0 := 0) C hK (c_X4_fails (l := l) (D := D) (cI := cI) (cG := cG) (cL := cL) (ad := ad) (n := n) (t := t) (B := B) (v := v) (x := 1)) mW_fst (bgV hT m531 m533 slX4_fails m7 m534) rfl rfl rfl (by decide +kernel) ⟨Nat.le_of_ble_eq_true rfl, Nat.le_of_ble_eq_true rfl⟩ rfl rfl rfl rfl (Nat.le_of_ble_eq_true rfl) (Nat.zero_le _) (Nat.zero_le _) dX4_at_24 ?_
    exact gx_iret C hRt hlocks dX4_at_27 rfl rfl
  · refine gx_iload_n C dX4_at_8 rfl ?_
    refine gx_iconst (v := 0) C dX4_at_9 (by decide) ?_
    refine gx_aload_n C dX4_at_10 rfl ?_
    refine mg_X4_tiers C hK hT m467 dX4_at_11 ?_
    refine gx_iconst (v := 1) C dX4_at_14 (by decide) ?_
    refine gx_isub C dX4_at_15 ?_
    refine gx_cSi (n := 3) C hK (c_X4_in (l := l) (D := D) (cI := cI) (cG := cG) (cL := cL) (x := y) (a := 0) (b := nI t - 1)) (bgS hT m528 m529 m7 m530) rfl rfl rfl (by decide +kernel) ⟨Nat.le_of_ble_eq_true rfl, Nat.le_of_ble_eq_true rfl⟩ rfl rfl (Nat.le_of_ble_eq_true rfl) (Nat.zero_le _) (Nat.zero_le _) dX4_at_16 ?_
    refine gx_if_ne (tgt := 28) C dX4_at_19 (by decide) (fun c => absurd (bI_0.mpr (hF.resolve_left (by rw [bI_t c_5]; decide))) c) (fun c_19 => ?_)
    refine gx_aload_n C dX4_at_22 rfl ?_
    refine gx_iconst (v := 1) C dX4_at_23 (by decide) ?_
    refine gx_cVi (n := 1) (q0 := 0) C hK (c_X4_fails (l := l) (D := D) (cI := cI) (cG := cG) (cL := cL) (ad := ad) (n := n) (t := t) (B := B) (v := v) (x := 1)) mW_fst (bgV hT m531 m533 slX4_fails m7 m534) rfl rfl rfl (by decide +kernel) ⟨Nat.le_of_ble_eq_true rfl, Nat.le_of_ble_eq_true rfl⟩ rfl rfl rfl rfl (Nat.le_of_ble_eq_true rfl) (Nat.zero_le _) (Nat.zero_le _) dX4_at_24 ?_
    exact gx_iret C hRt hlocks dX4_at_27 rfl rfl
set_option maxHeartbeats 4000000 in
set_option maxRecDepth 100000 in
theorem c_X4_at {l : Launch} {D : va_G} {cI cG cL : ClassId} {ad : Nat → Nat} {n t : Nat} {B : Int32} {v : Nat → Nat → Int32} {y : Int32} {r T : Nat} (hT6 : T ≤ 60) (e0 : v 0 0 = nI T) (hn : n ≤ 16) (hr : r < n) (hy : yIn y 0 (nI t - 1) = true) : gx_M l yX4_at wsX4_at ({ frames := 1, cells := 0, slots := 0, locals := 24 }) D vwCl (gT cI cG cL) [.ref (ad 0), .int (nI r), .int y] (mW cI ad n t B v) (mW cI ad n t B (mu v 0 3 0)) (some (.int (mAt (mu v 0 3 0) (nI r) y T))) := by
  refine gx_ofG (cc := cX4_at) (maxL := 3) (ret := (some .int)) [some (.ref (ad 0)), some (.int (nI r)), some (.int y)] (by decide) rfl rfl (Nat.le_of_ble_eq_true rfl) rfl ?_
  intro p e s m args below meth c C hRt hlocks hK
  have C : CallFix p m c cX4_at 3 s args (wsX4_at) RX4 := C
  have hT : ∀ w ∈ bigW, w ∈ wsX4_at := bgT
  refine gx_aload_n C dX4_at_0 rfl ?_
  refine gx_iload_n C dX4_at_1 rfl ?_
  refine gx_cVi (n := 1) (q0 := 0) C hK (c_X4_isRow (l := l) (D := D) (cI := cI) (cG := cG) (cL := cL) (ad := ad) (n := n) (t := t) (B := B) (v := v) (x := nI r)) mW_fst (bgV hT m539 m541 slX4_isRow m7 m542) rfl rfl rfl (by decide +kernel) ⟨Nat.le_of_ble_eq_true rfl, Nat.le_of_ble_eq_true rfl⟩ rfl rfl rfl rfl (Nat.le_of_ble_eq_true rfl) (Nat.zero_le _) (Nat.zero_le _) dX4_at_2 ?_
  refine gx_if_eq (tgt := 22) C dX4_at_5 (by decide) (fun c => absurd c (by rw [yRow_of hn hr]; decide)) (fun c_5 => ?_)
  refine gx_iload_n C dX4_at_8 rfl ?_
  refine gx_iconst (v := 0) C dX4_at_9 (by decide) ?_
  refine gx_aload_n C dX4_at_10 rfl ?_
  refine mg_X4_tiers C hK hT m467 dX4_at_11 ?_
  refine gx_iconst (v := 1) C dX4_at_14 (by decide) ?_
  refine gx_isub C dX4_at_15 ?_
  refine gx_cSi (n := 3) C hK (c_X4_in (l := l) (D := D) (cI := cI) (cG := cG) (cL := cL) (x := y) (a := 0) (b := nI t - 1)) (bgS hT m528 m529 m7 m530) rfl rfl rfl (by decide +kernel) ⟨Nat.le_of_ble_eq_true rfl, Nat.le_of_ble_eq_true rfl⟩ rfl rfl (Nat.le_of_ble_eq_true rfl) (Nat.zero_le _) (Nat.zero_le _) dX4_at_16 ?_
  refine gx_if_ne (tgt := 28) C dX4_at_19 (by decide) (fun c_19 => ?_) (fun c => absurd c (by rw [hy]; decide))
  refine gx_aload_n C dX4_at_28 rfl ?_
  refine gx_iconst (v := 0) C dX4_at_29 (by decide) ?_
  refine mp_X4_thrown C hK hT m465 dX4_at_30 ?_
  refine gx_aload_n C dX4_at_33 rfl ?_
  refine gx_iload_n C dX4_at_34 rfl ?_
  refine gx_iload_n C dX4_at_35 rfl ?_
  refine gx_cVi (n := 2) (q0 := 0) C hK (c_X4_boxAt (l := l) (D := D) (cI := cI) (cG := cG) (cL := cL) (ad := ad) (n := n) (t := t) (B := B) (v := mu v 0 3 0) (a := nI r) (y := y) hT6 e0) mW_fst (bgV hT m563 m565 slX4_boxAt m7 m566) rfl rfl rfl (by decide +kernel) ⟨Nat.le_of_ble_eq_true rfl, Nat.le_of_ble_eq_true rfl⟩ rfl rfl rfl rfl (Nat.le_of_ble_eq_true rfl) (Nat.zero_le _) (Nat.zero_le _) dX4_at_36 ?_
  exact gx_iret C hRt hlocks dX4_at_39 rfl rfl
set_option maxHeartbeats 4000000 in
set_option maxRecDepth 100000 in
theorem c_X4_box_bad {l : Launch} {D : va_G} {cI cG cL : ClassId} {ad : Nat → Nat} {n t : Nat} {B : Int32} {v : Nat → Nat → Int32} {x1 x2 x3 x4 x5 : Int32} (hF : ¬ (yIn x1 1 3 = true ∧ yIn x2 1 40 = true ∧ yIn x3 0 1000 = true ∧ yIn x4 1 9 = true ∧ yIn x5 0 2 = true)) : gx_M l yX4_box wsX4_box ({ frames := 1, cells := 0, slots := 0, locals := 22 }) D vwCl (gT cI cG cL) [.ref (ad 0), .int x1, .int x2, .int x3, .int x4, .int x5] (mW cI ad n t B v) (mW cI ad n t B (mu v 0 3 1)) (some (.int 0)) := by
  refine gx_ofG (cc := cX4_box) (maxL := 6) (ret := (some .int)) [some (.ref (ad 0)), some (.int x1), some (.int x2), some (.int x3), some (.int x4), some (.int x5)] (by decide) rfl rfl (Nat.le_of_ble_eq_true rfl) rfl ?_
  intro p e s m args below meth c C hRt hlocks hK
  have C : CallFix p m c cX4_box 6 s args (wsX4_box) RX4 := C
  have hT : ∀ w ∈ bigW, w ∈ wsX4_box := bgT
  refine gx_iload_n C dX4_box_0 rfl ?_
  refine gx_iconst (v := 1) C dX4_box_1 (by decide) ?_
  refine gx_iconst (v := 3) C dX4_box_2 (by decide) ?_
  refine gx_cSi (n := 3) C hK (c_X4_in (l := l) (D := D) (cI := cI) (cG := cG) (cL := cL) (x := x1) (a := 1) (b := 3)) (bgS hT m528 m529 m7 m530) rfl rfl rfl (by decide +kernel) ⟨Nat.le_of_ble_eq_true rfl, Nat.le_of_ble_eq_true rfl⟩ rfl rfl (Nat.le_of_ble_eq_true rfl) (Nat.zero_le _) (Nat.zero_le _) dX4_box_3 ?_
  refine gx_if_eq (tgt := 51) C dX4_box_6 (by decide) (fun c_6 => ?_) (fun c_6 => ?_)
  · refine gx_aload_n C dX4_box_51 rfl ?_
    refine gx_iconst (v := 1) C dX4_box_52 (by decide) ?_
    refine gx_cVi (n := 1) (q0 := 0) C hK (c_X4_fails (l := l) (D := D) (cI := cI) (cG := cG) (cL := cL) (ad := ad) (n := n) (t := t) (B := B) (v := v) (x := 1)) mW_fst (bgV hT m531 m533 slX4_fails m7 m534) rfl rfl rfl (by decide +kernel) ⟨Nat.le_of_ble_eq_true rfl, Nat.le_of_ble_eq_true rfl⟩ rfl rfl rfl rfl (Nat.le_of_ble_eq_true rfl) (Nat.zero_le _) (Nat.zero_le _) dX4_box_53 ?_
    exact gx_iret C hRt hlocks dX4_box_56 rfl rfl
  · refine gx_iload_n C dX4_box_9 rfl ?_
    refine gx_iconst (v := 1) C dX4_box_10 (by decide) ?_
    refine gx_bipush (v := 40) C dX4_box_11 (by decide) ?_
    refine gx_cSi (n := 3) C hK (c_X4_in (l := l) (D := D) (cI := cI) (cG := cG) (cL := cL) (x := x2) (a := 1) (b := 40)) (bgS hT m528 m529 m7 m530) rfl rfl rfl (by decide +kernel) ⟨Nat.le_of_ble_eq_true rfl, Nat.le_of_ble_eq_true rfl⟩ rfl rfl (Nat.le_of_ble_eq_true rfl) (Nat.zero_le _) (Nat.zero_le _) dX4_box_13 ?_
    refine gx_if_eq (tgt := 51) C dX4_box_16 (by decide) (fun c_16 => ?_) (fun c_16 => ?_)
    · refine gx_aload_n C dX4_box_51 rfl ?_
      refine gx_iconst (v := 1) C dX4_box_52 (by decide) ?_
      refine gx_cVi (n := 1) (q0 := 0) C hK (c_X4_fails (l := l) (D := D) (cI := cI) (cG := cG) (cL := cL) (ad := ad) (n := n) (t := t) (B := B) (v := v) (x := 1)) mW_fst (bgV hT m531 m533 slX4_fails m7 m534) rfl rfl rfl (by decide +kernel) ⟨Nat.le_of_ble_eq_true rfl, Nat.le_of_ble_eq_true rfl⟩ rfl rfl rfl rfl (Nat.le_of_ble_eq_true rfl) (Nat.zero_le _) (Nat.zero_le _) dX4_box_53 ?_
      exact gx_iret C hRt hlocks dX4_box_56 rfl rfl
    · refine gx_iload_n C dX4_box_19 rfl ?_
      refine gx_iconst (v := 0) C dX4_box_20 (by decide) ?_
      refine gx_sipush (v := 1000) C dX4_box_21 (by decide) ?_
      refine gx_cSi (n := 3) C hK (c_X4_in (l := l) (D := D) (cI := cI) (cG := cG) (cL := cL) (x := x3) (a := 0) (b := 1000)) (bgS hT m528 m529 m7 m530) rfl rfl rfl (by decide +kernel) ⟨Nat.le_of_ble_eq_true rfl, Nat.le_of_ble_eq_true rfl⟩ rfl rfl (Nat.le_of_ble_eq_true rfl) (Nat.zero_le _) (Nat.zero_le _) dX4_box_24 ?_
      refine gx_if_eq (tgt := 51) C dX4_box_27 (by decide) (fun c_27 => ?_) (fun c_27 => ?_)
      · refine gx_aload_n C dX4_box_51 rfl ?_
        refine gx_iconst (v := 1) C dX4_box_52 (by decide) ?_
        refine gx_cVi (n := 1) (q0 := 0) C hK (c_X4_fails (l := l) (D := D) (cI := cI) (cG := cG) (cL := cL) (ad := ad) (n := n) (t := t) (B := B) (v := v) (x := 1)) mW_fst (bgV hT m531 m533 slX4_fails m7 m534) rfl rfl rfl (by decide +kernel) ⟨Nat.le_of_ble_eq_true rfl, Nat.le_of_ble_eq_true rfl⟩ rfl rfl rfl rfl (Nat.le_of_ble_eq_true rfl) (Nat.zero_le _) (Nat.zero_le _) dX4_box_53 ?_
        exact gx_iret C hRt hlocks dX4_box_56 rfl rfl
      · refine gx_iload C dX4_box_30 rfl ?_
        refine gx_iconst (v := 1) C dX4_box_32 (by decide) ?_
        refine gx_bipush (v := 9) C dX4_box_33 (by decide) ?_
        refine gx_cSi (n := 3) C hK (c_X4_in (l := l) (D := D) (cI := cI) (cG := cG) (cL := cL) (x := x4) (a := 1) (b := 9)) (bgS hT m528 m529 m7 m530) rfl rfl rfl (by decide +kernel) ⟨Nat.le_of_ble_eq_true rfl, Nat.le_of_ble_eq_true rfl⟩ rfl rfl (Nat.le_of_ble_eq_true rfl) (Nat.zero_le _) (Nat.zero_le _) dX4_box_35 ?_
        refine gx_if_eq (tgt := 51) C dX4_box_38 (by decide) (fun c_38 => ?_) (fun c_38 => ?_)
        · refine gx_aload_n C dX4_box_51 rfl ?_
          refine gx_iconst (v := 1) C dX4_box_52 (by decide) ?_
          refine gx_cVi (n := 1) (q0 := 0) C hK (c_X4_fails (l := l) (D := D) (cI := cI) (cG := cG) (cL := cL) (ad := ad) (n := n) (t := t) (B := B) (v := v) (x := 1)) mW_fst (bgV hT m531 m533 slX4_fails m7 m534) rfl rfl rfl (by decide +kernel) ⟨Nat.le_of_ble_eq_true rfl, Nat.le_of_ble_eq_true rfl⟩ rfl rfl rfl rfl (Nat.le_of_ble_eq_true rfl) (Nat.zero_le _) (Nat.zero_le _) dX4_box_53 ?_
          exact gx_iret C hRt hlocks dX4_box_56 rfl rfl
        · refine gx_iload C dX4_box_41 rfl ?_
          refine gx_iconst (v := 0) C dX4_box_43 (by decide) ?_
          refine gx_iconst (v := 2) C dX4_box_44 (by decide) ?_
          refine gx_cSi (n := 3) C hK (c_X4_in (l := l) (D := D) (cI := cI) (cG := cG) (cL := cL) (x := x5) (a := 0) (b := 2)) (bgS hT m528 m529 m7 m530) rfl rfl rfl (by decide +kernel) ⟨Nat.le_of_ble_eq_true rfl, Nat.le_of_ble_eq_true rfl⟩ rfl rfl (Nat.le_of_ble_eq_true rfl) (Nat.zero_le _) (Nat.zero_le _) dX4_box_45 ?_
          refine gx_if_ne (tgt := 57) C dX4_box_48 (by decide) (fun c => absurd ⟨bI_t c_6, bI_t c_16, bI_t c_27, bI_t c_38, bI_t c⟩ hF) (fun c_48 => ?_)
          refine gx_aload_n C dX4_box_51 rfl ?_
          refine gx_iconst (v := 1) C dX4_box_52 (by decide) ?_
          refine gx_cVi (n := 1) (q0 := 0) C hK (c_X4_fails (l := l) (D := D) (cI := cI) (cG := cG) (cL := cL) (ad := ad) (n := n) (t := t) (B := B) (v := v) (x := 1)) mW_fst (bgV hT m531 m533 slX4_fails m7 m534) rfl rfl rfl (by decide +kernel) ⟨Nat.le_of_ble_eq_true rfl, Nat.le_of_ble_eq_true rfl⟩ rfl rfl rfl rfl (Nat.le_of_ble_eq_true rfl) (Nat.zero_le _) (Nat.zero_le _) dX4_box_53 ?_
          exact gx_iret C hRt hlocks dX4_box_56 rfl rfl
set_option maxHeartbeats 4000000 in
set_option maxRecDepth 100000 in
theorem c_X4_box_full {l : Launch} {D : va_G} {cI cG cL : ClassId} {ad : Nat → Nat} {n t : Nat} {B : Int32} {v : Nat → Nat → Int32} {x1 x2 x3 x4 x5 : Int32} (h1 : yIn x1 1 3 = true) (h2 : yIn x2 1 40 = true) (h3 : yIn x3 0 1000 = true) (h4 : yIn x4 1 9 = true) (h5 : yIn x5 0 2 = true) (e0 : v 0 0 = 60) : gx_M l yX4_box wsX4_box ({ frames := 1, cells := 0, slots := 0, locals := 22 }) D vwCl (gT cI cG cL) [.ref (ad 0), .int x1, .int x2, .int x3, .int x4, .int x5] (mW cI ad n t B v) (mW cI ad n t B (mu v 0 3 2)) (some (.int 0)) := by
  refine gx_ofG (cc := cX4_box) (maxL := 6) (ret := (some .int)) [some (.ref (ad 0)), some (.int x1), some (.int x2), some (.int x3), some (.int x4), some (.int x5)] (by decide) rfl rfl (Nat.le_of_ble_eq_true rfl) rfl ?_
  intro p e s m args below meth c C hRt hlocks hK
  have C : CallFix p m c cX4_box 6 s args (wsX4_box) RX4 := C
  have hT : ∀ w ∈ bigW, w ∈ wsX4_box := bgT
  refine gx_iload_n C dX4_box_0 rfl ?_
  refine gx_iconst (v := 1) C dX4_box_1 (by decide) ?_
  refine gx_iconst (v := 3) C dX4_box_2 (by decide) ?_
  refine gx_cSi (n := 3) C hK (c_X4_in (l := l) (D := D) (cI := cI) (cG := cG) (cL := cL) (x := x1) (a := 1) (b := 3)) (bgS hT m528 m529 m7 m530) rfl rfl rfl (by decide +kernel) ⟨Nat.le_of_ble_eq_true rfl, Nat.le_of_ble_eq_true rfl⟩ rfl rfl (Nat.le_of_ble_eq_true rfl) (Nat.zero_le _) (Nat.zero_le _) dX4_box_3 ?_
  refine gx_if_eq (tgt := 51) C dX4_box_6 (by decide) (fun c => absurd c (by rw [h1]; decide)) (fun c_6 => ?_)
  refine gx_iload_n C dX4_box_9 rfl ?_
  refine gx_iconst (v := 1) C dX4_box_10 (by decide) ?_
  refine gx_bipush (v := 40) C dX4_box_11 (by decide) ?_
  refine gx_cSi (n := 3) C hK (c_X4_in (l := l) (D := D) (cI := cI) (cG := cG) (cL := cL) (x := x2) (a := 1) (b := 40)) (bgS hT m528 m529 m7 m530) rfl rfl rfl (by decide +kernel) ⟨Nat.le_of_ble_eq_true rfl, Nat.le_of_ble_eq_true rfl⟩ rfl rfl (Nat.le_of_ble_eq_true rfl) (Nat.zero_le _) (Nat.zero_le _) dX4_box_13 ?_
  refine gx_if_eq (tgt := 51) C dX4_box_16 (by decide) (fun c => absurd c (by rw [h2]; decide)) (fun c_16 => ?_)
  refine gx_iload_n C dX4_box_19 rfl ?_
  refine gx_iconst (v := 0) C dX4_box_20 (by decide) ?_
  refine gx_sipush (v := 1000) C dX4_box_21 (by decide) ?_
  refine gx_cSi (n := 3) C hK (c_X4_in (l := l) (D := D) (cI := cI) (cG := cG) (cL := cL) (x := x3) (a := 0) (b := 1000)) (bgS hT m528 m529 m7 m530) rfl rfl rfl (by decide +kernel) ⟨Nat.le_of_ble_eq_true rfl, Nat.le_of_ble_eq_true rfl⟩ rfl rfl (Nat.le_of_ble_eq_true rfl) (Nat.zero_le _) (Nat.zero_le _) dX4_box_24 ?_
  refine gx_if_eq (tgt := 51) C dX4_box_27 (by decide) (fun c => absurd c (by rw [h3]; decide)) (fun c_27 => ?_)
  refine gx_iload C dX4_box_30 rfl ?_
  refine gx_iconst (v := 1) C dX4_box_32 (by decide) ?_
  refine gx_bipush (v := 9) C dX4_box_33 (by decide) ?_
  refine gx_cSi (n := 3) C hK (c_X4_in (l := l) (D := D) (cI := cI) (cG := cG) (cL := cL) (x := x4) (a := 1) (b := 9)) (bgS hT m528 m529 m7 m530) rfl rfl rfl (by decide +kernel) ⟨Nat.le_of_ble_eq_true rfl, Nat.le_of_ble_eq_true rfl⟩ rfl rfl (Nat.le_of_ble_eq_true rfl) (Nat.zero_le _) (Nat.zero_le _) dX4_box_35 ?_
  refine gx_if_eq (tgt := 51) C dX4_box_38 (by decide) (fun c => absurd c (by rw [h4]; decide)) (fun c_38 => ?_)
  refine gx_iload C dX4_box_41 rfl ?_
  refine gx_iconst (v := 0) C dX4_box_43 (by decide) ?_
  refine gx_iconst (v := 2) C dX4_box_44 (by decide) ?_
  refine gx_cSi (n := 3) C hK (c_X4_in (l := l) (D := D) (cI := cI) (cG := cG) (cL := cL) (x := x5) (a := 0) (b := 2)) (bgS hT m528 m529 m7 m530) rfl rfl rfl (by decide +kernel) ⟨Nat.le_of_ble_eq_true rfl, Nat.le_of_ble_eq_true rfl⟩ rfl rfl (Nat.le_of_ble_eq_true rfl) (Nat.zero_le _) (Nat.zero_le _) dX4_box_45 ?_
  refine gx_if_ne (tgt := 57) C dX4_box_48 (by decide) (fun c_48 => ?_) (fun c => absurd c (by rw [h5]; decide))
  refine gx_aload_n C dX4_box_57 rfl ?_
  refine mg_X4_boxes C hK hT m471 dX4_box_58 ?_
  refine gx_bipush (v := 60) C dX4_box_61 (by decide) ?_
  refine gx_icmp_ne (tgt := 72) C dX4_box_63 (by decide) (fun c => absurd e0 c) (fun c_63 => ?_)
  refine gx_aload_n C dX4_box_66 rfl ?_
  refine gx_iconst (v := 2) C dX4_box_67 (by decide) ?_
  refine gx_cVi (n := 1) (q0 := 0) C hK (c_X4_fails (l := l) (D := D) (cI := cI) (cG := cG) (cL := cL) (ad := ad) (n := n) (t := t) (B := B) (v := v) (x := 2)) mW_fst (bgV hT m531 m533 slX4_fails m7 m534) rfl rfl rfl (by decide +kernel) ⟨Nat.le_of_ble_eq_true rfl, Nat.le_of_ble_eq_true rfl⟩ rfl rfl rfl rfl (Nat.le_of_ble_eq_true rfl) (Nat.zero_le _) (Nat.zero_le _) dX4_box_68 ?_
  exact gx_iret C hRt hlocks dX4_box_71 rfl rfl
set_option maxHeartbeats 4000000 in
set_option maxRecDepth 100000 in
theorem c_X4_box {l : Launch} {D : va_G} {cI cG cL : ClassId} {ad : Nat → Nat} {n t : Nat} {B : Int32} {v : Nat → Nat → Int32} {x1 x2 x3 x4 x5 : Int32} {T : Nat} (h1 : yIn x1 1 3 = true) (h2 : yIn x2 1 40 = true) (h3 : yIn x3 0 1000 = true) (h4 : yIn x4 1 9 = true) (h5 : yIn x5 0 2 = true) (hT6 : T < 60) (e0 : v 0 0 = nI T) : gx_M l yX4_box wsX4_box ({ frames := 1, cells := 0, slots := 0, locals := 22 }) D vwCl (gT cI cG cL) [.ref (ad 0), .int x1, .int x2, .int x3, .int x4, .int x5] (mW cI ad n t B v) (mW cI ad n t B (mTellU v T x1 x2 x3 x4 x5)) (some (.int (nI T))) := by
  refine gx_ofG (cc := cX4_box) (maxL := 6) (ret := (some .int)) [some (.ref (ad 0)), some (.int x1), some (.int x2), some (.int x3), some (.int x4), some (.int x5)] (by decide) rfl rfl (Nat.le_of_ble_eq_true rfl) rfl ?_
  intro p e s m args below meth c C hRt hlocks hK
  have C : CallFix p m c cX4_box 6 s args (wsX4_box) RX4 := C
  have hT : ∀ w ∈ bigW, w ∈ wsX4_box := bgT
  refine gx_iload_n C dX4_box_0 rfl ?_
  refine gx_iconst (v := 1) C dX4_box_1 (by decide) ?_
  refine gx_iconst (v := 3) C dX4_box_2 (by decide) ?_
  refine gx_cSi (n := 3) C hK (c_X4_in (l := l) (D := D) (cI := cI) (cG := cG) (cL := cL) (x := x1) (a := 1) (b := 3)) (bgS hT m528 m529 m7 m530) rfl rfl rfl (by decide +kernel) ⟨Nat.le_of_ble_eq_true rfl, Nat.le_of_ble_eq_true rfl⟩ rfl rfl (Nat.le_of_ble_eq_true rfl) (Nat.zero_le _) (Nat.zero_le _) dX4_box_3 ?_
  refine gx_if_eq (tgt := 51) C dX4_box_6 (by decide) (fun c => absurd c (by rw [h1]; decide)) (fun c_6 => ?_)
  refine gx_iload_n C dX4_box_9 rfl ?_
  refine gx_iconst (v := 1) C dX4_box_10 (by decide) ?_
  refine gx_bipush (v := 40) C dX4_box_11 (by decide) ?_
  refine gx_cSi (n := 3) C hK (c_X4_in (l := l) (D := D) (cI := cI) (cG := cG) (cL := cL) (x := x2) (a := 1) (b := 40)) (bgS hT m528 m529 m7 m530) rfl rfl rfl (by decide +kernel) ⟨Nat.le_of_ble_eq_true rfl, Nat.le_of_ble_eq_true rfl⟩ rfl rfl (Nat.le_of_ble_eq_true rfl) (Nat.zero_le _) (Nat.zero_le _) dX4_box_13 ?_
  refine gx_if_eq (tgt := 51) C dX4_box_16 (by decide) (fun c => absurd c (by rw [h2]; decide)) (fun c_16 => ?_)
  refine gx_iload_n C dX4_box_19 rfl ?_
  refine gx_iconst (v := 0) C dX4_box_20 (by decide) ?_
  refine gx_sipush (v := 1000) C dX4_box_21 (by decide) ?_
  refine gx_cSi (n := 3) C hK (c_X4_in (l := l) (D := D) (cI := cI) (cG := cG) (cL := cL) (x := x3) (a := 0) (b := 1000)) (bgS hT m528 m529 m7 m530) rfl rfl rfl (by decide +kernel) ⟨Nat.le_of_ble_eq_true rfl, Nat.le_of_ble_eq_true rfl⟩ rfl rfl (Nat.le_of_ble_eq_true rfl) (Nat.zero_le _) (Nat.zero_le _) dX4_box_24 ?_
  refine gx_if_eq (tgt := 51) C dX4_box_27 (by decide) (fun c => absurd c (by rw [h3]; decide)) (fun c_27 => ?_)
  refine gx_iload C dX4_box_30 rfl ?_
  refine gx_iconst (v := 1) C dX4_box_32 (by decide) ?_
  refine gx_bipush (v := 9) C dX4_box_33 (by decide) ?_
  refine gx_cSi (n := 3) C hK (c_X4_in (l := l) (D := D) (cI := cI) (cG := cG) (cL := cL) (x := x4) (a := 1) (b := 9)) (bgS hT m528 m529 m7 m530) rfl rfl rfl (by decide +kernel) ⟨Nat.le_of_ble_eq_true rfl, Nat.le_of_ble_eq_true rfl⟩ rfl rfl (Nat.le_of_ble_eq_true rfl) (Nat.zero_le _) (Nat.zero_le _) dX4_box_35 ?_
  refine gx_if_eq (tgt := 51) C dX4_box_38 (by decide) (fun c => absurd c (by rw [h4]; decide)) (fun c_38 => ?_)
  refine gx_iload C dX4_box_41 rfl ?_
  refine gx_iconst (v := 0) C dX4_box_43 (by decide) ?_
  refine gx_iconst (v := 2) C dX4_box_44 (by decide) ?_
  refine gx_cSi (n := 3) C hK (c_X4_in (l := l) (D := D) (cI := cI) (cG := cG) (cL := cL) (x := x5) (a := 0) (b := 2)) (bgS hT m528 m529 m7 m530) rfl rfl rfl (by decide +kernel) ⟨Nat.le_of_ble_eq_true rfl, Nat.le_of_ble_eq_true rfl⟩ rfl rfl (Nat.le_of_ble_eq_true rfl) (Nat.zero_le _) (Nat.zero_le _) dX4_box_45 ?_
  refine gx_if_ne (tgt := 57) C dX4_box_48 (by decide) (fun c_48 => ?_) (fun c => absurd c (by rw [h5]; decide))
  refine gx_aload_n C dX4_box_57 rfl ?_
  refine mg_X4_boxes C hK hT m471 dX4_box_58 ?_
  refine gx_bipush (v := 60) C dX4_box_61 (by decide) ?_
  rw [e0]
  refine gx_icmp_ne (tgt := 72) C dX4_box_63 (by decide) (fun c_63 => ?_) (fun c => absurd ((nI_eq (b := 60) (by omega) (by decide)).mp c) (by omega))
  refine gx_aload_n C dX4_box_72 rfl ?_
  refine gx_iconst (v := 0) C dX4_box_73 (by decide) ?_
  refine mp_X4_thrown C hK hT m465 dX4_box_74 ?_
  refine gx_aload_n C dX4_box_77 rfl ?_
  refine mg_X4_size C hK hT m472 dX4_box_78 ?_
  refine gx_aload_n C dX4_box_81 rfl ?_
  refine mg_X4_boxes C hK hT m471 dX4_box_82 ?_
  rw [show (mu v 0 3 0) 0 0 = nI T from e0]
  refine gx_iload_n C dX4_box_85 rfl ?_
  refine ms_1 C hK rfl (by omega) dX4_box_86 ?_
  refine gx_aload_n C dX4_box_87 rfl ?_
  refine mg_X4_weight C hK hT m473 dX4_box_88 ?_
  refine gx_aload_n C dX4_box_91 rfl ?_
  refine mg_X4_boxes C hK hT m471 dX4_box_92 ?_
  rw [show (mu (mu v 0 3 0) 1 T x1) 0 0 = nI T from e0]
  refine gx_iload_n C dX4_box_95 rfl ?_
  refine ms_2 C hK rfl (by omega) dX4_box_96 ?_
  refine gx_aload_n C dX4_box_97 rfl ?_
  refine mg_X4_leaves C hK hT m474 dX4_box_98 ?_
  refine gx_aload_n C dX4_box_101 rfl ?_
  refine mg_X4_boxes C hK hT m471 dX4_box_102 ?_
  rw [show (mu (mu (mu v 0 3 0) 1 T x1) 2 T x2) 0 0 = nI T from e0]
  refine gx_iload_n C dX4_box_105 rfl ?_
  refine ms_3 C hK rfl (by omega) dX4_box_106 ?_
  refine gx_aload_n C dX4_box_107 rfl ?_
  refine mg_X4_ship C hK hT m475 dX4_box_108 ?_
  refine gx_aload_n C dX4_box_111 rfl ?_
  refine mg_X4_boxes C hK hT m471 dX4_box_112 ?_
  rw [show (mu (mu (mu (mu v 0 3 0) 1 T x1) 2 T x2) 3 T x3) 0 0 = nI T from e0]
  refine gx_iload C dX4_box_115 rfl ?_
  refine ms_4 C hK rfl (by omega) dX4_box_117 ?_
  refine gx_aload_n C dX4_box_118 rfl ?_
  refine mg_X4_kind C hK hT m476 dX4_box_119 ?_
  refine gx_aload_n C dX4_box_122 rfl ?_
  refine mg_X4_boxes C hK hT m471 dX4_box_123 ?_
  rw [show (mu (mu (mu (mu (mu v 0 3 0) 1 T x1) 2 T x2) 3 T x3) 4 T x4) 0 0 = nI T from e0]
  refine gx_iload C dX4_box_126 rfl ?_
  refine ms_5 C hK rfl (by omega) dX4_box_128 ?_
  refine gx_aload_n C dX4_box_129 rfl ?_
  refine mg_X4_rowOf C hK hT m477 dX4_box_130 ?_
  refine gx_aload_n C dX4_box_133 rfl ?_
  refine mg_X4_boxes C hK hT m471 dX4_box_134 ?_
  rw [show (mu (mu (mu (mu (mu (mu v 0 3 0) 1 T x1) 2 T x2) 3 T x3) 4 T x4) 5 T x5) 0 0 = nI T from e0]
  refine gx_iconst (v := (-1)) C dX4_box_137 (by decide) ?_
  refine ms_7 C hK rfl (by omega) dX4_box_138 ?_
  refine gx_aload_n C dX4_box_139 rfl ?_
  refine mg_X4_tierOf C hK hT m478 dX4_box_140 ?_
  refine gx_aload_n C dX4_box_143 rfl ?_
  refine mg_X4_boxes C hK hT m471 dX4_box_144 ?_
  rw [show (mu (mu (mu (mu (mu (mu (mu v 0 3 0) 1 T x1) 2 T x2) 3 T x3) 4 T x4) 5 T x5) 7 T (-1)) 0 0 = nI T from e0]
  refine gx_iconst (v := (-1)) C dX4_box_147 (by decide) ?_
  refine ms_8 C hK rfl (by omega) dX4_box_148 ?_
  refine gx_aload_n C dX4_box_149 rfl ?_
  refine gx_dup C dX4_box_150 rfl ?_
  refine mg_X4_boxes C hK hT m471 dX4_box_151 ?_
  refine gx_iconst (v := 1) C dX4_box_154 (by decide) ?_
  refine gx_iadd C dX4_box_155 ?_
  refine mp_X4_boxes C hK hT m471 dX4_box_156 ?_
  refine gx_aload_n C dX4_box_159 rfl ?_
  refine mg_X4_boxes C hK hT m471 dX4_box_160 ?_
  refine gx_iconst (v := 1) C dX4_box_163 (by decide) ?_
  refine gx_isub C dX4_box_164 ?_
  exact gx_iret C hRt hlocks dX4_box_165 (by show v 0 0 + 1 - 1 = nI T; rw [e0, nI_1]; exact nI_pred T) rfl
set_option maxHeartbeats 4000000 in
set_option maxRecDepth 100000 in
theorem c_X4_ground {l : Launch} {D : va_G} {cI cG cL : ClassId} {ad : Nat → Nat} {n t : Nat} {B : Int32} {v : Nat → Nat → Int32} {x : Int32} {r T : Nat} (hT6 : T ≤ 60) (e0 : v 0 0 = nI T) (hn : n ≤ 16) (hr : r < n) (hx : yIn x 0 2 = true) (h6 : mHt (mu v 0 3 0) (nI r) T = 0) : gx_M l yX4_ground wsX4_ground ({ frames := 1, cells := 0, slots := 0, locals := 23 }) D vwCl (gT cI cG cL) [.ref (ad 0), .int (nI r), .int x] (mW cI ad n t B v) (mW cI ad n t B (mu (mu v 0 3 0) 11 r x)) (some (.int 1)) := by
  refine gx_ofG (cc := cX4_ground) (maxL := 3) (ret := (some .boolean)) [some (.ref (ad 0)), some (.int (nI r)), some (.int x)] (by decide) rfl rfl (Nat.le_of_ble_eq_true rfl) rfl ?_
  intro p e s m args below meth c C hRt hlocks hK
  have C : CallFix p m c cX4_ground 3 s args (wsX4_ground) RX4 := C
  have hT : ∀ w ∈ bigW, w ∈ wsX4_ground := bgT
  refine gx_aload_n C dX4_ground_0 rfl ?_
  refine gx_iconst (v := 0) C dX4_ground_1 (by decide) ?_
  refine mp_X4_thrown C hK hT m465 dX4_ground_2 ?_
  refine gx_aload_n C dX4_ground_5 rfl ?_
  refine gx_iload_n C dX4_ground_6 rfl ?_
  refine gx_cVi (n := 1) (q0 := 0) C hK (c_X4_isRow (l := l) (D := D) (cI := cI) (cG := cG) (cL := cL) (ad := ad) (n := n) (t := t) (B := B) (v := mu v 0 3 0) (x := nI r)) mW_fst (bgV hT m539 m541 slX4_isRow m7 m542) rfl rfl rfl (by decide +kernel) ⟨Nat.le_of_ble_eq_true rfl, Nat.le_of_ble_eq_true rfl⟩ rfl rfl rfl rfl (Nat.le_of_ble_eq_true rfl) (Nat.zero_le _) (Nat.zero_le _) dX4_ground_7 ?_
  refine gx_if_eq (tgt := 30) C dX4_ground_10 (by decide) (fun c => absurd c (by rw [yRow_of hn hr]; decide)) (fun c_10 => ?_)
  refine gx_iload_n C dX4_ground_13 rfl ?_
  refine gx_iconst (v := 0) C dX4_ground_14 (by decide) ?_
  refine gx_iconst (v := 2) C dX4_ground_15 (by decide) ?_
  refine gx_cSi (n := 3) C hK (c_X4_in (l := l) (D := D) (cI := cI) (cG := cG) (cL := cL) (x := x) (a := 0) (b := 2)) (bgS hT m528 m529 m7 m530) rfl rfl rfl (by decide +kernel) ⟨Nat.le_of_ble_eq_true rfl, Nat.le_of_ble_eq_true rfl⟩ rfl rfl (Nat.le_of_ble_eq_true rfl) (Nat.zero_le _) (Nat.zero_le _) dX4_ground_16 ?_
  refine gx_if_eq (tgt := 30) C dX4_ground_19 (by decide) (fun c => absurd c (by rw [hx]; decide)) (fun c_19 => ?_)
  refine gx_aload_n C dX4_ground_22 rfl ?_
  refine gx_iload_n C dX4_ground_23 rfl ?_
  refine gx_cVi (n := 1) (q0 := 0) C hK (c_X4_heightOf (l := l) (D := D) (cI := cI) (cG := cG) (cL := cL) (ad := ad) (n := n) (t := t) (B := B) (v := mu v 0 3 0) (a := nI r) hT6 e0) mW_fst (bgV hT m543 m545 slX4_heightOf m7 m546) rfl rfl rfl (by decide +kernel) ⟨Nat.le_of_ble_eq_true rfl, Nat.le_of_ble_eq_true rfl⟩ rfl rfl rfl rfl (Nat.le_of_ble_eq_true rfl) (Nat.zero_le _) (Nat.zero_le _) dX4_ground_24 ?_
  refine gx_if_le (tgt := 32) C dX4_ground_27 (by decide) (fun c_27 => ?_) (fun c => absurd (by rw [h6]; decide) c)
  refine gx_aload_n C dX4_ground_32 rfl ?_
  refine mg_X4_ground C hK hT m469 dX4_ground_33 ?_
  refine gx_iload_n C dX4_ground_36 rfl ?_
  refine gx_iload_n C dX4_ground_37 rfl ?_
  refine ms_11 C hK rfl (by omega) dX4_ground_38 ?_
  refine gx_iconst (v := 1) C dX4_ground_39 (by decide) ?_
  exact gx_zret C hRt hlocks dX4_ground_40 rfl rfl rfl
set_option maxHeartbeats 4000000 in
set_option maxRecDepth 100000 in
theorem c_X4_ground_no {l : Launch} {D : va_G} {cI cG cL : ClassId} {ad : Nat → Nat} {n t : Nat} {B : Int32} {v : Nat → Nat → Int32} {x y : Int32} {T : Nat} (hT6 : T ≤ 60) (e0 : v 0 0 = nI T) (hF : yRow n y = true → yIn x 0 2 = true → ¬ nI (mHt (mu v 0 3 0) y T) ≤ 0) : gx_M l yX4_ground wsX4_ground ({ frames := 1, cells := 0, slots := 0, locals := 23 }) D vwCl (gT cI cG cL) [.ref (ad 0), .int y, .int x] (mW cI ad n t B v) (mW cI ad n t B (mu v 0 3 0)) (some (.int 0)) := by
  refine gx_ofG (cc := cX4_ground) (maxL := 3) (ret := (some .boolean)) [some (.ref (ad 0)), some (.int y), some (.int x)] (by decide) rfl rfl (Nat.le_of_ble_eq_true rfl) rfl ?_
  intro p e s m args below meth c C hRt hlocks hK
  have C : CallFix p m c cX4_ground 3 s args (wsX4_ground) RX4 := C
  have hT : ∀ w ∈ bigW, w ∈ wsX4_ground := bgT
  refine gx_aload_n C dX4_ground_0 rfl ?_
  refine gx_iconst (v := 0) C dX4_ground_1 (by decide) ?_
  refine mp_X4_thrown C hK hT m465 dX4_ground_2 ?_
  refine gx_aload_n C dX4_ground_5 rfl ?_
  refine gx_iload_n C dX4_ground_6 rfl ?_
  refine gx_cVi (n := 1) (q0 := 0) C hK (c_X4_isRow (l := l) (D := D) (cI := cI) (cG := cG) (cL := cL) (ad := ad) (n := n) (t := t) (B := B) (v := mu v 0 3 0) (x := y)) mW_fst (bgV hT m539 m541 slX4_isRow m7 m542) rfl rfl rfl (by decide +kernel) ⟨Nat.le_of_ble_eq_true rfl, Nat.le_of_ble_eq_true rfl⟩ rfl rfl rfl rfl (Nat.le_of_ble_eq_true rfl) (Nat.zero_le _) (Nat.zero_le _) dX4_ground_7 ?_
  refine gx_if_eq (tgt := 30) C dX4_ground_10 (by decide) (fun c_10 => ?_) (fun c_10 => ?_)
  · refine gx_iconst (v := 0) C dX4_ground_30 (by decide) ?_
    exact gx_zret C hRt hlocks dX4_ground_31 rfl rfl rfl
  · refine gx_iload_n C dX4_ground_13 rfl ?_
    refine gx_iconst (v := 0) C dX4_ground_14 (by decide) ?_
    refine gx_iconst (v := 2) C dX4_ground_15 (by decide) ?_
    refine gx_cSi (n := 3) C hK (c_X4_in (l := l) (D := D) (cI := cI) (cG := cG) (cL := cL) (x := x) (a := 0) (b := 2)) (bgS hT m528 m529 m7 m530) rfl rfl rfl (by decide +kernel) ⟨Nat.le_of_ble_eq_true rfl, Nat.le_of_ble_eq_true rfl⟩ rfl rfl (Nat.le_of_ble_eq_true rfl) (Nat.zero_le _) (Nat.zero_le _) dX4_ground_16 ?_
    refine gx_if_eq (tgt := 30) C dX4_ground_19 (by decide) (fun c_19 => ?_) (fun c_19 => ?_)
    · refine gx_iconst (v := 0) C dX4_ground_30 (by decide) ?_
      exact gx_zret C hRt hlocks dX4_ground_31 rfl rfl rfl
    · refine gx_aload_n C dX4_ground_22 rfl ?_
      refine gx_iload_n C dX4_ground_23 rfl ?_
      refine gx_cVi (n := 1) (q0 := 0) C hK (c_X4_heightOf (l := l) (D := D) (cI := cI) (cG := cG) (cL := cL) (ad := ad) (n := n) (t := t) (B := B) (v := mu v 0 3 0) (a := y) hT6 e0) mW_fst (bgV hT m543 m545 slX4_heightOf m7 m546) rfl rfl rfl (by decide +kernel) ⟨Nat.le_of_ble_eq_true rfl, Nat.le_of_ble_eq_true rfl⟩ rfl rfl rfl rfl (Nat.le_of_ble_eq_true rfl) (Nat.zero_le _) (Nat.zero_le _) dX4_ground_24 ?_
      refine gx_if_le (tgt := 32) C dX4_ground_27 (by decide) (fun c => absurd c (hF (bI_t c_10) (bI_t c_19))) (fun c_27 => ?_)
      refine gx_iconst (v := 0) C dX4_ground_30 (by decide) ?_
      exact gx_zret C hRt hlocks dX4_ground_31 rfl rfl rfl
set_option maxHeartbeats 4000000 in
set_option maxRecDepth 100000 in
theorem lp_X4_reserve {l : Launch} {D : va_G} {cI cG cL : ClassId} {ad : Nat → Nat} {n t : Nat} {B : Int32} {v : Nat → Nat → Int32} {x : Int32} {r T : Nat} {p : Program} {e : Env} {s : State} {m : MethodId} {args : Array Value} {below : List Frame} {meth : Method} {c : Code} (C : CallFix p m c cX4_reserve 4 s args wsX4_reserve RX4) (hT : ∀ w ∈ bigW, w ∈ wsX4_reserve) (hRt : meth.sig.returnType = (some .boolean)) (hlocks : meth.locks = false) (hK : va_K D vwCl (gT cI cG cL) s) (hT6 : T ≤ 60) (e0 : v 0 0 = nI T) (hn : n ≤ 16) (hr : r < n) (hx : yIn x 0 9 = true) (hs : x ≤ 0 ∨ yAny (fun k => decide (v 7 k = nI r ∧ ¬ v 4 k = x)) T = false) : ∀ (d j : Nat), j + d = T → gx_G p l e (headSpec wsX4_reserve ({ frames := 1, cells := 0, slots := 0, locals := 22 })).room s m args below meth c D vwCl (gx_in (mW cI ad n t B v)) 4 0 0 (gx_Qm D vwCl below args s (mW cI ad n t B v) (mW cI ad n t B (mu (mu v 0 3 0) 12 r x)) (some (.int 1))) (mW cI ad n t B (mu v 0 3 0)) 27 [some (.ref (ad 0)), some (.int (nI r)), some (.int x), some (.int (nI j))] [] := by
  intro d
  induction d with
  | zero =>
    intro j hj
    refine gx_iload_n C dX4_reserve_27 rfl ?_
    refine gx_aload_n C dX4_reserve_28 rfl ?_
    refine mg_X4_boxes C hK hT m471 dX4_reserve_29 ?_
    rw [show mu v 0 3 0 0 0 = nI T from e0]
    refine gx_icmp_ge (tgt := 67) C dX4_reserve_32 (by decide) (fun c_32 => ?_) (fun c => absurd (nI_le (by omega) (by omega)) c)
    refine gx_aload_n C dX4_reserve_67 rfl ?_
    refine mg_X4_reserved C hK hT m470 dX4_reserve_68 ?_
    refine gx_iload_n C dX4_reserve_71 rfl ?_
    refine gx_iload_n C dX4_reserve_72 rfl ?_
    refine ms_12 C hK rfl (by omega) dX4_reserve_73 ?_
    refine gx_iconst (v := 1) C dX4_reserve_74 (by decide) ?_
    exact gx_zret C hRt hlocks dX4_reserve_75 rfl rfl rfl
  | succ d ih =>
    intro j hj
    refine gx_iload_n C dX4_reserve_27 rfl ?_
    refine gx_aload_n C dX4_reserve_28 rfl ?_
    refine mg_X4_boxes C hK hT m471 dX4_reserve_29 ?_
    rw [show mu v 0 3 0 0 0 = nI T from e0]
    refine gx_icmp_ge (tgt := 67) C dX4_reserve_32 (by decide) (fun c => absurd c (nI_ge (by omega) (by omega))) (fun c_32 => ?_)
    refine gx_iload_n C dX4_reserve_35 rfl ?_
    refine gx_if_le (tgt := 61) C dX4_reserve_36 (by decide) (fun c_36 => ?_) (fun c_36 => ?_)
    · refine gx_iincN (lv2 := [some _, some _, some _, some _]) C dX4_reserve_61 rfl (by decide) rfl ?_
      refine gx_goto (tgt := 27) C dX4_reserve_64 (by decide) ?_
      exact ih (j + 1) (by omega)
    · refine gx_aload_n C dX4_reserve_39 rfl ?_
      refine mg_X4_rowOf C hK hT m477 dX4_reserve_40 ?_
      refine gx_iload_n C dX4_reserve_43 rfl ?_
      refine ml_7 C hK rfl (by omega) dX4_reserve_44 ?_
      refine gx_iload_n C dX4_reserve_45 rfl ?_
      refine gx_icmp_ne (tgt := 61) C dX4_reserve_46 (by decide) (fun c_46 => ?_) (fun c_46 => ?_)
      · refine gx_iincN (lv2 := [some _, some _, some _, some _]) C dX4_reserve_61 rfl (by decide) rfl ?_
        refine gx_goto (tgt := 27) C dX4_reserve_64 (by decide) ?_
        exact ih (j + 1) (by omega)
      · refine gx_aload_n C dX4_reserve_49 rfl ?_
        refine mg_X4_ship C hK hT m475 dX4_reserve_50 ?_
        refine gx_iload_n C dX4_reserve_53 rfl ?_
        refine ml_4 C hK rfl (by omega) dX4_reserve_54 ?_
        refine gx_iload_n C dX4_reserve_55 rfl ?_
        refine gx_icmp_eq (tgt := 61) C dX4_reserve_56 (by decide) (fun c_56 => ?_) (fun c => absurd (yAny_true (P := fun k => decide (v 7 k = nI r ∧ ¬ v 4 k = x)) (show j < T by omega) (decide_eq_true ⟨c_46, c⟩)) (by rw [hs.resolve_left c_36]; decide))
        refine gx_iincN (lv2 := [some _, some _, some _, some _]) C dX4_reserve_61 rfl (by decide) rfl ?_
        refine gx_goto (tgt := 27) C dX4_reserve_64 (by decide) ?_
        exact ih (j + 1) (by omega)
set_option maxHeartbeats 4000000 in
set_option maxRecDepth 100000 in
theorem c_X4_reserve {l : Launch} {D : va_G} {cI cG cL : ClassId} {ad : Nat → Nat} {n t : Nat} {B : Int32} {v : Nat → Nat → Int32} {x : Int32} {r T : Nat} (hT6 : T ≤ 60) (e0 : v 0 0 = nI T) (hn : n ≤ 16) (hr : r < n) (hx : yIn x 0 9 = true) (hs : x ≤ 0 ∨ yAny (fun k => decide (v 7 k = nI r ∧ ¬ v 4 k = x)) T = false) : gx_M l yX4_reserve wsX4_reserve ({ frames := 1, cells := 0, slots := 0, locals := 22 }) D vwCl (gT cI cG cL) [.ref (ad 0), .int (nI r), .int x] (mW cI ad n t B v) (mW cI ad n t B (mu (mu v 0 3 0) 12 r x)) (some (.int 1)) := by
  refine gx_ofG (cc := cX4_reserve) (maxL := 4) (ret := (some .boolean)) [some (.ref (ad 0)), some (.int (nI r)), some (.int x), none] (by decide) rfl rfl (Nat.le_of_ble_eq_true rfl) rfl ?_
  intro p e s m args below meth c C hRt hlocks hK
  have C : CallFix p m c cX4_reserve 4 s args (wsX4_reserve) RX4 := C
  have hT : ∀ w ∈ bigW, w ∈ wsX4_reserve := bgT
  refine gx_aload_n C dX4_reserve_0 rfl ?_
  refine gx_iconst (v := 0) C dX4_reserve_1 (by decide) ?_
  refine mp_X4_thrown C hK hT m465 dX4_reserve_2 ?_
  refine gx_aload_n C dX4_reserve_5 rfl ?_
  refine gx_iload_n C dX4_reserve_6 rfl ?_
  refine gx_cVi (n := 1) (q0 := 0) C hK (c_X4_isRow (l := l) (D := D) (cI := cI) (cG := cG) (cL := cL) (ad := ad) (n := n) (t := t) (B := B) (v := mu v 0 3 0) (x := nI r)) mW_fst (bgV hT m539 m541 slX4_isRow m7 m542) rfl rfl rfl (by decide +kernel) ⟨Nat.le_of_ble_eq_true rfl, Nat.le_of_ble_eq_true rfl⟩ rfl rfl rfl rfl (Nat.le_of_ble_eq_true rfl) (Nat.zero_le _) (Nat.zero_le _) dX4_reserve_7 ?_
  refine gx_if_eq (tgt := 23) C dX4_reserve_10 (by decide) (fun c => absurd c (by rw [yRow_of hn hr]; decide)) (fun c_10 => ?_)
  refine gx_iload_n C dX4_reserve_13 rfl ?_
  refine gx_iconst (v := 0) C dX4_reserve_14 (by decide) ?_
  refine gx_bipush (v := 9) C dX4_reserve_15 (by decide) ?_
  refine gx_cSi (n := 3) C hK (c_X4_in (l := l) (D := D) (cI := cI) (cG := cG) (cL := cL) (x := x) (a := 0) (b := 9)) (bgS hT m528 m529 m7 m530) rfl rfl rfl (by decide +kernel) ⟨Nat.le_of_ble_eq_true rfl, Nat.le_of_ble_eq_true rfl⟩ rfl rfl (Nat.le_of_ble_eq_true rfl) (Nat.zero_le _) (Nat.zero_le _) dX4_reserve_17 ?_
  refine gx_if_ne (tgt := 25) C dX4_reserve_20 (by decide) (fun c_20 => ?_) (fun c => absurd c (by rw [hx]; decide))
  refine gx_iconst (v := 0) C dX4_reserve_25 (by decide) ?_
  refine gx_istore_n (lv2 := [some _, some _, some _, some _]) C dX4_reserve_26 (by decide) rfl ?_
  exact lp_X4_reserve C hT hRt hlocks hK hT6 e0 hn hr hx hs T 0 (by omega) 
set_option maxHeartbeats 4000000 in
set_option maxRecDepth 100000 in
theorem lp_X4_reserve_no {l : Launch} {D : va_G} {cI cG cL : ClassId} {ad : Nat → Nat} {n t : Nat} {B : Int32} {v : Nat → Nat → Int32} {x : Int32} {r T : Nat} {p : Program} {e : Env} {s : State} {m : MethodId} {args : Array Value} {below : List Frame} {meth : Method} {c : Code} (C : CallFix p m c cX4_reserve 4 s args wsX4_reserve RX4) (hT : ∀ w ∈ bigW, w ∈ wsX4_reserve) (hRt : meth.sig.returnType = (some .boolean)) (hlocks : meth.locks = false) (hK : va_K D vwCl (gT cI cG cL) s) (hT6 : T ≤ 60) (e0 : v 0 0 = nI T) (hn : n ≤ 16) (hr : r < n) (hx : yIn x 0 9 = true) (hp : ¬ x ≤ 0) (hs : yAny (fun k => decide (v 7 k = nI r ∧ ¬ v 4 k = x)) T = true) : ∀ (d j : Nat), j + d = T → yAny (fun k => decide (v 7 k = nI r ∧ ¬ v 4 k = x)) j = false → gx_G p l e (headSpec wsX4_reserve ({ frames := 1, cells := 0, slots := 0, locals := 22 })).room s m args below meth c D vwCl (gx_in (mW cI ad n t B v)) 4 0 0 (gx_Qm D vwCl below args s (mW cI ad n t B v) (mW cI ad n t B (mu v 0 3 0)) (some (.int 0))) (mW cI ad n t B (mu v 0 3 0)) 27 [some (.ref (ad 0)), some (.int (nI r)), some (.int x), some (.int (nI j))] [] := by
  intro d
  induction d with
  | zero =>
    intro j hj ha
    refine gx_iload_n C dX4_reserve_27 rfl ?_
    refine gx_aload_n C dX4_reserve_28 rfl ?_
    refine mg_X4_boxes C hK hT m471 dX4_reserve_29 ?_
    rw [show mu v 0 3 0 0 0 = nI T from e0]
    refine gx_icmp_ge (tgt := 67) C dX4_reserve_32 (by decide) (fun c_32 => ?_) (fun c => absurd (nI_le (by omega) (by omega)) c)
    exact absurd hs (by rw [show T = j by omega, ha]; decide)
  | succ d ih =>
    intro j hj ha
    refine gx_iload_n C dX4_reserve_27 rfl ?_
    refine gx_aload_n C dX4_reserve_28 rfl ?_
    refine mg_X4_boxes C hK hT m471 dX4_reserve_29 ?_
    rw [show mu v 0 3 0 0 0 = nI T from e0]
    refine gx_icmp_ge (tgt := 67) C dX4_reserve_32 (by decide) (fun c => absurd c (nI_ge (by omega) (by omega))) (fun c_32 => ?_)
    refine gx_iload_n C dX4_reserve_35 rfl ?_
    refine gx_if_le (tgt := 61) C dX4_reserve_36 (by decide) (fun c => absurd c hp) (fun c_36 => ?_)
    refine gx_aload_n C dX4_reserve_39 rfl ?_
    refine mg_X4_rowOf C hK hT m477 dX4_reserve_40 ?_
    refine gx_iload_n C dX4_reserve_43 rfl ?_
    refine ml_7 C hK rfl (by omega) dX4_reserve_44 ?_
    refine gx_iload_n C dX4_reserve_45 rfl ?_
    refine gx_icmp_ne (tgt := 61) C dX4_reserve_46 (by decide) (fun c_46 => ?_) (fun c_46 => ?_)
    · refine gx_iincN (lv2 := [some _, some _, some _, some _]) C dX4_reserve_61 rfl (by decide) rfl ?_
      refine gx_goto (tgt := 27) C dX4_reserve_64 (by decide) ?_
      exact ih (j + 1) (by omega) (by rw [yAny, ha, Bool.false_or]; exact decide_eq_false (fun q => c_46 q.1))
    · refine gx_aload_n C dX4_reserve_49 rfl ?_
      refine mg_X4_ship C hK hT m475 dX4_reserve_50 ?_
      refine gx_iload_n C dX4_reserve_53 rfl ?_
      refine ml_4 C hK rfl (by omega) dX4_reserve_54 ?_
      refine gx_iload_n C dX4_reserve_55 rfl ?_
      refine gx_icmp_eq (tgt := 61) C dX4_reserve_56 (by decide) (fun c_56 => ?_) (fun c_56 => ?_)
      · refine gx_iincN (lv2 := [some _, some _, some _, some _]) C dX4_reserve_61 rfl (by decide) rfl ?_
        refine gx_goto (tgt := 27) C dX4_reserve_64 (by decide) ?_
        exact ih (j + 1) (by omega) (by rw [yAny, ha, Bool.false_or]; exact decide_eq_false (fun q => q.2 c_56))
      · refine gx_iconst (v := 0) C dX4_reserve_59 (by decide) ?_
        exact gx_zret C hRt hlocks dX4_reserve_60 rfl rfl rfl
set_option maxHeartbeats 4000000 in
set_option maxRecDepth 100000 in
theorem c_X4_reserve_no {l : Launch} {D : va_G} {cI cG cL : ClassId} {ad : Nat → Nat} {n t : Nat} {B : Int32} {v : Nat → Nat → Int32} {x : Int32} {r T : Nat} (hT6 : T ≤ 60) (e0 : v 0 0 = nI T) (hn : n ≤ 16) (hr : r < n) (hx : yIn x 0 9 = true) (hp : ¬ x ≤ 0) (hs : yAny (fun k => decide (v 7 k = nI r ∧ ¬ v 4 k = x)) T = true) : gx_M l yX4_reserve wsX4_reserve ({ frames := 1, cells := 0, slots := 0, locals := 22 }) D vwCl (gT cI cG cL) [.ref (ad 0), .int (nI r), .int x] (mW cI ad n t B v) (mW cI ad n t B (mu v 0 3 0)) (some (.int 0)) := by
  refine gx_ofG (cc := cX4_reserve) (maxL := 4) (ret := (some .boolean)) [some (.ref (ad 0)), some (.int (nI r)), some (.int x), none] (by decide) rfl rfl (Nat.le_of_ble_eq_true rfl) rfl ?_
  intro p e s m args below meth c C hRt hlocks hK
  have C : CallFix p m c cX4_reserve 4 s args (wsX4_reserve) RX4 := C
  have hT : ∀ w ∈ bigW, w ∈ wsX4_reserve := bgT
  refine gx_aload_n C dX4_reserve_0 rfl ?_
  refine gx_iconst (v := 0) C dX4_reserve_1 (by decide) ?_
  refine mp_X4_thrown C hK hT m465 dX4_reserve_2 ?_
  refine gx_aload_n C dX4_reserve_5 rfl ?_
  refine gx_iload_n C dX4_reserve_6 rfl ?_
  refine gx_cVi (n := 1) (q0 := 0) C hK (c_X4_isRow (l := l) (D := D) (cI := cI) (cG := cG) (cL := cL) (ad := ad) (n := n) (t := t) (B := B) (v := mu v 0 3 0) (x := nI r)) mW_fst (bgV hT m539 m541 slX4_isRow m7 m542) rfl rfl rfl (by decide +kernel) ⟨Nat.le_of_ble_eq_true rfl, Nat.le_of_ble_eq_true rfl⟩ rfl rfl rfl rfl (Nat.le_of_ble_eq_true rfl) (Nat.zero_le _) (Nat.zero_le _) dX4_reserve_7 ?_
  refine gx_if_eq (tgt := 23) C dX4_reserve_10 (by decide) (fun c => absurd c (by rw [yRow_of hn hr]; decide)) (fun c_10 => ?_)
  refine gx_iload_n C dX4_reserve_13 rfl ?_
  refine gx_iconst (v := 0) C dX4_reserve_14 (by decide) ?_
  refine gx_bipush (v := 9) C dX4_reserve_15 (by decide) ?_
  refine gx_cSi (n := 3) C hK (c_X4_in (l := l) (D := D) (cI := cI) (cG := cG) (cL := cL) (x := x) (a := 0) (b := 9)) (bgS hT m528 m529 m7 m530) rfl rfl rfl (by decide +kernel) ⟨Nat.le_of_ble_eq_true rfl, Nat.le_of_ble_eq_true rfl⟩ rfl rfl (Nat.le_of_ble_eq_true rfl) (Nat.zero_le _) (Nat.zero_le _) dX4_reserve_17 ?_
  refine gx_if_ne (tgt := 25) C dX4_reserve_20 (by decide) (fun c_20 => ?_) (fun c => absurd c (by rw [hx]; decide))
  refine gx_iconst (v := 0) C dX4_reserve_25 (by decide) ?_
  refine gx_istore_n (lv2 := [some _, some _, some _, some _]) C dX4_reserve_26 (by decide) rfl ?_
  exact lp_X4_reserve_no C hT hRt hlocks hK hT6 e0 hn hr hx hp hs T 0 (by omega) rfl
set_option maxHeartbeats 4000000 in
set_option maxRecDepth 100000 in
theorem c_X4_reserve_bad {l : Launch} {D : va_G} {cI cG cL : ClassId} {ad : Nat → Nat} {n t : Nat} {B : Int32} {v : Nat → Nat → Int32} {x y : Int32} (hF : yRow n y = false ∨ yIn x 0 9 = false) : gx_M l yX4_reserve wsX4_reserve ({ frames := 1, cells := 0, slots := 0, locals := 22 }) D vwCl (gT cI cG cL) [.ref (ad 0), .int y, .int x] (mW cI ad n t B v) (mW cI ad n t B (mu v 0 3 0)) (some (.int 0)) := by
  refine gx_ofG (cc := cX4_reserve) (maxL := 4) (ret := (some .boolean)) [some (.ref (ad 0)), some (.int y), some (.int x), none] (by decide) rfl rfl (Nat.le_of_ble_eq_true rfl) rfl ?_
  intro p e s m args below meth c C hRt hlocks hK
  have C : CallFix p m c cX4_reserve 4 s args (wsX4_reserve) RX4 := C
  have hT : ∀ w ∈ bigW, w ∈ wsX4_reserve := bgT
  refine gx_aload_n C dX4_reserve_0 rfl ?_
  refine gx_iconst (v := 0) C dX4_reserve_1 (by decide) ?_
  refine mp_X4_thrown C hK hT m465 dX4_reserve_2 ?_
  refine gx_aload_n C dX4_reserve_5 rfl ?_
  refine gx_iload_n C dX4_reserve_6 rfl ?_
  refine gx_cVi (n := 1) (q0 := 0) C hK (c_X4_isRow (l := l) (D := D) (cI := cI) (cG := cG) (cL := cL) (ad := ad) (n := n) (t := t) (B := B) (v := mu v 0 3 0) (x := y)) mW_fst (bgV hT m539 m541 slX4_isRow m7 m542) rfl rfl rfl (by decide +kernel) ⟨Nat.le_of_ble_eq_true rfl, Nat.le_of_ble_eq_true rfl⟩ rfl rfl rfl rfl (Nat.le_of_ble_eq_true rfl) (Nat.zero_le _) (Nat.zero_le _) dX4_reserve_7 ?_
  refine gx_if_eq (tgt := 23) C dX4_reserve_10 (by decide) (fun c_10 => ?_) (fun c_10 => ?_)
  · refine gx_iconst (v := 0) C dX4_reserve_23 (by decide) ?_
    exact gx_zret C hRt hlocks dX4_reserve_24 rfl rfl rfl
  · refine gx_iload_n C dX4_reserve_13 rfl ?_
    refine gx_iconst (v := 0) C dX4_reserve_14 (by decide) ?_
    refine gx_bipush (v := 9) C dX4_reserve_15 (by decide) ?_
    refine gx_cSi (n := 3) C hK (c_X4_in (l := l) (D := D) (cI := cI) (cG := cG) (cL := cL) (x := x) (a := 0) (b := 9)) (bgS hT m528 m529 m7 m530) rfl rfl rfl (by decide +kernel) ⟨Nat.le_of_ble_eq_true rfl, Nat.le_of_ble_eq_true rfl⟩ rfl rfl (Nat.le_of_ble_eq_true rfl) (Nat.zero_le _) (Nat.zero_le _) dX4_reserve_17 ?_
    refine gx_if_ne (tgt := 25) C dX4_reserve_20 (by decide) (fun c => absurd (bI_0.mpr (hF.resolve_left (by rw [bI_t c_10]; decide))) c) (fun c_20 => ?_)
    refine gx_iconst (v := 0) C dX4_reserve_23 (by decide) ?_
    exact gx_zret C hRt hlocks dX4_reserve_24 rfl rfl rfl

set_option maxHeartbeats 4000000 in
set_option maxRecDepth 100000 in
theorem c_X2_bring_lay {l : Launch} {D : va_G} {cI cG cL : ClassId} {ad : Nat → Nat} {n t : Nat} {B : Int32} {u g : Nat → Nat → Int32} {b r : Nat} (hn : n ≤ 16) (ht : t ≤ 8) (hb : b < 60) (hr : r < n) (hs : u 7 b = -1) (h6 : u 6 r = nI (yH u r)) (h0 : yH u r < t) : gx_M l yX2_bring wsX2_bring ({ frames := 1, cells := 0, slots := 0, locals := 23 }) D vwCl (gT cI cG cL) [.ref (ad 7), .int (nI b), .int (nI r)] (yW cI cG ad n t B u g) (yW cI cG ad n t B (yLayU u b r) (yLayG u g b r)) none := by
  refine gx_ofG (cc := cX2_bring) (maxL := 3) (ret := none) [some (.ref (ad 7)), some (.int (nI b)), some (.int (nI r))] (by decide) rfl rfl (Nat.le_of_ble_eq_true rfl) rfl ?_
  intro p e s m args below meth c C hRt hlocks hK
  have C : CallFix p m c cX2_bring 3 s args (wsX2_bring) RX2 := C
  have hT : ∀ w ∈ bigW, w ∈ wsX2_bring := bgT
  refine gx_aload_n C dX2_bring_0 rfl ?_
  refine gx_iload_n C dX2_bring_1 rfl ?_
  refine gx_cVi (n := 1) (q0 := 7) C hK (c_X2_stands (l := l) (D := D) (cI := cI) (cG := cG) (cL := cL) (ad := ad) (n := n) (t := t) (B := B) (u := u) (g := g) hb) yW_fst (bgV hT m172 m173 m174 m4 m175) rfl rfl rfl (by decide +kernel) ⟨Nat.le_of_ble_eq_true rfl, Nat.le_of_ble_eq_true rfl⟩ rfl rfl rfl rfl (Nat.le_of_ble_eq_true rfl) (Nat.zero_le _) (Nat.zero_le _) dX2_bring_2 ?_
  refine gx_if_eq (tgt := 13) C dX2_bring_5 (by decide) (fun c_5 => ?_) (fun c => absurd (bI_0.mpr (decide_eq_false (fun q => q hs))) c)
  refine gx_iload_n C dX2_bring_13 rfl ?_
  refine gx_iconst (v := (-1)) C dX2_bring_14 (by decide) ?_
  refine gx_icmp_eq (tgt := 24) C dX2_bring_15 (by decide) (fun c => absurd c (y_m1 (by omega))) (fun c_15 => ?_)
  refine gx_aload_n C dX2_bring_18 rfl ?_
  refine gx_iload_n C dX2_bring_19 rfl ?_
  refine gx_iload_n C dX2_bring_20 rfl ?_
  refine gx_cVv (n := 2) (q0 := 7) C hK (c_X2_lay (l := l) (D := D) (cI := cI) (cG := cG) (cL := cL) (ad := ad) (n := n) (t := t) (B := B) (u := u) (g := g) hn ht hb hr h6 h0) yW_fst (bgV hT m180 m182 slX2_lay m4 m183) rfl rfl rfl (by decide +kernel) ⟨Nat.le_of_ble_eq_true rfl, Nat.le_of_ble_eq_true rfl⟩ rfl rfl rfl rfl (Nat.le_of_ble_eq_true rfl) (Nat.zero_le _) (Nat.zero_le _) dX2_bring_21 ?_
  exact gx_vret C hRt hlocks dX2_bring_24 rfl
set_option maxHeartbeats 4000000 in
set_option maxRecDepth 100000 in
theorem c_X2_bring_lift {l : Launch} {D : va_G} {cI cG cL : ClassId} {ad : Nat → Nat} {n t : Nat} {B : Int32} {u g : Nat → Nat → Int32} {b r : Nat} (hOK : yOK n t u g) (hb : b < 60) (hr : r < n) (e7 : u 7 b = nI r) (h0 : 0 < yH u r) : gx_M l yX2_bring wsX2_bring ({ frames := 1, cells := 0, slots := 0, locals := 22 }) D vwCl (gT cI cG cL) [.ref (ad 7), .int (nI b), .int (-1)] (yW cI cG ad n t B u g) (yW cI cG ad n t B (yLiftU u b r) (yLiftG u g r)) none := by
  refine gx_ofG (cc := cX2_bring) (maxL := 3) (ret := none) [some (.ref (ad 7)), some (.int (nI b)), some (.int (-1))] (by decide) rfl rfl (Nat.le_of_ble_eq_true rfl) rfl ?_
  intro p e s m args below meth c C hRt hlocks hK
  have C : CallFix p m c cX2_bring 3 s args (wsX2_bring) RX2 := C
  have hT : ∀ w ∈ bigW, w ∈ wsX2_bring := bgT
  have hn := hOK.hn
  have ht := hOK.ht
  refine gx_aload_n C dX2_bring_0 rfl ?_
  refine gx_iload_n C dX2_bring_1 rfl ?_
  refine gx_cVi (n := 1) (q0 := 7) C hK (c_X2_stands (l := l) (D := D) (cI := cI) (cG := cG) (cL := cL) (ad := ad) (n := n) (t := t) (B := B) (u := u) (g := g) hb) yW_fst (bgV hT m172 m173 m174 m4 m175) rfl rfl rfl (by decide +kernel) ⟨Nat.le_of_ble_eq_true rfl, Nat.le_of_ble_eq_true rfl⟩ rfl rfl rfl rfl (Nat.le_of_ble_eq_true rfl) (Nat.zero_le _) (Nat.zero_le _) dX2_bring_2 ?_
  refine gx_if_eq (tgt := 13) C dX2_bring_5 (by decide) (fun c => absurd (ySt_f c) (by rw [e7]; exact y_m1 (by omega))) (fun c_5 => ?_)
  refine gx_aload_n C dX2_bring_8 rfl ?_
  refine gx_iload_n C dX2_bring_9 rfl ?_
  refine gx_cVv (n := 1) (q0 := 7) C hK (c_X2_lift (l := l) (D := D) (cI := cI) (cG := cG) (cL := cL) (ad := ad) (n := n) (t := t) (B := B) (u := u) (g := g) hOK hb hr e7 h0) yW_fst (bgV hT m176 m178 slX2_lift m4 m179) rfl rfl rfl (by decide +kernel) ⟨Nat.le_of_ble_eq_true rfl, Nat.le_of_ble_eq_true rfl⟩ rfl rfl rfl rfl (Nat.le_of_ble_eq_true rfl) (Nat.zero_le _) (Nat.zero_le _) dX2_bring_10 ?_
  refine gx_iload_n C dX2_bring_13 rfl ?_
  refine gx_iconst (v := (-1)) C dX2_bring_14 (by decide) ?_
  refine gx_icmp_eq (tgt := 24) C dX2_bring_15 (by decide) (fun c_15 => ?_) (fun c => absurd c (by decide))
  exact gx_vret C hRt hlocks dX2_bring_24 rfl
set_option maxHeartbeats 4000000 in
set_option maxRecDepth 100000 in
theorem c_X2_bring_both {l : Launch} {D : va_G} {cI cG cL : ClassId} {ad : Nat → Nat} {n t : Nat} {B : Int32} {u g : Nat → Nat → Int32} {b r r2 : Nat} (hOK : yOK n t u g) (hb : b < 60) (hr : r < n) (hr2 : r2 < n) (e7 : u 7 b = nI r) (h0 : 0 < yH u r) (h6 : yLiftU u b r 6 r2 = nI (yH (yLiftU u b r) r2)) (h02 : yH (yLiftU u b r) r2 < t) : gx_M l yX2_bring wsX2_bring ({ frames := 1, cells := 0, slots := 0, locals := 23 }) D vwCl (gT cI cG cL) [.ref (ad 7), .int (nI b), .int (nI r2)] (yW cI cG ad n t B u g) (yW cI cG ad n t B (yLayU (yLiftU u b r) b r2) (yLayG (yLiftU u b r) (yLiftG u g r) b r2)) none := by
  refine gx_ofG (cc := cX2_bring) (maxL := 3) (ret := none) [some (.ref (ad 7)), some (.int (nI b)), some (.int (nI r2))] (by decide) rfl rfl (Nat.le_of_ble_eq_true rfl) rfl ?_
  intro p e s m args below meth c C hRt hlocks hK
  have C : CallFix p m c cX2_bring 3 s args (wsX2_bring) RX2 := C
  have hT : ∀ w ∈ bigW, w ∈ wsX2_bring := bgT
  have hn := hOK.hn
  have ht := hOK.ht
  refine gx_aload_n C dX2_bring_0 rfl ?_
  refine gx_iload_n C dX2_bring_1 rfl ?_
  refine gx_cVi (n := 1) (q0 := 7) C hK (c_X2_stands (l := l) (D := D) (cI := cI) (cG := cG) (cL := cL) (ad := ad) (n := n) (t := t) (B := B) (u := u) (g := g) hb) yW_fst (bgV hT m172 m173 m174 m4 m175) rfl rfl rfl (by decide +kernel) ⟨Nat.le_of_ble_eq_true rfl, Nat.le_of_ble_eq_true rfl⟩ rfl rfl rfl rfl (Nat.le_of_ble_eq_true rfl) (Nat.zero_le _) (Nat.zero_le _) dX2_bring_2 ?_
  refine gx_if_eq (tgt := 13) C dX2_bring_5 (by decide) (fun c => absurd (ySt_f c) (by rw [e7]; exact y_m1 (by omega))) (fun c_5 => ?_)
  refine gx_aload_n C dX2_bring_8 rfl ?_
  refine gx_iload_n C dX2_bring_9 rfl ?_
  refine gx_cVv (n := 1) (q0 := 7) C hK (c_X2_lift (l := l) (D := D) (cI := cI) (cG := cG) (cL := cL) (ad := ad) (n := n) (t := t) (B := B) (u := u) (g := g) hOK hb hr e7 h0) yW_fst (bgV hT m176 m178 slX2_lift m4 m179) rfl rfl rfl (by decide +kernel) ⟨Nat.le_of_ble_eq_true rfl, Nat.le_of_ble_eq_true rfl⟩ rfl rfl rfl rfl (Nat.le_of_ble_eq_true rfl) (Nat.zero_le _) (Nat.zero_le _) dX2_bring_10 ?_
  refine gx_iload_n C dX2_bring_13 rfl ?_
  refine gx_iconst (v := (-1)) C dX2_bring_14 (by decide) ?_
  refine gx_icmp_eq (tgt := 24) C dX2_bring_15 (by decide) (fun c => absurd c (y_m1 (by omega))) (fun c_15 => ?_)
  refine gx_aload_n C dX2_bring_18 rfl ?_
  refine gx_iload_n C dX2_bring_19 rfl ?_
  refine gx_iload_n C dX2_bring_20 rfl ?_
  refine gx_cVv (n := 2) (q0 := 7) C hK (c_X2_lay (l := l) (D := D) (cI := cI) (cG := cG) (cL := cL) (ad := ad) (n := n) (t := t) (B := B) (u := yLiftU u b r) (g := yLiftG u g r) hn ht hb hr2 h6 h02) yW_fst (bgV hT m180 m182 slX2_lay m4 m183) rfl rfl rfl (by decide +kernel) ⟨Nat.le_of_ble_eq_true rfl, Nat.le_of_ble_eq_true rfl⟩ rfl rfl rfl rfl (Nat.le_of_ble_eq_true rfl) (Nat.zero_le _) (Nat.zero_le _) dX2_bring_21 ?_
  exact gx_vret C hRt hlocks dX2_bring_24 rfl
set_option maxHeartbeats 4000000 in
set_option maxRecDepth 100000 in
theorem c_X3_move_put {l : Launch} {D : va_G} {cI cG cL : ClassId} {ad : Nat → Nat} {n t : Nat} {B : Int32} {u g : Nat → Nat → Int32} {b r mk : Nat} (hOK : yOK n t u g) (hb : b < 60) (hr : r < n) (hs : u 7 b = -1) (h0 : yH u r < t) (hm : mk < 2 ^ 30) (e1 : u 0 1 = nI mk) : gx_M l yX3_move wsX3_move ({ frames := 2, cells := 0, slots := 0, locals := 45 }) D vwCl (gT cI cG cL) [.ref (ad 0), .int (nI b), .int (nI r)] (yW cI cG ad n t B u g) (yW cI cG ad n t B (yLayU (yKeepU u (mk % 100) b (u 7 b)) b r) (yLayG (yKeepU u (mk % 100) b (u 7 b)) g b r)) none := by
  refine gx_ofG (cc := cX3_move) (maxL := 3) (ret := none) [some (.ref (ad 0)), some (.int (nI b)), some (.int (nI r))] (by decide) rfl rfl (Nat.le_of_ble_eq_true rfl) rfl ?_
  intro p e s m args below meth c C hRt hlocks hK
  have C : CallFix p m c cX3_move 3 s args (wsX3_move) RX3 := C
  have hT : ∀ w ∈ bigW, w ∈ wsX3_move := bgT
  have hn := hOK.hn
  have ht := hOK.ht
  refine gx_aload_n C dX3_move_0 rfl ?_
  refine yg_X3_history C hK hT m125 dX3_move_1 ?_
  refine gx_iload_n C dX3_move_4 rfl ?_
  refine gx_aload_n C dX3_move_5 rfl ?_
  refine yg_X3_stacks C hK hT m124 dX3_move_6 ?_
  refine yg_X2_rowOf C hK hT m83 dX3_move_9 ?_
  refine gx_iload_n C dX3_move_12 rfl ?_
  refine yl_7 C hK rfl (by omega) dX3_move_13 ?_
  refine gx_cVv (n := 2) (q0 := 12) C hK (c_X1_keep (l := l) (D := D) (cI := cI) (cG := cG) (cL := cL) (ad := ad) (n := n) (t := t) (B := B) (u := u) (g := g) (b := b) (x := u 7 b) hm e1) yW_fst (bgV hT m369 m370 m371 m6 m372) rfl rfl rfl (by decide +kernel) ⟨Nat.le_of_ble_eq_true rfl, Nat.le_of_ble_eq_true rfl⟩ rfl rfl rfl rfl (Nat.le_of_ble_eq_true rfl) (Nat.zero_le _) (Nat.zero_le _) dX3_move_14 ?_
  refine gx_aload_n C dX3_move_17 rfl ?_
  refine yg_X3_stacks C hK hT m124 dX3_move_18 ?_
  refine gx_iload_n C dX3_move_21 rfl ?_
  refine gx_iload_n C dX3_move_22 rfl ?_
  refine gx_cVv (n := 2) (q0 := 7) C hK (c_X2_bring_lay (l := l) (D := D) (cI := cI) (cG := cG) (cL := cL) (ad := ad) (n := n) (t := t) (B := B) (u := yKeepU u (mk % 100) b (u 7 b)) (g := g) hn ht hb hr hs (hOK.h6 hr) h0) yW_fst (bgV hT m168 m169 m170 m4 m171) rfl rfl rfl (by decide +kernel) ⟨Nat.le_of_ble_eq_true rfl, Nat.le_of_ble_eq_true rfl⟩ rfl rfl rfl rfl (Nat.le_of_ble_eq_true rfl) (Nat.zero_le _) (Nat.zero_le _) dX3_move_23 ?_
  exact gx_vret C hRt hlocks dX3_move_26 rfl
set_option maxHeartbeats 4000000 in
set_option maxRecDepth 100000 in
theorem c_X3_move_take {l : Launch} {D : va_G} {cI cG cL : ClassId} {ad : Nat → Nat} {n t : Nat} {B : Int32} {u g : Nat → Nat → Int32} {b r mk : Nat} (hOK : yOK n t u g) (hb : b < 60) (hr : r < n) (e7 : u 7 b = nI r) (h0 : 0 < yH u r) (hm : mk < 2 ^ 30) (e1 : u 0 1 = nI mk) : gx_M l yX3_move wsX3_move ({ frames := 2, cells := 0, slots := 0, locals := 44 }) D vwCl (gT cI cG cL) [.ref (ad 0), .int (nI b), .int (-1)] (yW cI cG ad n t B u g) (yW cI cG ad n t B (yLiftU (yKeepU u (mk % 100) b (u 7 b)) b r) (yLiftG (yKeepU u (mk % 100) b (u 7 b)) g r)) none := by
  refine gx_ofG (cc := cX3_move) (maxL := 3) (ret := none) [some (.ref (ad 0)), some (.int (nI b)), some (.int (-1))] (by decide) rfl rfl (Nat.le_of_ble_eq_true rfl) rfl ?_
  intro p e s m args below meth c C hRt hlocks hK
  have C : CallFix p m c cX3_move 3 s args (wsX3_move) RX3 := C
  have hT : ∀ w ∈ bigW, w ∈ wsX3_move := bgT
  have hn := hOK.hn
  have ht := hOK.ht
  refine gx_aload_n C dX3_move_0 rfl ?_
  refine yg_X3_history C hK hT m125 dX3_move_1 ?_
  refine gx_iload_n C dX3_move_4 rfl ?_
  refine gx_aload_n C dX3_move_5 rfl ?_
  refine yg_X3_stacks C hK hT m124 dX3_move_6 ?_
  refine yg_X2_rowOf C hK hT m83 dX3_move_9 ?_
  refine gx_iload_n C dX3_move_12 rfl ?_
  refine yl_7 C hK rfl (by omega) dX3_move_13 ?_
  refine gx_cVv (n := 2) (q0 := 12) C hK (c_X1_keep (l := l) (D := D) (cI := cI) (cG := cG) (cL := cL) (ad := ad) (n := n) (t := t) (B := B) (u := u) (g := g) (b := b) (x := u 7 b) hm e1) yW_fst (bgV hT m369 m370 m371 m6 m372) rfl rfl rfl (by decide +kernel) ⟨Nat.le_of_ble_eq_true rfl, Nat.le_of_ble_eq_true rfl⟩ rfl rfl rfl rfl (Nat.le_of_ble_eq_true rfl) (Nat.zero_le _) (Nat.zero_le _) dX3_move_14 ?_
  refine gx_aload_n C dX3_move_17 rfl ?_
  refine yg_X3_stacks C hK hT m124 dX3_move_18 ?_
  refine gx_iload_n C dX3_move_21 rfl ?_
  refine gx_iload_n C dX3_move_22 rfl ?_
  refine gx_cVv (n := 2) (q0 := 7) C hK (c_X2_bring_lift (l := l) (D := D) (cI := cI) (cG := cG) (cL := cL) (ad := ad) (n := n) (t := t) (B := B) (u := yKeepU u (mk % 100) b (u 7 b)) (g := g) (yOK_keep hOK) hb hr e7 h0) yW_fst (bgV hT m168 m169 m170 m4 m171) rfl rfl rfl (by decide +kernel) ⟨Nat.le_of_ble_eq_true rfl, Nat.le_of_ble_eq_true rfl⟩ rfl rfl rfl rfl (Nat.le_of_ble_eq_true rfl) (Nat.zero_le _) (Nat.zero_le _) dX3_move_23 ?_
  exact gx_vret C hRt hlocks dX3_move_26 rfl
set_option maxHeartbeats 4000000 in
set_option maxRecDepth 100000 in
theorem c_X3_move_shift {l : Launch} {D : va_G} {cI cG cL : ClassId} {ad : Nat → Nat} {n t : Nat} {B : Int32} {u g : Nat → Nat → Int32} {b r r2 mk : Nat} (hOK : yOK n t u g) (hb : b < 60) (hr : r < n) (hr2 : r2 < n) (e7 : u 7 b = nI r) (h0 : 0 < yH u r) (hne : r2 ≠ r) (h02 : yH u r2 < t) (hm : mk < 2 ^ 30) (e1 : u 0 1 = nI mk) : gx_M l yX3_move wsX3_move ({ frames := 2, cells := 0, slots := 0, locals := 45 }) D vwCl (gT cI cG cL) [.ref (ad 0), .int (nI b), .int (nI r2)] (yW cI cG ad n t B u g) (yW cI cG ad n t B (yLayU (yLiftU (yKeepU u (mk % 100) b (u 7 b)) b r) b r2) (yLayG (yLiftU (yKeepU u (mk % 100) b (u 7 b)) b r) (yLiftG (yKeepU u (mk % 100) b (u 7 b)) g r) b r2)) none := by
  refine gx_ofG (cc := cX3_move) (maxL := 3) (ret := none) [some (.ref (ad 0)), some (.int (nI b)), some (.int (nI r2))] (by decide) rfl rfl (Nat.le_of_ble_eq_true rfl) rfl ?_
  intro p e s m args below meth c C hRt hlocks hK
  have C : CallFix p m c cX3_move 3 s args (wsX3_move) RX3 := C
  have hT : ∀ w ∈ bigW, w ∈ wsX3_move := bgT
  have hn := hOK.hn
  have ht := hOK.ht
  refine gx_aload_n C dX3_move_0 rfl ?_
  refine yg_X3_history C hK hT m125 dX3_move_1 ?_
  refine gx_iload_n C dX3_move_4 rfl ?_
  refine gx_aload_n C dX3_move_5 rfl ?_
  refine yg_X3_stacks C hK hT m124 dX3_move_6 ?_
  refine yg_X2_rowOf C hK hT m83 dX3_move_9 ?_
  refine gx_iload_n C dX3_move_12 rfl ?_
  refine yl_7 C hK rfl (by omega) dX3_move_13 ?_
  refine gx_cVv (n := 2) (q0 := 12) C hK (c_X1_keep (l := l) (D := D) (cI := cI) (cG := cG) (cL := cL) (ad := ad) (n := n) (t := t) (B := B) (u := u) (g := g) (b := b) (x := u 7 b) hm e1) yW_fst (bgV hT m369 m370 m371 m6 m372) rfl rfl rfl (by decide +kernel) ⟨Nat.le_of_ble_eq_true rfl, Nat.le_of_ble_eq_true rfl⟩ rfl rfl rfl rfl (Nat.le_of_ble_eq_true rfl) (Nat.zero_le _) (Nat.zero_le _) dX3_move_14 ?_
  refine gx_aload_n C dX3_move_17 rfl ?_
  refine yg_X3_stacks C hK hT m124 dX3_move_18 ?_
  refine gx_iload_n C dX3_move_21 rfl ?_
  refine gx_iload_n C dX3_move_22 rfl ?_
  refine gx_cVv (n := 2) (q0 := 7) C hK (c_X2_bring_both (l := l) (D := D) (cI := cI) (cG := cG) (cL := cL) (ad := ad) (n := n) (t := t) (B := B) (u := yKeepU u (mk % 100) b (u 7 b)) (g := g) (yOK_keep hOK) hb hr hr2 e7 h0 (by rw [yH_lift hne, yLift_6 hne]; exact hOK.h6 hr2) (by rw [yH_lift hne]; exact h02)) yW_fst (bgV hT m168 m169 m170 m4 m171) rfl rfl rfl (by decide +kernel) ⟨Nat.le_of_ble_eq_true rfl, Nat.le_of_ble_eq_true rfl⟩ rfl rfl rfl rfl (Nat.le_of_ble_eq_true rfl) (Nat.zero_le _) (Nat.zero_le _) dX3_move_23 ?_
  exact gx_vret C hRt hlocks dX3_move_26 rfl
set_option maxHeartbeats 4000000 in
set_option maxRecDepth 100000 in
theorem c_X3_requireBox {l : Launch} {D : va_G} {cI cG cL : ClassId} {ad : Nat → Nat} {n t : Nat} {B : Int32} {u g : Nat → Nat → Int32} {x : Int32} (hB : yHas u x = true) : gx_M l yX3_requireBox wsX3_requireBox ({ frames := 1, cells := 0, slots := 0, locals := 21 }) D vwCl (gT cI cG cL) [.ref (ad 0), .int x] (yW cI cG ad n t B u g) (yW cI cG ad n t B u g) none := by
  refine gx_ofG (cc := cX3_requireBox) (maxL := 2) (ret := none) [some (.ref (ad 0)), some (.int x)] (by decide) rfl rfl (Nat.le_of_ble_eq_true rfl) rfl ?_
  intro p e s m args below meth c C hRt hlocks hK
  have C : CallFix p m c cX3_requireBox 2 s args (wsX3_requireBox) RX3 := C
  have hT : ∀ w ∈ bigW, w ∈ wsX3_requireBox := bgT
  refine gx_aload_n C dX3_requireBox_0 rfl ?_
  refine yg_X3_boxes C hK hT m123 dX3_requireBox_1 ?_
  refine gx_iload_n C dX3_requireBox_4 rfl ?_
  refine gx_cVi (n := 1) (q0 := 1) C hK (c_X0_has (l := l) (D := D) (cI := cI) (cG := cG) (cL := cL) (ad := ad) (n := n) (t := t) (B := B) (u := u) (g := g) (x := x)) yW_fst (bgV hT m325 m326 m327 m3 m328) rfl rfl rfl (by decide +kernel) ⟨Nat.le_of_ble_eq_true rfl, Nat.le_of_ble_eq_true rfl⟩ rfl rfl rfl rfl (Nat.le_of_ble_eq_true rfl) (Nat.zero_le _) (Nat.zero_le _) dX3_requireBox_5 ?_
  refine gx_if_ne (tgt := 21) C dX3_requireBox_8 (by decide) (fun c_8 => ?_) (fun c => absurd c (by rw [hB]; decide))
  exact gx_vret C hRt hlocks dX3_requireBox_21 rfl
set_option maxHeartbeats 4000000 in
set_option maxRecDepth 100000 in
theorem c_X3_requireRow {l : Launch} {D : va_G} {cI cG cL : ClassId} {ad : Nat → Nat} {n t : Nat} {B : Int32} {u g : Nat → Nat → Int32} {x : Int32} (hB : yRow n x = true) : gx_M l yX3_requireRow wsX3_requireRow ({ frames := 1, cells := 0, slots := 0, locals := 21 }) D vwCl (gT cI cG cL) [.ref (ad 0), .int x] (yW cI cG ad n t B u g) (yW cI cG ad n t B u g) none := by
  refine gx_ofG (cc := cX3_requireRow) (maxL := 2) (ret := none) [some (.ref (ad 0)), some (.int x)] (by decide) rfl rfl (Nat.le_of_ble_eq_true rfl) rfl ?_
  intro p e s m args below meth c C hRt hlocks hK
  have C : CallFix p m c cX3_requireRow 2 s args (wsX3_requireRow) RX3 := C
  have hT : ∀ w ∈ bigW, w ∈ wsX3_requireRow := bgT
  refine gx_aload_n C dX3_requireRow_0 rfl ?_
  refine yg_X3_stacks C hK hT m124 dX3_requireRow_1 ?_
  refine gx_iload_n C dX3_requireRow_4 rfl ?_
  refine gx_cVi (n := 1) (q0 := 7) C hK (c_X2_hasRow (l := l) (D := D) (cI := cI) (cG := cG) (cL := cL) (ad := ad) (n := n) (t := t) (B := B) (u := u) (g := g) (x := x)) yW_fst (bgV hT m145 m146 m147 m4 m148) rfl rfl rfl (by decide +kernel) ⟨Nat.le_of_ble_eq_true rfl, Nat.le_of_ble_eq_true rfl⟩ rfl rfl rfl rfl (Nat.le_of_ble_eq_true rfl) (Nat.zero_le _) (Nat.zero_le _) dX3_requireRow_5 ?_
  refine gx_if_ne (tgt := 21) C dX3_requireRow_8 (by decide) (fun c_8 => ?_) (fun c => absurd c (by rw [hB]; decide))
  exact gx_vret C hRt hlocks dX3_requireRow_21 rfl
set_option maxHeartbeats 4000000 in
set_option maxRecDepth 100000 in
/-- countOfRow -/
theorem c_X3_countOfRow {l : Launch} {D : va_G} {cI cG cL : ClassId} {ad : Nat → Nat} {n t : Nat} {B : Int32} {u g : Nat → Nat → Int32} {x : Int32} (hOK : yOK n t u g) : gx_M l yX3_countOfRow wsX3_countOfRow ({ frames := 1, cells := 0, slots := 0, locals := 23 }) D vwCl (gT cI cG cL) [.ref (ad 0), .int x] (yW cI cG ad n t B u g) (yW cI cG ad n t B u g) (some (.int (yCR n u g x))) := by
  refine gx_ofG (cc := cX3_countOfRow) (maxL := 3) (ret := (some .int)) [some (.ref (ad 0)), some (.int x), none] (by decide) rfl rfl (Nat.le_of_ble_eq_true rfl) rfl ?_
  intro p e s m args below meth c C hRt hlocks hK
  have C : CallFix p m c cX3_countOfRow 3 s args (wsX3_countOfRow) RX3 := C
  have hT : ∀ w ∈ bigW, w ∈ wsX3_countOfRow := bgT
  have hn := hOK.hn
  have ht := hOK.ht
  refine gx_iload_n C dX3_countOfRow_0 rfl ?_
  refine gx_bipush (v := 20) C dX3_countOfRow_1 (by decide) ?_
  refine gx_icmp_lt (tgt := 12) C dX3_countOfRow_3 (by decide) (fun c_3 => ?_) (fun c_3 => ?_)
  · refine gx_iconst (v := (-1)) C dX3_countOfRow_12 (by decide) ?_
    exact gx_iret C hRt hlocks dX3_countOfRow_13 (by rw [yCR, if_pos (Or.inl c_3)]) rfl
  · refine gx_iload_n C dX3_countOfRow_6 rfl ?_
    refine gx_bipush (v := 100) C dX3_countOfRow_7 (by decide) ?_
    refine gx_icmp_lt (tgt := 14) C dX3_countOfRow_9 (by decide) (fun c_9 => ?_) (fun c_9 => ?_)
    · obtain ⟨k, hk1, hk2, ek⟩ := y_20 c_3 c_9
      subst ek
      refine gx_iload_n C dX3_countOfRow_14 rfl ?_
      refine gx_bipush (v := 20) C dX3_countOfRow_15 (by decide) ?_
      refine gx_irem C dX3_countOfRow_17 (by decide) ?_
      rw [show nI k - nI k / 20 * 20 = nI (k % 20) from pk_rem (d := 20) (by omega) (by decide) (by decide)]
      refine gx_istore_n (lv2 := [some _, some _, some _]) C dX3_countOfRow_18 (by decide) rfl ?_
      refine gx_aload_n C dX3_countOfRow_19 rfl ?_
      refine yg_X3_stacks C hK hT m124 dX3_countOfRow_20 ?_
      refine gx_iload_n C dX3_countOfRow_23 rfl ?_
      refine gx_cVi (n := 1) (q0 := 7) C hK (c_X2_hasRow (l := l) (D := D) (cI := cI) (cG := cG) (cL := cL) (ad := ad) (n := n) (t := t) (B := B) (u := u) (g := g) (x := nI (k % 20))) yW_fst (bgV hT m145 m146 m147 m4 m148) rfl rfl rfl (by decide +kernel) ⟨Nat.le_of_ble_eq_true rfl, Nat.le_of_ble_eq_true rfl⟩ rfl rfl rfl rfl (Nat.le_of_ble_eq_true rfl) (Nat.zero_le _) (Nat.zero_le _) dX3_countOfRow_24 ?_
      refine gx_if_ne (tgt := 32) C dX3_countOfRow_27 (by decide) (fun c_27 => ?_) (fun c_27 => ?_)
      · have hr : k % 20 < n := yRow_lt hn (by omega) (bI_t c_27)
        refine gx_iload_n C dX3_countOfRow_32 rfl ?_
        refine gx_bipush (v := 20) C dX3_countOfRow_33 (by decide) ?_
        refine gx_idiv C dX3_countOfRow_35 (by decide) ?_
        rw [show nI k / 20 = nI (k / 20) from pk_div (d := 20) (by omega) (by decide) (by decide)]
        rcases (show k / 20 = 1 ∨ k / 20 = 2 ∨ k / 20 = 3 ∨ k / 20 = 4 by omega) with hd | hd | hd | hd <;> rw [hd]
        · refine gx_tabIn (tgt := 64) C dX3_countOfRow_36 (by decide) (by decide) rfl (by decide) ?_
          refine gx_aload_n C dX3_countOfRow_64 rfl ?_
          refine yg_X3_stacks C hK hT m124 dX3_countOfRow_65 ?_
          refine yg_X2_heights C hK hT m81 dX3_countOfRow_68 ?_
          refine gx_iload_n C dX3_countOfRow_71 rfl ?_
          refine yl_6 C hK rfl (by omega) (by omega) dX3_countOfRow_72 ?_
          exact gx_iret C hRt hlocks dX3_countOfRow_73 (by rw [yCR_some hk1 hk2 hr, hd]; rfl) rfl
        · refine gx_tabIn (tgt := 74) C dX3_countOfRow_36 (by decide) (by decide) rfl (by decide) ?_
          refine gx_aload_n C dX3_countOfRow_74 rfl ?_
          refine gx_iload_n C dX3_countOfRow_75 rfl ?_
          refine gx_cVi (n := 1) (q0 := 0) C hK (c_X3_weightOn (l := l) (D := D) (cI := cI) (cG := cG) (cL := cL) (ad := ad) (n := n) (t := t) (B := B) (u := u) (g := g) hOK hr) yW_fst (bgV hT m209 m211 slX3_weightOn m1 m212) rfl rfl rfl (by decide +kernel) ⟨Nat.le_of_ble_eq_true rfl, Nat.le_of_ble_eq_true rfl⟩ rfl rfl rfl rfl (Nat.le_of_ble_eq_true rfl) (Nat.zero_le _) (Nat.zero_le _) dX3_countOfRow_76 ?_
          exact gx_iret C hRt hlocks dX3_countOfRow_79 (by rw [yCR_some hk1 hk2 hr, hd]; rfl) rfl
        · refine gx_tabIn (tgt := 80) C dX3_countOfRow_36 (by decide) (by decide) rfl (by decide) ?_
          refine gx_aload_n C dX3_countOfRow_80 rfl ?_
          refine yg_X3_grounds C hK hT m126 dX3_countOfRow_81 ?_
          refine gx_iload_n C dX3_countOfRow_84 rfl ?_
          refine yl_11 C hK rfl (by omega) dX3_countOfRow_85 ?_
          exact gx_iret C hRt hlocks dX3_countOfRow_86 (by rw [yCR_some hk1 hk2 hr, hd]; rfl) rfl
        · refine gx_tabOut (tgt := 87) C dX3_countOfRow_36 (Or.inr (by decide)) (by decide) ?_
          refine gx_aload_n C dX3_countOfRow_87 rfl ?_
          refine yg_X3_reservedFor C hK hT m127 dX3_countOfRow_88 ?_
          refine gx_iload_n C dX3_countOfRow_91 rfl ?_
          refine yl_12 C hK rfl (by omega) dX3_countOfRow_92 ?_
          exact gx_iret C hRt hlocks dX3_countOfRow_93 (by rw [yCR_some hk1 hk2 hr, hd]; rfl) rfl
      · refine gx_iconst (v := (-1)) C dX3_countOfRow_30 (by decide) ?_
        exact gx_iret C hRt hlocks dX3_countOfRow_31 (by rw [yCR_none hk1 hk2 (yRow_nlt (by omega) hn (bI_f c_27))]) rfl
    · refine gx_iconst (v := (-1)) C dX3_countOfRow_12 (by decide) ?_
      exact gx_iret C hRt hlocks dX3_countOfRow_13 (by rw [yCR, if_pos (Or.inr (Int32.not_lt.mp c_9))]) rfl

set_option maxHeartbeats 4000000 in
set_option maxRecDepth 100000 in
theorem lp_X3_moveOneAside {l : Launch} {D : va_G} {cI cG cL : ClassId} {ad : Nat → Nat} {n t : Nat} {B : Int32} {u g : Nat → Nat → Int32} {p : Program} {e : Env} {s : State} {m : MethodId} {args : Array Value} {below : List Frame} {meth : Method} {c : Code} {Q : State → Prop} (C : CallFix p m c cX3_moveOneAside 8 s args wsX3_moveOneAside RX3) (hT : ∀ w ∈ bigW, w ∈ wsX3_moveOneAside) (hK : va_K D vwCl (gT cI cG cL) s) (hOK : yOK n t u g) (hk : ∀ (x y z : Int32) (w4 w5 w6 w7 : Option Value), (x, y, z) = yPick n t B u g n → gx_G p l e (headSpec wsX3_moveOneAside ({ frames := 4, cells := 0, slots := 0, locals := 94 })).room s m args below meth c D vwCl (gx_in (yW cI cG ad n t B u g)) 8 0 0 Q (yW cI cG ad n t B u g) 101 [some (.ref (ad 0)), some (.int x), some (.int y), some (.int z), w4, w5, w6, w7] []) : ∀ (d j : Nat) (x y z : Int32) (w5 w6 w7 : Option Value), j + d = n → (x, y, z) = yPick n t B u g j → gx_G p l e (headSpec wsX3_moveOneAside ({ frames := 4, cells := 0, slots := 0, locals := 94 })).room s m args below meth c D vwCl (gx_in (yW cI cG ad n t B u g)) 8 0 0 Q (yW cI cG ad n t B u g) 9 [some (.ref (ad 0)), some (.int x), some (.int y), some (.int z), some (.int (nI j)), w5, w6, w7] [] := by
  intro d
  induction d with
  | zero =>
    intro j x y z w5 w6 w7 hj hx
    have hn := hOK.hn
    have ht := hOK.ht
    refine gx_iload C dX3_moveOneAside_9 rfl ?_
    refine gx_aload_n C dX3_moveOneAside_11 rfl ?_
    refine yg_X3_stacks C hK hT m124 dX3_moveOneAside_12 ?_
    refine yg_X2_rows C hK hT m75 dX3_moveOneAside_15 ?_
    refine gx_icmp_ge (tgt := 101) C dX3_moveOneAside_18 (by decide) (fun c_18 => ?_) (fun c => absurd (nI_le (by omega) (by omega)) c)
    exact hk _ _ _ _ _ _ _ (by have hj9 : j = n := (by omega); rw [hj9] at hx; exact hx)
  | succ d ih =>
    intro j x y z w5 w6 w7 hj hx
    have hn := hOK.hn
    have ht := hOK.ht
    refine gx_iload C dX3_moveOneAside_9 rfl ?_
    refine gx_aload_n C dX3_moveOneAside_11 rfl ?_
    refine yg_X3_stacks C hK hT m124 dX3_moveOneAside_12 ?_
    refine yg_X2_rows C hK hT m75 dX3_moveOneAside_15 ?_
    refine gx_icmp_ge (tgt := 101) C dX3_moveOneAside_18 (by decide) (fun c => absurd c (nI_ge (by omega) (by omega))) (fun c_18 => ?_)
    have hrj : j < n := by omega
    have hhj := hOK.hh hrj
    refine gx_aload_n C dX3_moveOneAside_21 rfl ?_
    refine yg_X3_stacks C hK hT m124 dX3_moveOneAside_22 ?_
    refine gx_iload C dX3_moveOneAside_25 rfl ?_
    refine gx_cVi (n := 1) (q0 := 7) C hK (c_X2_top (l := l) (D := D) (cI := cI) (cG := cG) (cL := cL) (ad := ad) (n := n) (t := t) (B := B) (u := u) (g := g) hOK hrj) yW_fst (bgV hT m358 m359 m360 m4 m361) rfl rfl rfl (by decide +kernel) ⟨Nat.le_of_ble_eq_true rfl, Nat.le_of_ble_eq_true rfl⟩ rfl rfl rfl rfl (Nat.le_of_ble_eq_true rfl) (Nat.zero_le _) (Nat.zero_le _) dX3_moveOneAside_27 ?_
    refine gx_istore (lv2 := [some _, some _, some _, some _, some _, some _, _, _]) C dX3_moveOneAside_30 (by decide) rfl ?_
    refine gx_iload C dX3_moveOneAside_32 rfl ?_
    refine gx_iconst (v := (-1)) C dX3_moveOneAside_34 (by decide) ?_
    refine gx_icmp_ne (tgt := 41) C dX3_moveOneAside_35 (by decide) (fun c_35 => ?_) (fun c_35 => ?_)
    · obtain ⟨h0, hq, eq⟩ := yTop_some hOK hrj c_35
      rw [eq]
      refine gx_aload_n C dX3_moveOneAside_41 rfl ?_
      refine gx_iload C dX3_moveOneAside_42 rfl ?_
      refine gx_iload C dX3_moveOneAside_44 rfl ?_
      refine gx_aload_n C dX3_moveOneAside_46 rfl ?_
      refine yg_X3_stacks C hK hT m124 dX3_moveOneAside_47 ?_
      refine yg_X2_tierOf C hK hT m85 dX3_moveOneAside_50 ?_
      refine gx_iload C dX3_moveOneAside_53 rfl ?_
      refine yl_8 C hK rfl (by omega) dX3_moveOneAside_55 ?_
      rw [hOK.hb8 hrj (show yH u j - 1 < yH u j by omega)]
      refine gx_cVi (n := 3) (q0 := 0) C hK (c_X3_soonerBelow (l := l) (D := D) (cI := cI) (cG := cG) (cL := cL) (ad := ad) (n := n) (t := t) (B := B) (u := u) (g := g) hOK hq hrj (show yH u j - 1 ≤ yH u j by omega)) yW_fst (bgV hT m201 m203 slX3_soonerBelow m1 m204) rfl rfl rfl (by decide +kernel) ⟨Nat.le_of_ble_eq_true rfl, Nat.le_of_ble_eq_true rfl⟩ rfl rfl rfl rfl (Nat.le_of_ble_eq_true rfl) (Nat.zero_le _) (Nat.zero_le _) dX3_moveOneAside_56 ?_
      refine gx_istore (lv2 := [some _, some _, some _, some _, some _, some _, some _, _]) C dX3_moveOneAside_59 (by decide) rfl ?_
      refine gx_iload C dX3_moveOneAside_61 rfl ?_
      refine gx_iload_n C dX3_moveOneAside_63 rfl ?_
      refine gx_icmp_le (tgt := 77) C dX3_moveOneAside_64 (by decide) (fun c_64 => ?_) (fun c_64 => ?_)
      · refine gx_iconst (v := (-1)) C dX3_moveOneAside_77 (by decide) ?_
        refine gx_istore (lv2 := [some _, some _, some _, some _, some _, some _, some _, some _]) C dX3_moveOneAside_78 (by decide) rfl ?_
        refine gx_iload C dX3_moveOneAside_80 rfl ?_
        refine gx_iconst (v := (-1)) C dX3_moveOneAside_82 (by decide) ?_
        refine gx_icmp_eq (tgt := 95) C dX3_moveOneAside_83 (by decide) (fun c_83 => ?_) (fun c => absurd c (by decide))
        refine gx_iincN (lv2 := [some _, some _, some _, some _, some _, some _, some _, some _]) C dX3_moveOneAside_95 rfl (by decide) rfl ?_
        refine gx_goto (tgt := 9) C dX3_moveOneAside_98 (by decide) ?_
        exact ih (j + 1) _ _ _ _ _ _ (by omega) (by rw [yPick]; rw [if_neg c_35, eq, nI_clamp (show yB g j (yH u j - 1) < 2 ^ 31 by omega), ← hx]; exact (if_neg (fun q => q.1 c_64)).symm)
      · refine gx_aload_n C dX3_moveOneAside_67 rfl ?_
        refine gx_iload C dX3_moveOneAside_68 rfl ?_
        refine gx_iconst (v := 1) C dX3_moveOneAside_70 (by decide) ?_
        refine gx_cVi (n := 2) (q0 := 0) C hK (c_X3_bestRow (l := l) (D := D) (cI := cI) (cG := cG) (cL := cL) (ad := ad) (n := n) (t := t) (B := B) (u := u) (g := g) (k := true) hOK hq) yW_fst (bgV hT m407 m409 slX3_bestRow m1 m410) rfl rfl rfl (by decide +kernel) ⟨Nat.le_of_ble_eq_true rfl, Nat.le_of_ble_eq_true rfl⟩ rfl rfl rfl rfl (Nat.le_of_ble_eq_true rfl) (Nat.zero_le _) (Nat.zero_le _) dX3_moveOneAside_71 ?_
        refine gx_goto (tgt := 78) C dX3_moveOneAside_74 (by decide) ?_
        refine gx_istore (lv2 := [some _, some _, some _, some _, some _, some _, some _, some _]) C dX3_moveOneAside_78 (by decide) rfl ?_
        refine gx_iload C dX3_moveOneAside_80 rfl ?_
        refine gx_iconst (v := (-1)) C dX3_moveOneAside_82 (by decide) ?_
        refine gx_icmp_eq (tgt := 95) C dX3_moveOneAside_83 (by decide) (fun c_83 => ?_) (fun c_83 => ?_)
        · refine gx_iincN (lv2 := [some _, some _, some _, some _, some _, some _, some _, some _]) C dX3_moveOneAside_95 rfl (by decide) rfl ?_
          refine gx_goto (tgt := 9) C dX3_moveOneAside_98 (by decide) ?_
          exact ih (j + 1) _ _ _ _ _ _ (by omega) (by rw [yPick]; rw [if_neg c_35, eq, nI_clamp (show yB g j (yH u j - 1) < 2 ^ 31 by omega), ← hx]; exact (if_neg (fun q => q.2 c_83)).symm)
        · refine gx_iload C dX3_moveOneAside_86 rfl ?_
          refine gx_istore_n (lv2 := [some _, some _, some _, some _, some _, some _, some _, some _]) C dX3_moveOneAside_88 (by decide) rfl ?_
          refine gx_iload C dX3_moveOneAside_89 rfl ?_
          refine gx_istore_n (lv2 := [some _, some _, some _, some _, some _, some _, some _, some _]) C dX3_moveOneAside_91 (by decide) rfl ?_
          refine gx_iload C dX3_moveOneAside_92 rfl ?_
          refine gx_istore_n (lv2 := [some _, some _, some _, some _, some _, some _, some _, some _]) C dX3_moveOneAside_94 (by decide) rfl ?_
          refine gx_iincN (lv2 := [some _, some _, some _, some _, some _, some _, some _, some _]) C dX3_moveOneAside_95 rfl (by decide) rfl ?_
          refine gx_goto (tgt := 9) C dX3_moveOneAside_98 (by decide) ?_
          exact ih (j + 1) _ _ _ _ _ _ (by omega) (by rw [yPick]; rw [if_neg c_35, eq, nI_clamp (show yB g j (yH u j - 1) < 2 ^ 31 by omega), ← hx]; exact (if_pos ⟨c_64, c_83⟩).symm)
    · refine gx_goto (tgt := 95) C dX3_moveOneAside_38 (by decide) ?_
      refine gx_iincN (lv2 := [some _, some _, some _, some _, some _, some _, _, _]) C dX3_moveOneAside_95 rfl (by decide) rfl ?_
      refine gx_goto (tgt := 9) C dX3_moveOneAside_98 (by decide) ?_
      exact ih (j + 1) _ _ _ _ _ _ (by omega) (by rw [yPick]; rw [if_pos c_35]; exact hx)
set_option maxHeartbeats 4000000 in
set_option maxRecDepth 100000 in
theorem c_X3_moveOneAside_go {l : Launch} {D : va_G} {cI cG cL : ClassId} {ad : Nat → Nat} {n t : Nat} {B : Int32} {u g : Nat → Nat → Int32} {b r r2 mk : Nat} {z0 : Int32} (hOK : yOK n t u g) (hp : yPick n t B u g n = (nI b, nI r2, z0)) (hb : b < 60) (hr : r < n) (hr2 : r2 < n) (e7 : u 7 b = nI r) (h0 : 0 < yH u r) (hne : r2 ≠ r) (h02 : yH u r2 < t) (hm : mk < 2 ^ 30) (e1 : u 0 1 = nI mk) : gx_M l yX3_moveOneAside wsX3_moveOneAside ({ frames := 4, cells := 0, slots := 0, locals := 94 }) D vwCl (gT cI cG cL) [.ref (ad 0)] (yW cI cG ad n t B u g) (yW cI cG ad n t B (yLayU (yLiftU (yKeepU u (mk % 100) b (u 7 b)) b r) b r2) (yLayG (yLiftU (yKeepU u (mk % 100) b (u 7 b)) b r) (yLiftG (yKeepU u (mk % 100) b (u 7 b)) g r) b r2)) (some (.int 1)) := by
  refine gx_ofG (cc := cX3_moveOneAside) (maxL := 8) (ret := (some .boolean)) [some (.ref (ad 0)), none, none, none, none, none, none, none] (by decide) rfl rfl (Nat.le_of_ble_eq_true rfl) rfl ?_
  intro p e s m args below meth c C hRt hlocks hK
  have C : CallFix p m c cX3_moveOneAside 8 s args (wsX3_moveOneAside) RX3 := C
  have hT : ∀ w ∈ bigW, w ∈ wsX3_moveOneAside := bgT
  refine gx_iconst (v := (-1)) C dX3_moveOneAside_0 (by decide) ?_
  refine gx_istore_n (lv2 := [some _, some _, none, none, none, none, none, none]) C dX3_moveOneAside_1 (by decide) rfl ?_
  refine gx_iconst (v := (-1)) C dX3_moveOneAside_2 (by decide) ?_
  refine gx_istore_n (lv2 := [some _, some _, some _, none, none, none, none, none]) C dX3_moveOneAside_3 (by decide) rfl ?_
  refine gx_iconst (v := 0) C dX3_moveOneAside_4 (by decide) ?_
  refine gx_istore_n (lv2 := [some _, some _, some _, some _, none, none, none, none]) C dX3_moveOneAside_5 (by decide) rfl ?_
  refine gx_iconst (v := 0) C dX3_moveOneAside_6 (by decide) ?_
  refine gx_istore (lv2 := [some _, some _, some _, some _, some _, none, none, none]) C dX3_moveOneAside_7 (by decide) rfl ?_
  refine lp_X3_moveOneAside C hT hK hOK (fun x y z w4 w5 w6 w7 hx => ?_) n 0 _ _ _ _ _ _ (by omega) rfl
  obtain ⟨rfl, rfl, rfl⟩ : x = nI b ∧ y = nI r2 ∧ z = z0 := by rw [hp] at hx; injection hx with h1 h2; injection h2 with h2 h3; exact ⟨h1, h2, h3⟩
  have hn := hOK.hn
  refine gx_iload_n C dX3_moveOneAside_101 rfl ?_
  refine gx_iconst (v := (-1)) C dX3_moveOneAside_102 (by decide) ?_
  refine gx_icmp_ne (tgt := 108) C dX3_moveOneAside_103 (by decide) (fun c_103 => ?_) (fun c => absurd c (y_m1 (by omega)))
  refine gx_aload_n C dX3_moveOneAside_108 rfl ?_
  refine gx_iload_n C dX3_moveOneAside_109 rfl ?_
  refine gx_iload_n C dX3_moveOneAside_110 rfl ?_
  refine gx_cVv (n := 2) (q0 := 0) C hK (c_X3_move_shift (l := l) (D := D) (cI := cI) (cG := cG) (cL := cL) (ad := ad) (n := n) (t := t) (B := B) (u := u) (g := g) hOK hb hr hr2 e7 h0 hne h02 hm e1) yW_fst (bgV hT m365 m367 slX3_move m1 m368) rfl rfl rfl (by decide +kernel) ⟨Nat.le_of_ble_eq_true rfl, Nat.le_of_ble_eq_true rfl⟩ rfl rfl rfl rfl (Nat.le_of_ble_eq_true rfl) (Nat.zero_le _) (Nat.zero_le _) dX3_moveOneAside_111 ?_
  refine gx_iconst (v := 1) C dX3_moveOneAside_114 (by decide) ?_
  exact gx_zret C hRt hlocks dX3_moveOneAside_115 rfl rfl rfl
set_option maxHeartbeats 4000000 in
set_option maxRecDepth 100000 in
theorem c_X3_moveOneAside_no {l : Launch} {D : va_G} {cI cG cL : ClassId} {ad : Nat → Nat} {n t : Nat} {B : Int32} {u g : Nat → Nat → Int32}  (hOK : yOK n t u g) (hp : (yPick n t B u g n).1 = -1) : gx_M l yX3_moveOneAside wsX3_moveOneAside ({ frames := 4, cells := 0, slots := 0, locals := 94 }) D vwCl (gT cI cG cL) [.ref (ad 0)] (yW cI cG ad n t B u g) (yW cI cG ad n t B u g) (some (.int 0)) := by
  refine gx_ofG (cc := cX3_moveOneAside) (maxL := 8) (ret := (some .boolean)) [some (.ref (ad 0)), none, none, none, none, none, none, none] (by decide) rfl rfl (Nat.le_of_ble_eq_true rfl) rfl ?_
  intro p e s m args below meth c C hRt hlocks hK
  have C : CallFix p m c cX3_moveOneAside 8 s args (wsX3_moveOneAside) RX3 := C
  have hT : ∀ w ∈ bigW, w ∈ wsX3_moveOneAside := bgT
  refine gx_iconst (v := (-1)) C dX3_moveOneAside_0 (by decide) ?_
  refine gx_istore_n (lv2 := [some _, some _, none, none, none, none, none, none]) C dX3_moveOneAside_1 (by decide) rfl ?_
  refine gx_iconst (v := (-1)) C dX3_moveOneAside_2 (by decide) ?_
  refine gx_istore_n (lv2 := [some _, some _, some _, none, none, none, none, none]) C dX3_moveOneAside_3 (by decide) rfl ?_
  refine gx_iconst (v := 0) C dX3_moveOneAside_4 (by decide) ?_
  refine gx_istore_n (lv2 := [some _, some _, some _, some _, none, none, none, none]) C dX3_moveOneAside_5 (by decide) rfl ?_
  refine gx_iconst (v := 0) C dX3_moveOneAside_6 (by decide) ?_
  refine gx_istore (lv2 := [some _, some _, some _, some _, some _, none, none, none]) C dX3_moveOneAside_7 (by decide) rfl ?_
  refine lp_X3_moveOneAside C hT hK hOK (fun x y z w4 w5 w6 w7 hx => ?_) n 0 _ _ _ _ _ _ (by omega) rfl
  refine gx_iload_n C dX3_moveOneAside_101 rfl ?_
  refine gx_iconst (v := (-1)) C dX3_moveOneAside_102 (by decide) ?_
  refine gx_icmp_ne (tgt := 108) C dX3_moveOneAside_103 (by decide) (fun c => absurd ((congrArg (fun q => q.1) hx).trans hp) c) (fun c_103 => ?_)
  refine gx_iconst (v := 0) C dX3_moveOneAside_106 (by decide) ?_
  exact gx_zret C hRt hlocks dX3_moveOneAside_107 rfl rfl rfl
set_option maxHeartbeats 4000000 in
set_option maxRecDepth 100000 in
theorem c_X3_box {l : Launch} {D : va_G} {cI cG cL : ClassId} {ad : Nat → Nat} {n t : Nat} {B : Int32} {u g : Nat → Nat → Int32} {x1 x2 x3 x4 x5 : Int32} {T : Nat} (h1 : yIn x1 1 3 = true) (h2 : yIn x2 1 40 = true) (h3 : yIn x3 0 1000 = true) (h4 : yIn x4 1 9 = true) (h5 : yIn x5 0 2 = true) (hT6 : T < 60) (e0 : u 0 0 = nI T) : gx_M l yX3_box wsX3_box ({ frames := 1, cells := 0, slots := 0, locals := 26 }) D vwCl (gT cI cG cL) [.ref (ad 0), .int x1, .int x2, .int x3, .int x4, .int x5] (yW cI cG ad n t B u g) (yW cI cG ad n t B (yTellU u T x1 x2 x3 x4 x5) g) (some (.int (nI T))) := by
  refine gx_ofG (cc := cX3_box) (maxL := 7) (ret := (some .int)) [some (.ref (ad 0)), some (.int x1), some (.int x2), some (.int x3), some (.int x4), some (.int x5), none] (by decide) rfl rfl (Nat.le_of_ble_eq_true rfl) rfl ?_
  intro p e s m args below meth c C hRt hlocks hK
  have C : CallFix p m c cX3_box 7 s args (wsX3_box) RX3 := C
  have hT : ∀ w ∈ bigW, w ∈ wsX3_box := bgT
  refine gx_iload_n C dX3_box_0 rfl ?_
  refine gx_iconst (v := 1) C dX3_box_1 (by decide) ?_
  refine gx_iconst (v := 3) C dX3_box_2 (by decide) ?_
  refine gx_cSi (n := 3) C hK (c_X3_isWithin (l := l) (D := D) (cI := cI) (cG := cG) (cL := cL) (v := x1) (a := 1) (b := 3)) (bgS hT m149 m150 m1 m151) rfl rfl rfl (by decide +kernel) ⟨Nat.le_of_ble_eq_true rfl, Nat.le_of_ble_eq_true rfl⟩ rfl rfl (Nat.le_of_ble_eq_true rfl) (Nat.zero_le _) (Nat.zero_le _) dX3_box_3 ?_
  refine gx_if_eq (tgt := 55) C dX3_box_6 (by decide) (fun c => absurd c (by rw [h1]; decide)) (fun c_6 => ?_)
  refine gx_iload_n C dX3_box_9 rfl ?_
  refine gx_iconst (v := 1) C dX3_box_10 (by decide) ?_
  refine gx_bipush (v := 40) C dX3_box_11 (by decide) ?_
  refine gx_cSi (n := 3) C hK (c_X3_isWithin (l := l) (D := D) (cI := cI) (cG := cG) (cL := cL) (v := x2) (a := 1) (b := 40)) (bgS hT m149 m150 m1 m151) rfl rfl rfl (by decide +kernel) ⟨Nat.le_of_ble_eq_true rfl, Nat.le_of_ble_eq_true rfl⟩ rfl rfl (Nat.le_of_ble_eq_true rfl) (Nat.zero_le _) (Nat.zero_le _) dX3_box_13 ?_
  refine gx_if_eq (tgt := 55) C dX3_box_16 (by decide) (fun c => absurd c (by rw [h2]; decide)) (fun c_16 => ?_)
  refine gx_iload_n C dX3_box_19 rfl ?_
  refine gx_iconst (v := 0) C dX3_box_20 (by decide) ?_
  refine gx_sipush (v := 1000) C dX3_box_21 (by decide) ?_
  refine gx_cSi (n := 3) C hK (c_X3_isWithin (l := l) (D := D) (cI := cI) (cG := cG) (cL := cL) (v := x3) (a := 0) (b := 1000)) (bgS hT m149 m150 m1 m151) rfl rfl rfl (by decide +kernel) ⟨Nat.le_of_ble_eq_true rfl, Nat.le_of_ble_eq_true rfl⟩ rfl rfl (Nat.le_of_ble_eq_true rfl) (Nat.zero_le _) (Nat.zero_le _) dX3_box_24 ?_
  refine gx_if_eq (tgt := 55) C dX3_box_27 (by decide) (fun c => absurd c (by rw [h3]; decide)) (fun c_27 => ?_)
  refine gx_iload C dX3_box_30 rfl ?_
  refine gx_iconst (v := 1) C dX3_box_32 (by decide) ?_
  refine gx_bipush (v := 9) C dX3_box_33 (by decide) ?_
  refine gx_cSi (n := 3) C hK (c_X3_isWithin (l := l) (D := D) (cI := cI) (cG := cG) (cL := cL) (v := x4) (a := 1) (b := 9)) (bgS hT m149 m150 m1 m151) rfl rfl rfl (by decide +kernel) ⟨Nat.le_of_ble_eq_true rfl, Nat.le_of_ble_eq_true rfl⟩ rfl rfl (Nat.le_of_ble_eq_true rfl) (Nat.zero_le _) (Nat.zero_le _) dX3_box_35 ?_
  refine gx_if_eq (tgt := 55) C dX3_box_38 (by decide) (fun c => absurd c (by rw [h4]; decide)) (fun c_38 => ?_)
  refine gx_iload C dX3_box_41 rfl ?_
  refine gx_iconst (v := 0) C dX3_box_43 (by decide) ?_
  refine gx_iconst (v := 2) C dX3_box_44 (by decide) ?_
  refine gx_cSi (n := 3) C hK (c_X3_isWithin (l := l) (D := D) (cI := cI) (cG := cG) (cL := cL) (v := x5) (a := 0) (b := 2)) (bgS hT m149 m150 m1 m151) rfl rfl rfl (by decide +kernel) ⟨Nat.le_of_ble_eq_true rfl, Nat.le_of_ble_eq_true rfl⟩ rfl rfl (Nat.le_of_ble_eq_true rfl) (Nat.zero_le _) (Nat.zero_le _) dX3_box_45 ?_
  refine gx_if_eq (tgt := 55) C dX3_box_48 (by decide) (fun c => absurd c (by rw [h5]; decide)) (fun c_48 => ?_)
  refine gx_iconst (v := 1) C dX3_box_51 (by decide) ?_
  refine gx_goto (tgt := 56) C dX3_box_52 (by decide) ?_
  refine gx_istore (lv2 := [some _, some _, some _, some _, some _, some _, some _]) C dX3_box_56 (by decide) rfl ?_
  refine gx_iload C dX3_box_58 rfl ?_
  refine gx_if_ne (tgt := 73) C dX3_box_60 (by decide) (fun c_60 => ?_) (fun c => absurd c (by decide))
  refine gx_aload_n C dX3_box_73 rfl ?_
  refine yg_X3_boxes C hK hT m123 dX3_box_74 ?_
  refine yg_X0_told C hK hT m48 dX3_box_77 ?_
  refine gx_bipush (v := 60) C dX3_box_80 (by decide) ?_
  rw [e0]
  refine gx_icmp_lt (tgt := 95) C dX3_box_82 (by decide) (fun c_82 => ?_) (fun c => absurd (nI_lt hT6 (by decide)) c)
  refine gx_aload_n C dX3_box_95 rfl ?_
  refine yg_X3_boxes C hK hT m123 dX3_box_96 ?_
  refine gx_iload_n C dX3_box_99 rfl ?_
  refine gx_iload_n C dX3_box_100 rfl ?_
  refine gx_iload_n C dX3_box_101 rfl ?_
  refine gx_iload C dX3_box_102 rfl ?_
  refine gx_iload C dX3_box_104 rfl ?_
  refine gx_cVi (n := 5) (q0 := 1) C hK (c_X0_tell (l := l) (D := D) (cI := cI) (cG := cG) (cL := cL) (ad := ad) (n := n) (t := t) (B := B) (u := u) (g := g) hT6 e0) yW_fst (bgV hT m309 m310 m311 m3 m312) rfl rfl rfl (by decide +kernel) ⟨Nat.le_of_ble_eq_true rfl, Nat.le_of_ble_eq_true rfl⟩ rfl rfl rfl rfl (Nat.le_of_ble_eq_true rfl) (Nat.zero_le _) (Nat.zero_le _) dX3_box_106 ?_
  exact gx_iret C hRt hlocks dX3_box_109 rfl rfl
set_option maxHeartbeats 4000000 in
set_option maxRecDepth 100000 in
theorem c_X3_ground {l : Launch} {D : va_G} {cI cG cL : ClassId} {ad : Nat → Nat} {n t : Nat} {B : Int32} {u g : Nat → Nat → Int32} {r : Nat} {x : Int32} (hn : n ≤ 16) (hr : r < n) (hx : yIn x 0 2 = true) (h6 : u 6 r = 0) : gx_M l yX3_ground wsX3_ground ({ frames := 1, cells := 0, slots := 0, locals := 22 }) D vwCl (gT cI cG cL) [.ref (ad 0), .int (nI r), .int x] (yW cI cG ad n t B u g) (yW cI cG ad n t B (mu u 11 r x) g) (some (.int 1)) := by
  refine gx_ofG (cc := cX3_ground) (maxL := 3) (ret := (some .boolean)) [some (.ref (ad 0)), some (.int (nI r)), some (.int x)] (by decide) rfl rfl (Nat.le_of_ble_eq_true rfl) rfl ?_
  intro p e s m args below meth c C hRt hlocks hK
  have C : CallFix p m c cX3_ground 3 s args (wsX3_ground) RX3 := C
  have hT : ∀ w ∈ bigW, w ∈ wsX3_ground := bgT
  refine gx_aload_n C dX3_ground_0 rfl ?_
  refine yg_X3_stacks C hK hT m124 dX3_ground_1 ?_
  refine gx_iload_n C dX3_ground_4 rfl ?_
  refine gx_cVi (n := 1) (q0 := 7) C hK (c_X2_hasRow (l := l) (D := D) (cI := cI) (cG := cG) (cL := cL) (ad := ad) (n := n) (t := t) (B := B) (u := u) (g := g) (x := nI r)) yW_fst (bgV hT m145 m146 m147 m4 m148) rfl rfl rfl (by decide +kernel) ⟨Nat.le_of_ble_eq_true rfl, Nat.le_of_ble_eq_true rfl⟩ rfl rfl rfl rfl (Nat.le_of_ble_eq_true rfl) (Nat.zero_le _) (Nat.zero_le _) dX3_ground_5 ?_
  refine gx_if_eq (tgt := 32) C dX3_ground_8 (by decide) (fun c => absurd c (by rw [yRow_of hn hr]; decide)) (fun c_8 => ?_)
  refine gx_iload_n C dX3_ground_11 rfl ?_
  refine gx_iconst (v := 0) C dX3_ground_12 (by decide) ?_
  refine gx_iconst (v := 2) C dX3_ground_13 (by decide) ?_
  refine gx_cSi (n := 3) C hK (c_X3_isWithin (l := l) (D := D) (cI := cI) (cG := cG) (cL := cL) (v := x) (a := 0) (b := 2)) (bgS hT m149 m150 m1 m151) rfl rfl rfl (by decide +kernel) ⟨Nat.le_of_ble_eq_true rfl, Nat.le_of_ble_eq_true rfl⟩ rfl rfl (Nat.le_of_ble_eq_true rfl) (Nat.zero_le _) (Nat.zero_le _) dX3_ground_14 ?_
  refine gx_if_eq (tgt := 32) C dX3_ground_17 (by decide) (fun c => absurd c (by rw [hx]; decide)) (fun c_17 => ?_)
  refine gx_aload_n C dX3_ground_20 rfl ?_
  refine yg_X3_stacks C hK hT m124 dX3_ground_21 ?_
  refine yg_X2_heights C hK hT m81 dX3_ground_24 ?_
  refine gx_iload_n C dX3_ground_27 rfl ?_
  refine yl_6 C hK rfl (by omega) (by omega) dX3_ground_28 ?_
  refine gx_if_le (tgt := 34) C dX3_ground_29 (by decide) (fun c_29 => ?_) (fun c => absurd (by rw [h6]; decide) c)
  refine gx_aload_n C dX3_ground_34 rfl ?_
  refine yg_X3_grounds C hK hT m126 dX3_ground_35 ?_
  refine gx_iload_n C dX3_ground_38 rfl ?_
  refine gx_iload_n C dX3_ground_39 rfl ?_
  refine ys_11 C hK rfl (by omega) dX3_ground_40 ?_
  refine gx_iconst (v := 1) C dX3_ground_41 (by decide) ?_
  exact gx_zret C hRt hlocks dX3_ground_42 rfl rfl rfl
set_option maxHeartbeats 4000000 in
set_option maxRecDepth 100000 in
theorem c_X3_ground_no {l : Launch} {D : va_G} {cI cG cL : ClassId} {ad : Nat → Nat} {n t : Nat} {B : Int32} {u g : Nat → Nat → Int32} {x y : Int32} (hOK : yOK n t u g) (hF : ∀ r, r < n → y = nI r → yIn x 0 2 = true → ¬ u 6 r ≤ 0) : gx_M l yX3_ground wsX3_ground ({ frames := 1, cells := 0, slots := 0, locals := 22 }) D vwCl (gT cI cG cL) [.ref (ad 0), .int y, .int x] (yW cI cG ad n t B u g) (yW cI cG ad n t B u g) (some (.int 0)) := by
  refine gx_ofG (cc := cX3_ground) (maxL := 3) (ret := (some .boolean)) [some (.ref (ad 0)), some (.int y), some (.int x)] (by decide) rfl rfl (Nat.le_of_ble_eq_true rfl) rfl ?_
  intro p e s m args below meth c C hRt hlocks hK
  have C : CallFix p m c cX3_ground 3 s args (wsX3_ground) RX3 := C
  have hT : ∀ w ∈ bigW, w ∈ wsX3_ground := bgT
  have hn := hOK.hn
  have ht := hOK.ht
  refine gx_aload_n C dX3_ground_0 rfl ?_
  refine yg_X3_stacks C hK hT m124 dX3_ground_1 ?_
  refine gx_iload_n C dX3_ground_4 rfl ?_
  refine gx_cVi (n := 1) (q0 := 7) C hK (c_X2_hasRow (l := l) (D := D) (cI := cI) (cG := cG) (cL := cL) (ad := ad) (n := n) (t := t) (B := B) (u := u) (g := g) (x := y)) yW_fst (bgV hT m145 m146 m147 m4 m148) rfl rfl rfl (by decide +kernel) ⟨Nat.le_of_ble_eq_true rfl, Nat.le_of_ble_eq_true rfl⟩ rfl rfl rfl rfl (Nat.le_of_ble_eq_true rfl) (Nat.zero_le _) (Nat.zero_le _) dX3_ground_5 ?_
  refine gx_if_eq (tgt := 32) C dX3_ground_8 (by decide) (fun c_8 => ?_) (fun c_8 => ?_)
  · refine gx_iconst (v := 0) C dX3_ground_32 (by decide) ?_
    exact gx_zret C hRt hlocks dX3_ground_33 rfl rfl rfl
  · refine gx_iload_n C dX3_ground_11 rfl ?_
    refine gx_iconst (v := 0) C dX3_ground_12 (by decide) ?_
    refine gx_iconst (v := 2) C dX3_ground_13 (by decide) ?_
    refine gx_cSi (n := 3) C hK (c_X3_isWithin (l := l) (D := D) (cI := cI) (cG := cG) (cL := cL) (v := x) (a := 0) (b := 2)) (bgS hT m149 m150 m1 m151) rfl rfl rfl (by decide +kernel) ⟨Nat.le_of_ble_eq_true rfl, Nat.le_of_ble_eq_true rfl⟩ rfl rfl (Nat.le_of_ble_eq_true rfl) (Nat.zero_le _) (Nat.zero_le _) dX3_ground_14 ?_
    refine gx_if_eq (tgt := 32) C dX3_ground_17 (by decide) (fun c_17 => ?_) (fun c_17 => ?_)
    · refine gx_iconst (v := 0) C dX3_ground_32 (by decide) ?_
      exact gx_zret C hRt hlocks dX3_ground_33 rfl rfl rfl
    · obtain ⟨r, hr, ey⟩ := yRow_ex hn (bI_t c_8)
      subst ey
      refine gx_aload_n C dX3_ground_20 rfl ?_
      refine yg_X3_stacks C hK hT m124 dX3_ground_21 ?_
      refine yg_X2_heights C hK hT m81 dX3_ground_24 ?_
      refine gx_iload_n C dX3_ground_27 rfl ?_
      refine yl_6 C hK rfl (by omega) (by omega) dX3_ground_28 ?_
      refine gx_if_le (tgt := 34) C dX3_ground_29 (by decide) (fun c => absurd c (hF r hr rfl (bI_t c_17))) (fun c_29 => ?_)
      refine gx_iconst (v := 0) C dX3_ground_32 (by decide) ?_
      exact gx_zret C hRt hlocks dX3_ground_33 rfl rfl rfl
set_option maxHeartbeats 4000000 in
set_option maxRecDepth 100000 in
theorem c_X3_reserve {l : Launch} {D : va_G} {cI cG cL : ClassId} {ad : Nat → Nat} {n t : Nat} {B : Int32} {u g : Nat → Nat → Int32} {r : Nat} {x : Int32} (hOK : yOK n t u g) (hr : r < n) (hx : yIn x 0 9 = true) (hs : x = 0 ∨ yOther u g r x = false) : gx_M l yX3_reserve wsX3_reserve ({ frames := 1, cells := 0, slots := 0, locals := 23 }) D vwCl (gT cI cG cL) [.ref (ad 0), .int (nI r), .int x] (yW cI cG ad n t B u g) (yW cI cG ad n t B (mu u 12 r x) g) (some (.int 1)) := by
  refine gx_ofG (cc := cX3_reserve) (maxL := 3) (ret := (some .boolean)) [some (.ref (ad 0)), some (.int (nI r)), some (.int x)] (by decide) rfl rfl (Nat.le_of_ble_eq_true rfl) rfl ?_
  intro p e s m args below meth c C hRt hlocks hK
  have C : CallFix p m c cX3_reserve 3 s args (wsX3_reserve) RX3 := C
  have hT : ∀ w ∈ bigW, w ∈ wsX3_reserve := bgT
  have hn := hOK.hn
  have ht := hOK.ht
  refine gx_aload_n C dX3_reserve_0 rfl ?_
  refine yg_X3_stacks C hK hT m124 dX3_reserve_1 ?_
  refine gx_iload_n C dX3_reserve_4 rfl ?_
  refine gx_cVi (n := 1) (q0 := 7) C hK (c_X2_hasRow (l := l) (D := D) (cI := cI) (cG := cG) (cL := cL) (ad := ad) (n := n) (t := t) (B := B) (u := u) (g := g) (x := nI r)) yW_fst (bgV hT m145 m146 m147 m4 m148) rfl rfl rfl (by decide +kernel) ⟨Nat.le_of_ble_eq_true rfl, Nat.le_of_ble_eq_true rfl⟩ rfl rfl rfl rfl (Nat.le_of_ble_eq_true rfl) (Nat.zero_le _) (Nat.zero_le _) dX3_reserve_5 ?_
  refine gx_if_eq (tgt := 21) C dX3_reserve_8 (by decide) (fun c => absurd c (by rw [yRow_of hn hr]; decide)) (fun c_8 => ?_)
  refine gx_iload_n C dX3_reserve_11 rfl ?_
  refine gx_iconst (v := 0) C dX3_reserve_12 (by decide) ?_
  refine gx_bipush (v := 9) C dX3_reserve_13 (by decide) ?_
  refine gx_cSi (n := 3) C hK (c_X3_isWithin (l := l) (D := D) (cI := cI) (cG := cG) (cL := cL) (v := x) (a := 0) (b := 9)) (bgS hT m149 m150 m1 m151) rfl rfl rfl (by decide +kernel) ⟨Nat.le_of_ble_eq_true rfl, Nat.le_of_ble_eq_true rfl⟩ rfl rfl (Nat.le_of_ble_eq_true rfl) (Nat.zero_le _) (Nat.zero_le _) dX3_reserve_15 ?_
  refine gx_if_ne (tgt := 23) C dX3_reserve_18 (by decide) (fun c_18 => ?_) (fun c => absurd c (by rw [hx]; decide))
  refine gx_iload_n C dX3_reserve_23 rfl ?_
  refine gx_if_eq (tgt := 38) C dX3_reserve_24 (by decide) (fun c_24 => ?_) (fun c_24 => ?_)
  · refine gx_aload_n C dX3_reserve_38 rfl ?_
    refine yg_X3_reservedFor C hK hT m127 dX3_reserve_39 ?_
    refine gx_iload_n C dX3_reserve_42 rfl ?_
    refine gx_iload_n C dX3_reserve_43 rfl ?_
    refine ys_12 C hK rfl (by omega) dX3_reserve_44 ?_
    refine gx_iconst (v := 1) C dX3_reserve_45 (by decide) ?_
    exact gx_zret C hRt hlocks dX3_reserve_46 rfl rfl rfl
  · refine gx_aload_n C dX3_reserve_27 rfl ?_
    refine gx_iload_n C dX3_reserve_28 rfl ?_
    refine gx_iload_n C dX3_reserve_29 rfl ?_
    refine gx_cVi (n := 2) (q0 := 0) C hK (c_X3_hasBoxOfAnotherShip (l := l) (D := D) (cI := cI) (cG := cG) (cL := cL) (ad := ad) (n := n) (t := t) (B := B) (u := u) (g := g) (x := x) hOK hr) yW_fst (bgV hT m156 m158 slX3_hasBoxOfAnotherShip m1 m159) rfl rfl rfl (by decide +kernel) ⟨Nat.le_of_ble_eq_true rfl, Nat.le_of_ble_eq_true rfl⟩ rfl rfl rfl rfl (Nat.le_of_ble_eq_true rfl) (Nat.zero_le _) (Nat.zero_le _) dX3_reserve_30 ?_
    refine gx_if_eq (tgt := 38) C dX3_reserve_33 (by decide) (fun c_33 => ?_) (fun c => absurd (bI_0.mpr (hs.resolve_left c_24)) c)
    refine gx_aload_n C dX3_reserve_38 rfl ?_
    refine yg_X3_reservedFor C hK hT m127 dX3_reserve_39 ?_
    refine gx_iload_n C dX3_reserve_42 rfl ?_
    refine gx_iload_n C dX3_reserve_43 rfl ?_
    refine ys_12 C hK rfl (by omega) dX3_reserve_44 ?_
    refine gx_iconst (v := 1) C dX3_reserve_45 (by decide) ?_
    exact gx_zret C hRt hlocks dX3_reserve_46 rfl rfl rfl
set_option maxHeartbeats 4000000 in
set_option maxRecDepth 100000 in
theorem c_X3_reserve_no {l : Launch} {D : va_G} {cI cG cL : ClassId} {ad : Nat → Nat} {n t : Nat} {B : Int32} {u g : Nat → Nat → Int32} {x y : Int32} (hOK : yOK n t u g) (hF : ∀ r, r < n → y = nI r → yIn x 0 9 = true → ¬ x = 0 ∧ yOther u g r x = true) : gx_M l yX3_reserve wsX3_reserve ({ frames := 1, cells := 0, slots := 0, locals := 23 }) D vwCl (gT cI cG cL) [.ref (ad 0), .int y, .int x] (yW cI cG ad n t B u g) (yW cI cG ad n t B u g) (some (.int 0)) := by
  refine gx_ofG (cc := cX3_reserve) (maxL := 3) (ret := (some .boolean)) [some (.ref (ad 0)), some (.int y), some (.int x)] (by decide) rfl rfl (Nat.le_of_ble_eq_true rfl) rfl ?_
  intro p e s m args below meth c C hRt hlocks hK
  have C : CallFix p m c cX3_reserve 3 s args (wsX3_reserve) RX3 := C
  have hT : ∀ w ∈ bigW, w ∈ wsX3_reserve := bgT
  have hn := hOK.hn
  have ht := hOK.ht
  refine gx_aload_n C dX3_reserve_0 rfl ?_
  refine yg_X3_stacks C hK hT m124 dX3_reserve_1 ?_
  refine gx_iload_n C dX3_reserve_4 rfl ?_
  refine gx_cVi (n := 1) (q0 := 7) C hK (c_X2_hasRow (l := l) (D := D) (cI := cI) (cG := cG) (cL := cL) (ad := ad) (n := n) (t := t) (B := B) (u := u) (g := g) (x := y)) yW_fst (bgV hT m145 m146 m147 m4 m148) rfl rfl rfl (by decide +kernel) ⟨Nat.le_of_ble_eq_true rfl, Nat.le_of_ble_eq_true rfl⟩ rfl rfl rfl rfl (Nat.le_of_ble_eq_true rfl) (Nat.zero_le _) (Nat.zero_le _) dX3_reserve_5 ?_
  refine gx_if_eq (tgt := 21) C dX3_reserve_8 (by decide) (fun c_8 => ?_) (fun c_8 => ?_)
  · refine gx_iconst (v := 0) C dX3_reserve_21 (by decide) ?_
    exact gx_zret C hRt hlocks dX3_reserve_22 rfl rfl rfl
  · refine gx_iload_n C dX3_reserve_11 rfl ?_
    refine gx_iconst (v := 0) C dX3_reserve_12 (by decide) ?_
    refine gx_bipush (v := 9) C dX3_reserve_13 (by decide) ?_
    refine gx_cSi (n := 3) C hK (c_X3_isWithin (l := l) (D := D) (cI := cI) (cG := cG) (cL := cL) (v := x) (a := 0) (b := 9)) (bgS hT m149 m150 m1 m151) rfl rfl rfl (by decide +kernel) ⟨Nat.le_of_ble_eq_true rfl, Nat.le_of_ble_eq_true rfl⟩ rfl rfl (Nat.le_of_ble_eq_true rfl) (Nat.zero_le _) (Nat.zero_le _) dX3_reserve_15 ?_
    refine gx_if_ne (tgt := 23) C dX3_reserve_18 (by decide) (fun c_18 => ?_) (fun c_18 => ?_)
    · obtain ⟨r, hr, ey⟩ := yRow_ex hn (bI_t c_8)
      subst ey
      obtain ⟨hF1, hF2⟩ := hF r hr rfl (bI_t c_18)
      refine gx_iload_n C dX3_reserve_23 rfl ?_
      refine gx_if_eq (tgt := 38) C dX3_reserve_24 (by decide) (fun c => absurd c hF1) (fun c_24 => ?_)
      refine gx_aload_n C dX3_reserve_27 rfl ?_
      refine gx_iload_n C dX3_reserve_28 rfl ?_
      refine gx_iload_n C dX3_reserve_29 rfl ?_
      refine gx_cVi (n := 2) (q0 := 0) C hK (c_X3_hasBoxOfAnotherShip (l := l) (D := D) (cI := cI) (cG := cG) (cL := cL) (ad := ad) (n := n) (t := t) (B := B) (u := u) (g := g) (x := x) hOK hr) yW_fst (bgV hT m156 m158 slX3_hasBoxOfAnotherShip m1 m159) rfl rfl rfl (by decide +kernel) ⟨Nat.le_of_ble_eq_true rfl, Nat.le_of_ble_eq_true rfl⟩ rfl rfl rfl rfl (Nat.le_of_ble_eq_true rfl) (Nat.zero_le _) (Nat.zero_le _) dX3_reserve_30 ?_
      refine gx_if_eq (tgt := 38) C dX3_reserve_33 (by decide) (fun c => absurd c (by rw [hF2]; decide)) (fun c_33 => ?_)
      refine gx_iconst (v := 0) C dX3_reserve_36 (by decide) ?_
      exact gx_zret C hRt hlocks dX3_reserve_37 rfl rfl rfl
    · refine gx_iconst (v := 0) C dX3_reserve_21 (by decide) ?_
      exact gx_zret C hRt hlocks dX3_reserve_22 rfl rfl rfl
set_option maxHeartbeats 4000000 in
set_option maxRecDepth 100000 in
theorem c_X3_put {l : Launch} {D : va_G} {cI cG cL : ClassId} {ad : Nat → Nat} {n t : Nat} {B : Int32} {u g : Nat → Nat → Int32} {b r mk : Nat} (hOK : yOK n t u g) (hb : b < 60) (hB : yHas u (nI b) = true) (hr : r < n) (hs : u 7 b = -1) (hz : yPutR t B u g b r = 0) (h0 : yH u r < t) (hm : mk < 2 ^ 30) (e1 : u 0 1 = nI mk) : gx_M l yX3_put wsX3_put ({ frames := 3, cells := 0, slots := 0, locals := 68 }) D vwCl (gT cI cG cL) [.ref (ad 0), .int (nI b), .int (nI r)] (yW cI cG ad n t B u g) (yW cI cG ad n t B (yLayU (yKeepU u (mk % 100) b (u 7 b)) b r) (yLayG (yKeepU u (mk % 100) b (u 7 b)) g b r)) (some (.int 1)) := by
  refine gx_ofG (cc := cX3_put) (maxL := 4) (ret := (some .int)) [some (.ref (ad 0)), some (.int (nI b)), some (.int (nI r)), none] (by decide) rfl rfl (Nat.le_of_ble_eq_true rfl) rfl ?_
  intro p e s m args below meth c C hRt hlocks hK
  have C : CallFix p m c cX3_put 4 s args (wsX3_put) RX3 := C
  have hT : ∀ w ∈ bigW, w ∈ wsX3_put := bgT
  have hn := hOK.hn
  have ht := hOK.ht
  refine gx_aload_n C dX3_put_0 rfl ?_
  refine gx_iload_n C dX3_put_1 rfl ?_
  refine gx_cVv (n := 1) (q0 := 0) C hK (c_X3_requireBox (l := l) (D := D) (cI := cI) (cG := cG) (cL := cL) (ad := ad) (n := n) (t := t) (B := B) (u := u) (g := g) (x := nI b) hB) yW_fst (bgV hT m321 m323 slX3_requireBox m1 m324) rfl rfl rfl (by decide +kernel) ⟨Nat.le_of_ble_eq_true rfl, Nat.le_of_ble_eq_true rfl⟩ rfl rfl rfl rfl (Nat.le_of_ble_eq_true rfl) (Nat.zero_le _) (Nat.zero_le _) dX3_put_2 ?_
  refine gx_aload_n C dX3_put_5 rfl ?_
  refine gx_iload_n C dX3_put_6 rfl ?_
  refine gx_cVv (n := 1) (q0 := 0) C hK (c_X3_requireRow (l := l) (D := D) (cI := cI) (cG := cG) (cL := cL) (ad := ad) (n := n) (t := t) (B := B) (u := u) (g := g) (x := nI r) (yRow_of hn hr)) yW_fst (bgV hT m345 m347 slX3_requireRow m1 m348) rfl rfl rfl (by decide +kernel) ⟨Nat.le_of_ble_eq_true rfl, Nat.le_of_ble_eq_true rfl⟩ rfl rfl rfl rfl (Nat.le_of_ble_eq_true rfl) (Nat.zero_le _) (Nat.zero_le _) dX3_put_7 ?_
  refine gx_aload_n C dX3_put_10 rfl ?_
  refine gx_iload_n C dX3_put_11 rfl ?_
  refine gx_iload_n C dX3_put_12 rfl ?_
  refine gx_cVi (n := 2) (q0 := 0) C hK (c_X3_ruleBrokenByPut (l := l) (D := D) (cI := cI) (cG := cG) (cL := cL) (ad := ad) (n := n) (t := t) (B := B) (u := u) (g := g) hOK hb hr) yW_fst (bgV hT m350 m352 slX3_ruleBrokenByPut m1 m353) rfl rfl rfl (by decide +kernel) ⟨Nat.le_of_ble_eq_true rfl, Nat.le_of_ble_eq_true rfl⟩ rfl rfl rfl rfl (Nat.le_of_ble_eq_true rfl) (Nat.zero_le _) (Nat.zero_le _) dX3_put_13 ?_
  refine gx_istore_n (lv2 := [some _, some _, some _, some _]) C dX3_put_16 (by decide) rfl ?_
  refine gx_iload_n C dX3_put_17 rfl ?_
  refine gx_if_eq (tgt := 24) C dX3_put_18 (by decide) (fun c_18 => ?_) (fun c => absurd hz c)
  refine gx_aload_n C dX3_put_24 rfl ?_
  refine gx_iload_n C dX3_put_25 rfl ?_
  refine gx_iload_n C dX3_put_26 rfl ?_
  refine gx_cVv (n := 2) (q0 := 0) C hK (c_X3_move_put (l := l) (D := D) (cI := cI) (cG := cG) (cL := cL) (ad := ad) (n := n) (t := t) (B := B) (u := u) (g := g) hOK hb hr hs h0 hm e1) yW_fst (bgV hT m365 m367 slX3_move m1 m368) rfl rfl rfl (by decide +kernel) ⟨Nat.le_of_ble_eq_true rfl, Nat.le_of_ble_eq_true rfl⟩ rfl rfl rfl rfl (Nat.le_of_ble_eq_true rfl) (Nat.zero_le _) (Nat.zero_le _) dX3_put_27 ?_
  refine gx_iconst (v := 1) C dX3_put_30 (by decide) ?_
  exact gx_iret C hRt hlocks dX3_put_31 rfl rfl
set_option maxHeartbeats 4000000 in
set_option maxRecDepth 100000 in
theorem c_X3_put_no {l : Launch} {D : va_G} {cI cG cL : ClassId} {ad : Nat → Nat} {n t : Nat} {B : Int32} {u g : Nat → Nat → Int32} {b r : Nat} (hOK : yOK n t u g) (hb : b < 60) (hB : yHas u (nI b) = true) (hr : r < n) (hz : ¬ yPutR t B u g b r = 0) : gx_M l yX3_put wsX3_put ({ frames := 3, cells := 0, slots := 0, locals := 68 }) D vwCl (gT cI cG cL) [.ref (ad 0), .int (nI b), .int (nI r)] (yW cI cG ad n t B u g) (yW cI cG ad n t B u g) (some (.int (-yPutR t B u g b r))) := by
  refine gx_ofG (cc := cX3_put) (maxL := 4) (ret := (some .int)) [some (.ref (ad 0)), some (.int (nI b)), some (.int (nI r)), none] (by decide) rfl rfl (Nat.le_of_ble_eq_true rfl) rfl ?_
  intro p e s m args below meth c C hRt hlocks hK
  have C : CallFix p m c cX3_put 4 s args (wsX3_put) RX3 := C
  have hT : ∀ w ∈ bigW, w ∈ wsX3_put := bgT
  have hn := hOK.hn
  have ht := hOK.ht
  refine gx_aload_n C dX3_put_0 rfl ?_
  refine gx_iload_n C dX3_put_1 rfl ?_
  refine gx_cVv (n := 1) (q0 := 0) C hK (c_X3_requireBox (l := l) (D := D) (cI := cI) (cG := cG) (cL := cL) (ad := ad) (n := n) (t := t) (B := B) (u := u) (g := g) (x := nI b) hB) yW_fst (bgV hT m321 m323 slX3_requireBox m1 m324) rfl rfl rfl (by decide +kernel) ⟨Nat.le_of_ble_eq_true rfl, Nat.le_of_ble_eq_true rfl⟩ rfl rfl rfl rfl (Nat.le_of_ble_eq_true rfl) (Nat.zero_le _) (Nat.zero_le _) dX3_put_2 ?_
  refine gx_aload_n C dX3_put_5 rfl ?_
  refine gx_iload_n C dX3_put_6 rfl ?_
  refine gx_cVv (n := 1) (q0 := 0) C hK (c_X3_requireRow (l := l) (D := D) (cI := cI) (cG := cG) (cL := cL) (ad := ad) (n := n) (t := t) (B := B) (u := u) (g := g) (x := nI r) (yRow_of hn hr)) yW_fst (bgV hT m345 m347 slX3_requireRow m1 m348) rfl rfl rfl (by decide +kernel) ⟨Nat.le_of_ble_eq_true rfl, Nat.le_of_ble_eq_true rfl⟩ rfl rfl rfl rfl (Nat.le_of_ble_eq_true rfl) (Nat.zero_le _) (Nat.zero_le _) dX3_put_7 ?_
  refine gx_aload_n C dX3_put_10 rfl ?_
  refine gx_iload_n C dX3_put_11 rfl ?_
  refine gx_iload_n C dX3_put_12 rfl ?_
  refine gx_cVi (n := 2) (q0 := 0) C hK (c_X3_ruleBrokenByPut (l := l) (D := D) (cI := cI) (cG := cG) (cL := cL) (ad := ad) (n := n) (t := t) (B := B) (u := u) (g := g) hOK hb hr) yW_fst (bgV hT m350 m352 slX3_ruleBrokenByPut m1 m353) rfl rfl rfl (by decide +kernel) ⟨Nat.le_of_ble_eq_true rfl, Nat.le_of_ble_eq_true rfl⟩ rfl rfl rfl rfl (Nat.le_of_ble_eq_true rfl) (Nat.zero_le _) (Nat.zero_le _) dX3_put_13 ?_
  refine gx_istore_n (lv2 := [some _, some _, some _, some _]) C dX3_put_16 (by decide) rfl ?_
  refine gx_iload_n C dX3_put_17 rfl ?_
  refine gx_if_eq (tgt := 24) C dX3_put_18 (by decide) (fun c => absurd c hz) (fun c_18 => ?_)
  refine gx_iload_n C dX3_put_21 rfl ?_
  refine gx_ineg C dX3_put_22 ?_
  exact gx_iret C hRt hlocks dX3_put_23 rfl rfl
set_option maxHeartbeats 4000000 in
set_option maxRecDepth 100000 in
theorem c_X3_take {l : Launch} {D : va_G} {cI cG cL : ClassId} {ad : Nat → Nat} {n t : Nat} {B : Int32} {u g : Nat → Nat → Int32} {b r mk : Nat} (hOK : yOK n t u g) (hb : b < 60) (hB : yHas u (nI b) = true) (ho : yOn u b = true) (hr : r < n) (e7 : u 7 b = nI r) (h0 : 0 < yH u r) (hm : mk < 2 ^ 30) (e1 : u 0 1 = nI mk) : gx_M l yX3_take wsX3_take ({ frames := 3, cells := 0, slots := 0, locals := 66 }) D vwCl (gT cI cG cL) [.ref (ad 0), .int (nI b)] (yW cI cG ad n t B u g) (yW cI cG ad n t B (yLiftU (yKeepU u (mk % 100) b (u 7 b)) b r) (yLiftG (yKeepU u (mk % 100) b (u 7 b)) g r)) (some (.int 1)) := by
  refine gx_ofG (cc := cX3_take) (maxL := 2) (ret := (some .int)) [some (.ref (ad 0)), some (.int (nI b))] (by decide) rfl rfl (Nat.le_of_ble_eq_true rfl) rfl ?_
  intro p e s m args below meth c C hRt hlocks hK
  have C : CallFix p m c cX3_take 2 s args (wsX3_take) RX3 := C
  have hT : ∀ w ∈ bigW, w ∈ wsX3_take := bgT
  refine gx_aload_n C dX3_take_0 rfl ?_
  refine gx_iload_n C dX3_take_1 rfl ?_
  refine gx_cVv (n := 1) (q0 := 0) C hK (c_X3_requireBox (l := l) (D := D) (cI := cI) (cG := cG) (cL := cL) (ad := ad) (n := n) (t := t) (B := B) (u := u) (g := g) (x := nI b) hB) yW_fst (bgV hT m321 m323 slX3_requireBox m1 m324) rfl rfl rfl (by decide +kernel) ⟨Nat.le_of_ble_eq_true rfl, Nat.le_of_ble_eq_true rfl⟩ rfl rfl rfl rfl (Nat.le_of_ble_eq_true rfl) (Nat.zero_le _) (Nat.zero_le _) dX3_take_2 ?_
  refine gx_aload_n C dX3_take_5 rfl ?_
  refine yg_X3_stacks C hK hT m124 dX3_take_6 ?_
  refine gx_iload_n C dX3_take_9 rfl ?_
  refine gx_cVi (n := 1) (q0 := 7) C hK (c_X2_isOnTop (l := l) (D := D) (cI := cI) (cG := cG) (cL := cL) (ad := ad) (n := n) (t := t) (B := B) (u := u) (g := g) hOK hb) yW_fst (bgV hT m381 m382 m383 m4 m384) rfl rfl rfl (by decide +kernel) ⟨Nat.le_of_ble_eq_true rfl, Nat.le_of_ble_eq_true rfl⟩ rfl rfl rfl rfl (Nat.le_of_ble_eq_true rfl) (Nat.zero_le _) (Nat.zero_le _) dX3_take_10 ?_
  refine gx_if_ne (tgt := 18) C dX3_take_13 (by decide) (fun c_13 => ?_) (fun c => absurd c (by rw [ho]; decide))
  refine gx_aload_n C dX3_take_18 rfl ?_
  refine gx_iload_n C dX3_take_19 rfl ?_
  refine gx_iconst (v := (-1)) C dX3_take_20 (by decide) ?_
  refine gx_cVv (n := 2) (q0 := 0) C hK (c_X3_move_take (l := l) (D := D) (cI := cI) (cG := cG) (cL := cL) (ad := ad) (n := n) (t := t) (B := B) (u := u) (g := g) hOK hb hr e7 h0 hm e1) yW_fst (bgV hT m365 m367 slX3_move m1 m368) rfl rfl rfl (by decide +kernel) ⟨Nat.le_of_ble_eq_true rfl, Nat.le_of_ble_eq_true rfl⟩ rfl rfl rfl rfl (Nat.le_of_ble_eq_true rfl) (Nat.zero_le _) (Nat.zero_le _) dX3_take_21 ?_
  refine gx_iconst (v := 1) C dX3_take_24 (by decide) ?_
  exact gx_iret C hRt hlocks dX3_take_25 rfl rfl
set_option maxHeartbeats 4000000 in
set_option maxRecDepth 100000 in
theorem c_X3_take_no {l : Launch} {D : va_G} {cI cG cL : ClassId} {ad : Nat → Nat} {n t : Nat} {B : Int32} {u g : Nat → Nat → Int32} {b : Nat} (hOK : yOK n t u g) (hb : b < 60) (hB : yHas u (nI b) = true) (ho : yOn u b = false) : gx_M l yX3_take wsX3_take ({ frames := 3, cells := 0, slots := 0, locals := 63 }) D vwCl (gT cI cG cL) [.ref (ad 0), .int (nI b)] (yW cI cG ad n t B u g) (yW cI cG ad n t B u g) (some (.int 0)) := by
  refine gx_ofG (cc := cX3_take) (maxL := 2) (ret := (some .int)) [some (.ref (ad 0)), some (.int (nI b))] (by decide) rfl rfl (Nat.le_of_ble_eq_true rfl) rfl ?_
  intro p e s m args below meth c C hRt hlocks hK
  have C : CallFix p m c cX3_take 2 s args (wsX3_take) RX3 := C
  have hT : ∀ w ∈ bigW, w ∈ wsX3_take := bgT
  refine gx_aload_n C dX3_take_0 rfl ?_
  refine gx_iload_n C dX3_take_1 rfl ?_
  refine gx_cVv (n := 1) (q0 := 0) C hK (c_X3_requireBox (l := l) (D := D) (cI := cI) (cG := cG) (cL := cL) (ad := ad) (n := n) (t := t) (B := B) (u := u) (g := g) (x := nI b) hB) yW_fst (bgV hT m321 m323 slX3_requireBox m1 m324) rfl rfl rfl (by decide +kernel) ⟨Nat.le_of_ble_eq_true rfl, Nat.le_of_ble_eq_true rfl⟩ rfl rfl rfl rfl (Nat.le_of_ble_eq_true rfl) (Nat.zero_le _) (Nat.zero_le _) dX3_take_2 ?_
  refine gx_aload_n C dX3_take_5 rfl ?_
  refine yg_X3_stacks C hK hT m124 dX3_take_6 ?_
  refine gx_iload_n C dX3_take_9 rfl ?_
  refine gx_cVi (n := 1) (q0 := 7) C hK (c_X2_isOnTop (l := l) (D := D) (cI := cI) (cG := cG) (cL := cL) (ad := ad) (n := n) (t := t) (B := B) (u := u) (g := g) hOK hb) yW_fst (bgV hT m381 m382 m383 m4 m384) rfl rfl rfl (by decide +kernel) ⟨Nat.le_of_ble_eq_true rfl, Nat.le_of_ble_eq_true rfl⟩ rfl rfl rfl rfl (Nat.le_of_ble_eq_true rfl) (Nat.zero_le _) (Nat.zero_le _) dX3_take_10 ?_
  refine gx_if_ne (tgt := 18) C dX3_take_13 (by decide) (fun c => absurd (bI_0.mpr ho) c) (fun c_13 => ?_)
  refine gx_iconst (v := 0) C dX3_take_16 (by decide) ?_
  exact gx_iret C hRt hlocks dX3_take_17 rfl rfl
set_option maxHeartbeats 4000000 in
set_option maxRecDepth 100000 in
theorem c_X3_shift {l : Launch} {D : va_G} {cI cG cL : ClassId} {ad : Nat → Nat} {n t : Nat} {B : Int32} {u g : Nat → Nat → Int32} {b r r2 mk : Nat} (hOK : yOK n t u g) (hb : b < 60) (hB : yHas u (nI b) = true) (ho : yOn u b = true) (hr : r < n) (hr2 : r2 < n) (e7 : u 7 b = nI r) (h0 : 0 < yH u r) (hne : r2 ≠ r) (h02 : yH u r2 < t) (hz : yShR t B u g b r2 = 0) (hm : mk < 2 ^ 30) (e1 : u 0 1 = nI mk) : gx_M l yX3_shift wsX3_shift ({ frames := 3, cells := 0, slots := 0, locals := 68 }) D vwCl (gT cI cG cL) [.ref (ad 0), .int (nI b), .int (nI r2)] (yW cI cG ad n t B u g) (yW cI cG ad n t B (yLayU (yLiftU (yKeepU u (mk % 100) b (u 7 b)) b r) b r2) (yLayG (yLiftU (yKeepU u (mk % 100) b (u 7 b)) b r) (yLiftG (yKeepU u (mk % 100) b (u 7 b)) g r) b r2)) (some (.int 1)) := by
  refine gx_ofG (cc := cX3_shift) (maxL := 4) (ret := (some .int)) [some (.ref (ad 0)), some (.int (nI b)), some (.int (nI r2)), none] (by decide) rfl rfl (Nat.le_of_ble_eq_true rfl) rfl ?_
  intro p e s m args below meth c C hRt hlocks hK
  have C : CallFix p m c cX3_shift 4 s args (wsX3_shift) RX3 := C
  have hT : ∀ w ∈ bigW, w ∈ wsX3_shift := bgT
  have hn := hOK.hn
  have ht := hOK.ht
  refine gx_aload_n C dX3_shift_0 rfl ?_
  refine gx_iload_n C dX3_shift_1 rfl ?_
  refine gx_cVv (n := 1) (q0 := 0) C hK (c_X3_requireBox (l := l) (D := D) (cI := cI) (cG := cG) (cL := cL) (ad := ad) (n := n) (t := t) (B := B) (u := u) (g := g) (x := nI b) hB) yW_fst (bgV hT m321 m323 slX3_requireBox m1 m324) rfl rfl rfl (by decide +kernel) ⟨Nat.le_of_ble_eq_true rfl, Nat.le_of_ble_eq_true rfl⟩ rfl rfl rfl rfl (Nat.le_of_ble_eq_true rfl) (Nat.zero_le _) (Nat.zero_le _) dX3_shift_2 ?_
  refine gx_aload_n C dX3_shift_5 rfl ?_
  refine gx_iload_n C dX3_shift_6 rfl ?_
  refine gx_cVv (n := 1) (q0 := 0) C hK (c_X3_requireRow (l := l) (D := D) (cI := cI) (cG := cG) (cL := cL) (ad := ad) (n := n) (t := t) (B := B) (u := u) (g := g) (x := nI r2) (yRow_of hn hr2)) yW_fst (bgV hT m345 m347 slX3_requireRow m1 m348) rfl rfl rfl (by decide +kernel) ⟨Nat.le_of_ble_eq_true rfl, Nat.le_of_ble_eq_true rfl⟩ rfl rfl rfl rfl (Nat.le_of_ble_eq_true rfl) (Nat.zero_le _) (Nat.zero_le _) dX3_shift_7 ?_
  refine gx_aload_n C dX3_shift_10 rfl ?_
  refine yg_X3_stacks C hK hT m124 dX3_shift_11 ?_
  refine gx_iload_n C dX3_shift_14 rfl ?_
  refine gx_cVi (n := 1) (q0 := 7) C hK (c_X2_isOnTop (l := l) (D := D) (cI := cI) (cG := cG) (cL := cL) (ad := ad) (n := n) (t := t) (B := B) (u := u) (g := g) hOK hb) yW_fst (bgV hT m381 m382 m383 m4 m384) rfl rfl rfl (by decide +kernel) ⟨Nat.le_of_ble_eq_true rfl, Nat.le_of_ble_eq_true rfl⟩ rfl rfl rfl rfl (Nat.le_of_ble_eq_true rfl) (Nat.zero_le _) (Nat.zero_le _) dX3_shift_15 ?_
  refine gx_if_ne (tgt := 23) C dX3_shift_18 (by decide) (fun c_18 => ?_) (fun c => absurd c (by rw [ho]; decide))
  refine gx_aload_n C dX3_shift_23 rfl ?_
  refine gx_iload_n C dX3_shift_24 rfl ?_
  refine gx_iload_n C dX3_shift_25 rfl ?_
  refine gx_cVi (n := 2) (q0 := 0) C hK (c_X3_ruleBrokenByShift (l := l) (D := D) (cI := cI) (cG := cG) (cL := cL) (ad := ad) (n := n) (t := t) (B := B) (u := u) (g := g) hOK hb hr2) yW_fst (bgV hT m396 m398 slX3_ruleBrokenByShift m1 m399) rfl rfl rfl (by decide +kernel) ⟨Nat.le_of_ble_eq_true rfl, Nat.le_of_ble_eq_true rfl⟩ rfl rfl rfl rfl (Nat.le_of_ble_eq_true rfl) (Nat.zero_le _) (Nat.zero_le _) dX3_shift_26 ?_
  refine gx_istore_n (lv2 := [some _, some _, some _, some _]) C dX3_shift_29 (by decide) rfl ?_
  refine gx_iload_n C dX3_shift_30 rfl ?_
  refine gx_if_eq (tgt := 37) C dX3_shift_31 (by decide) (fun c_31 => ?_) (fun c => absurd hz c)
  refine gx_aload_n C dX3_shift_37 rfl ?_
  refine gx_iload_n C dX3_shift_38 rfl ?_
  refine gx_iload_n C dX3_shift_39 rfl ?_
  refine gx_cVv (n := 2) (q0 := 0) C hK (c_X3_move_shift (l := l) (D := D) (cI := cI) (cG := cG) (cL := cL) (ad := ad) (n := n) (t := t) (B := B) (u := u) (g := g) hOK hb hr hr2 e7 h0 hne h02 hm e1) yW_fst (bgV hT m365 m367 slX3_move m1 m368) rfl rfl rfl (by decide +kernel) ⟨Nat.le_of_ble_eq_true rfl, Nat.le_of_ble_eq_true rfl⟩ rfl rfl rfl rfl (Nat.le_of_ble_eq_true rfl) (Nat.zero_le _) (Nat.zero_le _) dX3_shift_40 ?_
  refine gx_iconst (v := 1) C dX3_shift_43 (by decide) ?_
  exact gx_iret C hRt hlocks dX3_shift_44 rfl rfl
set_option maxHeartbeats 4000000 in
set_option maxRecDepth 100000 in
theorem c_X3_shift_no {l : Launch} {D : va_G} {cI cG cL : ClassId} {ad : Nat → Nat} {n t : Nat} {B : Int32} {u g : Nat → Nat → Int32} {b r2 : Nat} (hOK : yOK n t u g) (hb : b < 60) (hB : yHas u (nI b) = true) (ho : yOn u b = true) (hr2 : r2 < n) (hz : ¬ yShR t B u g b r2 = 0) : gx_M l yX3_shift wsX3_shift ({ frames := 3, cells := 0, slots := 0, locals := 68 }) D vwCl (gT cI cG cL) [.ref (ad 0), .int (nI b), .int (nI r2)] (yW cI cG ad n t B u g) (yW cI cG ad n t B u g) (some (.int (-yShR t B u g b r2))) := by
  refine gx_ofG (cc := cX3_shift) (maxL := 4) (ret := (some .int)) [some (.ref (ad 0)), some (.int (nI b)), some (.int (nI r2)), none] (by decide) rfl rfl (Nat.le_of_ble_eq_true rfl) rfl ?_
  intro p e s m args below meth c C hRt hlocks hK
  have C : CallFix p m c cX3_shift 4 s args (wsX3_shift) RX3 := C
  have hT : ∀ w ∈ bigW, w ∈ wsX3_shift := bgT
  have hn := hOK.hn
  have ht := hOK.ht
  refine gx_aload_n C dX3_shift_0 rfl ?_
  refine gx_iload_n C dX3_shift_1 rfl ?_
  refine gx_cVv (n := 1) (q0 := 0) C hK (c_X3_requireBox (l := l) (D := D) (cI := cI) (cG := cG) (cL := cL) (ad := ad) (n := n) (t := t) (B := B) (u := u) (g := g) (x := nI b) hB) yW_fst (bgV hT m321 m323 slX3_requireBox m1 m324) rfl rfl rfl (by decide +kernel) ⟨Nat.le_of_ble_eq_true rfl, Nat.le_of_ble_eq_true rfl⟩ rfl rfl rfl rfl (Nat.le_of_ble_eq_true rfl) (Nat.zero_le _) (Nat.zero_le _) dX3_shift_2 ?_
  refine gx_aload_n C dX3_shift_5 rfl ?_
  refine gx_iload_n C dX3_shift_6 rfl ?_
  refine gx_cVv (n := 1) (q0 := 0) C hK (c_X3_requireRow (l := l) (D := D) (cI := cI) (cG := cG) (cL := cL) (ad := ad) (n := n) (t := t) (B := B) (u := u) (g := g) (x := nI r2) (yRow_of hn hr2)) yW_fst (bgV hT m345 m347 slX3_requireRow m1 m348) rfl rfl rfl (by decide +kernel) ⟨Nat.le_of_ble_eq_true rfl, Nat.le_of_ble_eq_true rfl⟩ rfl rfl rfl rfl (Nat.le_of_ble_eq_true rfl) (Nat.zero_le _) (Nat.zero_le _) dX3_shift_7 ?_
  refine gx_aload_n C dX3_shift_10 rfl ?_
  refine yg_X3_stacks C hK hT m124 dX3_shift_11 ?_
  refine gx_iload_n C dX3_shift_14 rfl ?_
  refine gx_cVi (n := 1) (q0 := 7) C hK (c_X2_isOnTop (l := l) (D := D) (cI := cI) (cG := cG) (cL := cL) (ad := ad) (n := n) (t := t) (B := B) (u := u) (g := g) hOK hb) yW_fst (bgV hT m381 m382 m383 m4 m384) rfl rfl rfl (by decide +kernel) ⟨Nat.le_of_ble_eq_true rfl, Nat.le_of_ble_eq_true rfl⟩ rfl rfl rfl rfl (Nat.le_of_ble_eq_true rfl) (Nat.zero_le _) (Nat.zero_le _) dX3_shift_15 ?_
  refine gx_if_ne (tgt := 23) C dX3_shift_18 (by decide) (fun c_18 => ?_) (fun c => absurd c (by rw [ho]; decide))
  refine gx_aload_n C dX3_shift_23 rfl ?_
  refine gx_iload_n C dX3_shift_24 rfl ?_
  refine gx_iload_n C dX3_shift_25 rfl ?_
  refine gx_cVi (n := 2) (q0 := 0) C hK (c_X3_ruleBrokenByShift (l := l) (D := D) (cI := cI) (cG := cG) (cL := cL) (ad := ad) (n := n) (t := t) (B := B) (u := u) (g := g) hOK hb hr2) yW_fst (bgV hT m396 m398 slX3_ruleBrokenByShift m1 m399) rfl rfl rfl (by decide +kernel) ⟨Nat.le_of_ble_eq_true rfl, Nat.le_of_ble_eq_true rfl⟩ rfl rfl rfl rfl (Nat.le_of_ble_eq_true rfl) (Nat.zero_le _) (Nat.zero_le _) dX3_shift_26 ?_
  refine gx_istore_n (lv2 := [some _, some _, some _, some _]) C dX3_shift_29 (by decide) rfl ?_
  refine gx_iload_n C dX3_shift_30 rfl ?_
  refine gx_if_eq (tgt := 37) C dX3_shift_31 (by decide) (fun c => absurd c hz) (fun c_31 => ?_)
  refine gx_iload_n C dX3_shift_34 rfl ?_
  refine gx_ineg C dX3_shift_35 ?_
  exact gx_iret C hRt hlocks dX3_shift_36 rfl rfl
set_option maxHeartbeats 4000000 in
set_option maxRecDepth 100000 in
theorem c_X3_shift_off {l : Launch} {D : va_G} {cI cG cL : ClassId} {ad : Nat → Nat} {n t : Nat} {B : Int32} {u g : Nat → Nat → Int32} {b r2 : Nat} (hOK : yOK n t u g) (hb : b < 60) (hB : yHas u (nI b) = true) (ho : yOn u b = false) (hr2 : r2 < n) : gx_M l yX3_shift wsX3_shift ({ frames := 3, cells := 0, slots := 0, locals := 63 }) D vwCl (gT cI cG cL) [.ref (ad 0), .int (nI b), .int (nI r2)] (yW cI cG ad n t B u g) (yW cI cG ad n t B u g) (some (.int 0)) := by
  refine gx_ofG (cc := cX3_shift) (maxL := 4) (ret := (some .int)) [some (.ref (ad 0)), some (.int (nI b)), some (.int (nI r2)), none] (by decide) rfl rfl (Nat.le_of_ble_eq_true rfl) rfl ?_
  intro p e s m args below meth c C hRt hlocks hK
  have C : CallFix p m c cX3_shift 4 s args (wsX3_shift) RX3 := C
  have hT : ∀ w ∈ bigW, w ∈ wsX3_shift := bgT
  have hn := hOK.hn
  have ht := hOK.ht
  refine gx_aload_n C dX3_shift_0 rfl ?_
  refine gx_iload_n C dX3_shift_1 rfl ?_
  refine gx_cVv (n := 1) (q0 := 0) C hK (c_X3_requireBox (l := l) (D := D) (cI := cI) (cG := cG) (cL := cL) (ad := ad) (n := n) (t := t) (B := B) (u := u) (g := g) (x := nI b) hB) yW_fst (bgV hT m321 m323 slX3_requireBox m1 m324) rfl rfl rfl (by decide +kernel) ⟨Nat.le_of_ble_eq_true rfl, Nat.le_of_ble_eq_true rfl⟩ rfl rfl rfl rfl (Nat.le_of_ble_eq_true rfl) (Nat.zero_le _) (Nat.zero_le _) dX3_shift_2 ?_
  refine gx_aload_n C dX3_shift_5 rfl ?_
  refine gx_iload_n C dX3_shift_6 rfl ?_
  refine gx_cVv (n := 1) (q0 := 0) C hK (c_X3_requireRow (l := l) (D := D) (cI := cI) (cG := cG) (cL := cL) (ad := ad) (n := n) (t := t) (B := B) (u := u) (g := g) (x := nI r2) (yRow_of hn hr2)) yW_fst (bgV hT m345 m347 slX3_requireRow m1 m348) rfl rfl rfl (by decide +kernel) ⟨Nat.le_of_ble_eq_true rfl, Nat.le_of_ble_eq_true rfl⟩ rfl rfl rfl rfl (Nat.le_of_ble_eq_true rfl) (Nat.zero_le _) (Nat.zero_le _) dX3_shift_7 ?_
  refine gx_aload_n C dX3_shift_10 rfl ?_
  refine yg_X3_stacks C hK hT m124 dX3_shift_11 ?_
  refine gx_iload_n C dX3_shift_14 rfl ?_
  refine gx_cVi (n := 1) (q0 := 7) C hK (c_X2_isOnTop (l := l) (D := D) (cI := cI) (cG := cG) (cL := cL) (ad := ad) (n := n) (t := t) (B := B) (u := u) (g := g) hOK hb) yW_fst (bgV hT m381 m382 m383 m4 m384) rfl rfl rfl (by decide +kernel) ⟨Nat.le_of_ble_eq_true rfl, Nat.le_of_ble_eq_true rfl⟩ rfl rfl rfl rfl (Nat.le_of_ble_eq_true rfl) (Nat.zero_le _) (Nat.zero_le _) dX3_shift_15 ?_
  refine gx_if_ne (tgt := 23) C dX3_shift_18 (by decide) (fun c => absurd (bI_0.mpr ho) c) (fun c_18 => ?_)
  refine gx_iconst (v := 0) C dX3_shift_21 (by decide) ?_
  exact gx_iret C hRt hlocks dX3_shift_22 rfl rfl
set_option maxHeartbeats 4000000 in
set_option maxRecDepth 100000 in
theorem c_X3_choose {l : Launch} {D : va_G} {cI cG cL : ClassId} {ad : Nat → Nat} {n t : Nat} {B : Int32} {u g : Nat → Nat → Int32} {b : Nat} (hOK : yOK n t u g) (hb : b < 60) (hB : yHas u (nI b) = true) : gx_M l yX3_choose wsX3_choose ({ frames := 4, cells := 0, slots := 0, locals := 94 }) D vwCl (gT cI cG cL) [.ref (ad 0), .int (nI b)] (yW cI cG ad n t B u g) (yW cI cG ad n t B u g) (some (.int (if u 7 b = -1 then (yBest t B u g b false n).1 else -1))) := by
  refine gx_ofG (cc := cX3_choose) (maxL := 2) (ret := (some .int)) [some (.ref (ad 0)), some (.int (nI b))] (by decide) rfl rfl (Nat.le_of_ble_eq_true rfl) rfl ?_
  intro p e s m args below meth c C hRt hlocks hK
  have C : CallFix p m c cX3_choose 2 s args (wsX3_choose) RX3 := C
  have hT : ∀ w ∈ bigW, w ∈ wsX3_choose := bgT
  refine gx_aload_n C dX3_choose_0 rfl ?_
  refine gx_iload_n C dX3_choose_1 rfl ?_
  refine gx_cVv (n := 1) (q0 := 0) C hK (c_X3_requireBox (l := l) (D := D) (cI := cI) (cG := cG) (cL := cL) (ad := ad) (n := n) (t := t) (B := B) (u := u) (g := g) (x := nI b) hB) yW_fst (bgV hT m321 m323 slX3_requireBox m1 m324) rfl rfl rfl (by decide +kernel) ⟨Nat.le_of_ble_eq_true rfl, Nat.le_of_ble_eq_true rfl⟩ rfl rfl rfl rfl (Nat.le_of_ble_eq_true rfl) (Nat.zero_le _) (Nat.zero_le _) dX3_choose_2 ?_
  refine gx_aload_n C dX3_choose_5 rfl ?_
  refine yg_X3_stacks C hK hT m124 dX3_choose_6 ?_
  refine gx_iload_n C dX3_choose_9 rfl ?_
  refine gx_cVi (n := 1) (q0 := 7) C hK (c_X2_stands (l := l) (D := D) (cI := cI) (cG := cG) (cL := cL) (ad := ad) (n := n) (t := t) (B := B) (u := u) (g := g) hb) yW_fst (bgV hT m200 m173 m174 m4 m175) rfl rfl rfl (by decide +kernel) ⟨Nat.le_of_ble_eq_true rfl, Nat.le_of_ble_eq_true rfl⟩ rfl rfl rfl rfl (Nat.le_of_ble_eq_true rfl) (Nat.zero_le _) (Nat.zero_le _) dX3_choose_10 ?_
  refine gx_if_eq (tgt := 20) C dX3_choose_13 (by decide) (fun c_13 => ?_) (fun c_13 => ?_)
  · refine gx_aload_n C dX3_choose_20 rfl ?_
    refine gx_iload_n C dX3_choose_21 rfl ?_
    refine gx_iconst (v := 0) C dX3_choose_22 (by decide) ?_
    refine gx_cVi (n := 2) (q0 := 0) C hK (c_X3_bestRow (l := l) (D := D) (cI := cI) (cG := cG) (cL := cL) (ad := ad) (n := n) (t := t) (B := B) (u := u) (g := g) (k := false) hOK hb) yW_fst (bgV hT m407 m409 slX3_bestRow m1 m410) rfl rfl rfl (by decide +kernel) ⟨Nat.le_of_ble_eq_true rfl, Nat.le_of_ble_eq_true rfl⟩ rfl rfl rfl rfl (Nat.le_of_ble_eq_true rfl) (Nat.zero_le _) (Nat.zero_le _) dX3_choose_23 ?_
    exact gx_iret C hRt hlocks dX3_choose_26 (by first | exact (if_pos (ySt_f c_13)).symm | exact (if_neg (ySt_t c_13)).symm) rfl
  · refine gx_iconst (v := (-1)) C dX3_choose_16 (by decide) ?_
    refine gx_goto (tgt := 26) C dX3_choose_17 (by decide) ?_
    exact gx_iret C hRt hlocks dX3_choose_26 (by first | exact (if_pos (ySt_f c_13)).symm | exact (if_neg (ySt_t c_13)).symm) rfl
set_option maxHeartbeats 4000000 in
set_option maxRecDepth 100000 in
theorem c_X3_score {l : Launch} {D : va_G} {cI cG cL : ClassId} {ad : Nat → Nat} {n t : Nat} {B : Int32} {u g : Nat → Nat → Int32} {b r : Nat} (hOK : yOK n t u g) (hb : b < 60) (hB : yHas u (nI b) = true) (hr : r < n) (hz : yPutR t B u g b r = 0) : gx_M l yX3_score wsX3_score ({ frames := 3, cells := 0, slots := 0, locals := 68 }) D vwCl (gT cI cG cL) [.ref (ad 0), .int (nI b), .int (nI r)] (yW cI cG ad n t B u g) (yW cI cG ad n t B u g) (some (.int (yScore u g b r))) := by
  refine gx_ofG (cc := cX3_score) (maxL := 3) (ret := (some .int)) [some (.ref (ad 0)), some (.int (nI b)), some (.int (nI r))] (by decide) rfl rfl (Nat.le_of_ble_eq_true rfl) rfl ?_
  intro p e s m args below meth c C hRt hlocks hK
  have C : CallFix p m c cX3_score 3 s args (wsX3_score) RX3 := C
  have hT : ∀ w ∈ bigW, w ∈ wsX3_score := bgT
  have hn := hOK.hn
  have ht := hOK.ht
  refine gx_aload_n C dX3_score_0 rfl ?_
  refine gx_iload_n C dX3_score_1 rfl ?_
  refine gx_cVv (n := 1) (q0 := 0) C hK (c_X3_requireBox (l := l) (D := D) (cI := cI) (cG := cG) (cL := cL) (ad := ad) (n := n) (t := t) (B := B) (u := u) (g := g) (x := nI b) hB) yW_fst (bgV hT m321 m323 slX3_requireBox m1 m324) rfl rfl rfl (by decide +kernel) ⟨Nat.le_of_ble_eq_true rfl, Nat.le_of_ble_eq_true rfl⟩ rfl rfl rfl rfl (Nat.le_of_ble_eq_true rfl) (Nat.zero_le _) (Nat.zero_le _) dX3_score_2 ?_
  refine gx_aload_n C dX3_score_5 rfl ?_
  refine gx_iload_n C dX3_score_6 rfl ?_
  refine gx_cVv (n := 1) (q0 := 0) C hK (c_X3_requireRow (l := l) (D := D) (cI := cI) (cG := cG) (cL := cL) (ad := ad) (n := n) (t := t) (B := B) (u := u) (g := g) (x := nI r) (yRow_of hn hr)) yW_fst (bgV hT m345 m347 slX3_requireRow m1 m348) rfl rfl rfl (by decide +kernel) ⟨Nat.le_of_ble_eq_true rfl, Nat.le_of_ble_eq_true rfl⟩ rfl rfl rfl rfl (Nat.le_of_ble_eq_true rfl) (Nat.zero_le _) (Nat.zero_le _) dX3_score_7 ?_
  refine gx_aload_n C dX3_score_10 rfl ?_
  refine gx_iload_n C dX3_score_11 rfl ?_
  refine gx_iload_n C dX3_score_12 rfl ?_
  refine gx_cVi (n := 2) (q0 := 0) C hK (c_X3_ruleBrokenByPut (l := l) (D := D) (cI := cI) (cG := cG) (cL := cL) (ad := ad) (n := n) (t := t) (B := B) (u := u) (g := g) hOK hb hr) yW_fst (bgV hT m350 m352 slX3_ruleBrokenByPut m1 m353) rfl rfl rfl (by decide +kernel) ⟨Nat.le_of_ble_eq_true rfl, Nat.le_of_ble_eq_true rfl⟩ rfl rfl rfl rfl (Nat.le_of_ble_eq_true rfl) (Nat.zero_le _) (Nat.zero_le _) dX3_score_13 ?_
  refine gx_if_eq (tgt := 29) C dX3_score_16 (by decide) (fun c_16 => ?_) (fun c => absurd hz c)
  refine gx_aload_n C dX3_score_29 rfl ?_
  refine gx_iload_n C dX3_score_30 rfl ?_
  refine gx_iload_n C dX3_score_31 rfl ?_
  refine gx_cVi (n := 2) (q0 := 0) C hK (c_X3_scoreOn (l := l) (D := D) (cI := cI) (cG := cG) (cL := cL) (ad := ad) (n := n) (t := t) (B := B) (u := u) (g := g) hOK hb hr) yW_fst (bgV hT m415 m417 slX3_scoreOn m1 m418) rfl rfl rfl (by decide +kernel) ⟨Nat.le_of_ble_eq_true rfl, Nat.le_of_ble_eq_true rfl⟩ rfl rfl rfl rfl (Nat.le_of_ble_eq_true rfl) (Nat.zero_le _) (Nat.zero_le _) dX3_score_32 ?_
  exact gx_iret C hRt hlocks dX3_score_35 rfl rfl
set_option maxHeartbeats 4000000 in
set_option maxRecDepth 100000 in
theorem c_X3_undo_no {l : Launch} {D : va_G} {cI cG cL : ClassId} {ad : Nat → Nat} {n t : Nat} {B : Int32} {u g : Nat → Nat → Int32}  (h2 : u 0 2 = 0) : gx_M l yX3_undo wsX3_undo ({ frames := 0, cells := 0, slots := 0, locals := 0 }) D vwCl (gT cI cG cL) [.ref (ad 0)] (yW cI cG ad n t B u g) (yW cI cG ad n t B u g) (some (.int (-1))) := by
  refine gx_ofG (cc := cX3_undo) (maxL := 3) (ret := (some .int)) [some (.ref (ad 0)), none, none] (by decide) rfl rfl (Nat.le_of_ble_eq_true rfl) rfl ?_
  intro p e s m args below meth c C hRt hlocks hK
  have C : CallFix p m c cX3_undo 3 s args (wsX3_undo) RX3 := C
  have hT : ∀ w ∈ bigW, w ∈ wsX3_undo := bgT
  refine gx_aload_n C dX3_undo_0 rfl ?_
  refine yg_X3_history C hK hT m125 dX3_undo_1 ?_
  refine yg_X1_kept C hK hT m112 dX3_undo_4 ?_
  refine gx_if_ne (tgt := 12) C dX3_undo_7 (by decide) (fun c => absurd h2 c) (fun c_7 => ?_)
  refine gx_iconst (v := (-1)) C dX3_undo_10 (by decide) ?_
  exact gx_iret C hRt hlocks dX3_undo_11 rfl rfl
set_option maxHeartbeats 4000000 in
set_option maxRecDepth 100000 in
theorem c_X3_undo_lay {l : Launch} {D : va_G} {cI cG cL : ClassId} {ad : Nat → Nat} {n t : Nat} {B : Int32} {u g : Nat → Nat → Int32} {b mk r : Nat} (hOK : yOK n t u g) (h2 : ¬ u 0 2 = 0) (hm : mk < 2 ^ 30) (e1 : u 0 1 = nI (mk + 1)) (hb : b < 60) (e9 : u 9 (mk % 100) = nI b) (e10 : u 10 (mk % 100) = nI r) (hr : r < n) (hs : u 7 b = -1) (h0 : yH u r < t) : gx_M l yX3_undo wsX3_undo ({ frames := 2, cells := 0, slots := 0, locals := 45 }) D vwCl (gT cI cG cL) [.ref (ad 0)] (yW cI cG ad n t B u g) (yW cI cG ad n t B (yLayU (yDropU u) b r) (yLayG (yDropU u) g b r)) (some (.int (nI b))) := by
  refine gx_ofG (cc := cX3_undo) (maxL := 3) (ret := (some .int)) [some (.ref (ad 0)), none, none] (by decide) rfl rfl (Nat.le_of_ble_eq_true rfl) rfl ?_
  intro p e s m args below meth c C hRt hlocks hK
  have C : CallFix p m c cX3_undo 3 s args (wsX3_undo) RX3 := C
  have hT : ∀ w ∈ bigW, w ∈ wsX3_undo := bgT
  have hq : mk % 100 < 100 := Nat.mod_lt _ (by decide)
  have hn := hOK.hn
  refine gx_aload_n C dX3_undo_0 rfl ?_
  refine yg_X3_history C hK hT m125 dX3_undo_1 ?_
  refine yg_X1_kept C hK hT m112 dX3_undo_4 ?_
  refine gx_if_ne (tgt := 12) C dX3_undo_7 (by decide) (fun c_7 => ?_) (fun c => absurd c h2)
  refine gx_aload_n C dX3_undo_12 rfl ?_
  refine yg_X3_history C hK hT m125 dX3_undo_13 ?_
  refine gx_cVi (n := 0) (q0 := 12) C hK (c_X1_dropLatest (l := l) (D := D) (cI := cI) (cG := cG) (cL := cL) (ad := ad) (n := n) (t := t) (B := B) (u := u) (g := g) hm e1) yW_fst (bgV hT m164 m165 m166 m6 m167) rfl rfl rfl (by decide +kernel) ⟨Nat.le_of_ble_eq_true rfl, Nat.le_of_ble_eq_true rfl⟩ rfl rfl rfl rfl (Nat.le_of_ble_eq_true rfl) (Nat.zero_le _) (Nat.zero_le _) dX3_undo_16 ?_
  refine gx_istore_n (lv2 := [some _, some _, none]) C dX3_undo_19 (by decide) rfl ?_
  refine gx_aload_n C dX3_undo_20 rfl ?_
  refine yg_X3_history C hK hT m125 dX3_undo_21 ?_
  refine yg_X1_boxes C hK hT m106 dX3_undo_24 ?_
  refine gx_iload_n C dX3_undo_27 rfl ?_
  refine yl_9 C hK rfl (by omega) dX3_undo_28 ?_
  rw [show yDropU u 9 (mk % 100) = nI b from e9]
  refine gx_istore_n (lv2 := [some _, some _, some _]) C dX3_undo_29 (by decide) rfl ?_
  refine gx_aload_n C dX3_undo_30 rfl ?_
  refine yg_X3_stacks C hK hT m124 dX3_undo_31 ?_
  refine gx_iload_n C dX3_undo_34 rfl ?_
  refine gx_aload_n C dX3_undo_35 rfl ?_
  refine yg_X3_history C hK hT m125 dX3_undo_36 ?_
  refine yg_X1_origins C hK hT m108 dX3_undo_39 ?_
  refine gx_iload_n C dX3_undo_42 rfl ?_
  refine yl_10 C hK rfl (by omega) dX3_undo_43 ?_
  rw [show yDropU u 10 (mk % 100) = nI r from e10]
  refine gx_cVv (n := 2) (q0 := 7) C hK (c_X2_bring_lay (l := l) (D := D) (cI := cI) (cG := cG) (cL := cL) (ad := ad) (n := n) (t := t) (B := B) (u := yDropU u) (g := g) hOK.hn hOK.ht hb hr hs (hOK.h6 hr) h0) yW_fst (bgV hT m168 m169 m170 m4 m171) rfl rfl rfl (by decide +kernel) ⟨Nat.le_of_ble_eq_true rfl, Nat.le_of_ble_eq_true rfl⟩ rfl rfl rfl rfl (Nat.le_of_ble_eq_true rfl) (Nat.zero_le _) (Nat.zero_le _) dX3_undo_44 ?_
  refine gx_iload_n C dX3_undo_47 rfl ?_
  exact gx_iret C hRt hlocks dX3_undo_48 rfl rfl
set_option maxHeartbeats 4000000 in
set_option maxRecDepth 100000 in
theorem c_X3_undo_lift {l : Launch} {D : va_G} {cI cG cL : ClassId} {ad : Nat → Nat} {n t : Nat} {B : Int32} {u g : Nat → Nat → Int32} {b mk r : Nat} (hOK : yOK n t u g) (h2 : ¬ u 0 2 = 0) (hm : mk < 2 ^ 30) (e1 : u 0 1 = nI (mk + 1)) (hb : b < 60) (e9 : u 9 (mk % 100) = nI b) (e10 : u 10 (mk % 100) = (-1)) (hr : r < n) (e7 : u 7 b = nI r) (h0 : 0 < yH u r) : gx_M l yX3_undo wsX3_undo ({ frames := 2, cells := 0, slots := 0, locals := 44 }) D vwCl (gT cI cG cL) [.ref (ad 0)] (yW cI cG ad n t B u g) (yW cI cG ad n t B (yLiftU (yDropU u) b r) (yLiftG (yDropU u) g r)) (some (.int (nI b))) := by
  refine gx_ofG (cc := cX3_undo) (maxL := 3) (ret := (some .int)) [some (.ref (ad 0)), none, none] (by decide) rfl rfl (Nat.le_of_ble_eq_true rfl) rfl ?_
  intro p e s m args below meth c C hRt hlocks hK
  have C : CallFix p m c cX3_undo 3 s args (wsX3_undo) RX3 := C
  have hT : ∀ w ∈ bigW, w ∈ wsX3_undo := bgT
  have hq : mk % 100 < 100 := Nat.mod_lt _ (by decide)
  have hn := hOK.hn
  refine gx_aload_n C dX3_undo_0 rfl ?_
  refine yg_X3_history C hK hT m125 dX3_undo_1 ?_
  refine yg_X1_kept C hK hT m112 dX3_undo_4 ?_
  refine gx_if_ne (tgt := 12) C dX3_undo_7 (by decide) (fun c_7 => ?_) (fun c => absurd c h2)
  refine gx_aload_n C dX3_undo_12 rfl ?_
  refine yg_X3_history C hK hT m125 dX3_undo_13 ?_
  refine gx_cVi (n := 0) (q0 := 12) C hK (c_X1_dropLatest (l := l) (D := D) (cI := cI) (cG := cG) (cL := cL) (ad := ad) (n := n) (t := t) (B := B) (u := u) (g := g) hm e1) yW_fst (bgV hT m164 m165 m166 m6 m167) rfl rfl rfl (by decide +kernel) ⟨Nat.le_of_ble_eq_true rfl, Nat.le_of_ble_eq_true rfl⟩ rfl rfl rfl rfl (Nat.le_of_ble_eq_true rfl) (Nat.zero_le _) (Nat.zero_le _) dX3_undo_16 ?_
  refine gx_istore_n (lv2 := [some _, some _, none]) C dX3_undo_19 (by decide) rfl ?_
  refine gx_aload_n C dX3_undo_20 rfl ?_
  refine yg_X3_history C hK hT m125 dX3_undo_21 ?_
  refine yg_X1_boxes C hK hT m106 dX3_undo_24 ?_
  refine gx_iload_n C dX3_undo_27 rfl ?_
  refine yl_9 C hK rfl (by omega) dX3_undo_28 ?_
  rw [show yDropU u 9 (mk % 100) = nI b from e9]
  refine gx_istore_n (lv2 := [some _, some _, some _]) C dX3_undo_29 (by decide) rfl ?_
  refine gx_aload_n C dX3_undo_30 rfl ?_
  refine yg_X3_stacks C hK hT m124 dX3_undo_31 ?_
  refine gx_iload_n C dX3_undo_34 rfl ?_
  refine gx_aload_n C dX3_undo_35 rfl ?_
  refine yg_X3_history C hK hT m125 dX3_undo_36 ?_
  refine yg_X1_origins C hK hT m108 dX3_undo_39 ?_
  refine gx_iload_n C dX3_undo_42 rfl ?_
  refine yl_10 C hK rfl (by omega) dX3_undo_43 ?_
  rw [show yDropU u 10 (mk % 100) = (-1) from e10]
  refine gx_cVv (n := 2) (q0 := 7) C hK (c_X2_bring_lift (l := l) (D := D) (cI := cI) (cG := cG) (cL := cL) (ad := ad) (n := n) (t := t) (B := B) (u := yDropU u) (g := g) (yOK_drop hOK) hb hr e7 h0) yW_fst (bgV hT m168 m169 m170 m4 m171) rfl rfl rfl (by decide +kernel) ⟨Nat.le_of_ble_eq_true rfl, Nat.le_of_ble_eq_true rfl⟩ rfl rfl rfl rfl (Nat.le_of_ble_eq_true rfl) (Nat.zero_le _) (Nat.zero_le _) dX3_undo_44 ?_
  refine gx_iload_n C dX3_undo_47 rfl ?_
  exact gx_iret C hRt hlocks dX3_undo_48 rfl rfl
set_option maxHeartbeats 4000000 in
set_option maxRecDepth 100000 in
theorem c_X3_undo_both {l : Launch} {D : va_G} {cI cG cL : ClassId} {ad : Nat → Nat} {n t : Nat} {B : Int32} {u g : Nat → Nat → Int32} {b mk r r2 : Nat} (hOK : yOK n t u g) (h2 : ¬ u 0 2 = 0) (hm : mk < 2 ^ 30) (e1 : u 0 1 = nI (mk + 1)) (hb : b < 60) (e9 : u 9 (mk % 100) = nI b) (e10 : u 10 (mk % 100) = nI r2) (hr : r < n) (hr2 : r2 < n) (e7 : u 7 b = nI r) (h0 : 0 < yH u r) (hne : r2 ≠ r) (h02 : yH u r2 < t) : gx_M l yX3_undo wsX3_undo ({ frames := 2, cells := 0, slots := 0, locals := 45 }) D vwCl (gT cI cG cL) [.ref (ad 0)] (yW cI cG ad n t B u g) (yW cI cG ad n t B (yLayU (yLiftU (yDropU u) b r) b r2) (yLayG (yLiftU (yDropU u) b r) (yLiftG (yDropU u) g r) b r2)) (some (.int (nI b))) := by
  refine gx_ofG (cc := cX3_undo) (maxL := 3) (ret := (some .int)) [some (.ref (ad 0)), none, none] (by decide) rfl rfl (Nat.le_of_ble_eq_true rfl) rfl ?_
  intro p e s m args below meth c C hRt hlocks hK
  have C : CallFix p m c cX3_undo 3 s args (wsX3_undo) RX3 := C
  have hT : ∀ w ∈ bigW, w ∈ wsX3_undo := bgT
  have hq : mk % 100 < 100 := Nat.mod_lt _ (by decide)
  have hn := hOK.hn
  refine gx_aload_n C dX3_undo_0 rfl ?_
  refine yg_X3_history C hK hT m125 dX3_undo_1 ?_
  refine yg_X1_kept C hK hT m112 dX3_undo_4 ?_
  refine gx_if_ne (tgt := 12) C dX3_undo_7 (by decide) (fun c_7 => ?_) (fun c => absurd c h2)
  refine gx_aload_n C dX3_undo_12 rfl ?_
  refine yg_X3_history C hK hT m125 dX3_undo_13 ?_
  refine gx_cVi (n := 0) (q0 := 12) C hK (c_X1_dropLatest (l := l) (D := D) (cI := cI) (cG := cG) (cL := cL) (ad := ad) (n := n) (t := t) (B := B) (u := u) (g := g) hm e1) yW_fst (bgV hT m164 m165 m166 m6 m167) rfl rfl rfl (by decide +kernel) ⟨Nat.le_of_ble_eq_true rfl, Nat.le_of_ble_eq_true rfl⟩ rfl rfl rfl rfl (Nat.le_of_ble_eq_true rfl) (Nat.zero_le _) (Nat.zero_le _) dX3_undo_16 ?_
  refine gx_istore_n (lv2 := [some _, some _, none]) C dX3_undo_19 (by decide) rfl ?_
  refine gx_aload_n C dX3_undo_20 rfl ?_
  refine yg_X3_history C hK hT m125 dX3_undo_21 ?_
  refine yg_X1_boxes C hK hT m106 dX3_undo_24 ?_
  refine gx_iload_n C dX3_undo_27 rfl ?_
  refine yl_9 C hK rfl (by omega) dX3_undo_28 ?_
  rw [show yDropU u 9 (mk % 100) = nI b from e9]
  refine gx_istore_n (lv2 := [some _, some _, some _]) C dX3_undo_29 (by decide) rfl ?_
  refine gx_aload_n C dX3_undo_30 rfl ?_
  refine yg_X3_stacks C hK hT m124 dX3_undo_31 ?_
  refine gx_iload_n C dX3_undo_34 rfl ?_
  refine gx_aload_n C dX3_undo_35 rfl ?_
  refine yg_X3_history C hK hT m125 dX3_undo_36 ?_
  refine yg_X1_origins C hK hT m108 dX3_undo_39 ?_
  refine gx_iload_n C dX3_undo_42 rfl ?_
  refine yl_10 C hK rfl (by omega) dX3_undo_43 ?_
  rw [show yDropU u 10 (mk % 100) = nI r2 from e10]
  refine gx_cVv (n := 2) (q0 := 7) C hK (c_X2_bring_both (l := l) (D := D) (cI := cI) (cG := cG) (cL := cL) (ad := ad) (n := n) (t := t) (B := B) (u := yDropU u) (g := g) (yOK_drop hOK) hb hr hr2 e7 h0 (by rw [yH_lift hne, yLift_6 hne]; exact hOK.h6 hr2) (by rw [yH_lift hne]; exact h02)) yW_fst (bgV hT m168 m169 m170 m4 m171) rfl rfl rfl (by decide +kernel) ⟨Nat.le_of_ble_eq_true rfl, Nat.le_of_ble_eq_true rfl⟩ rfl rfl rfl rfl (Nat.le_of_ble_eq_true rfl) (Nat.zero_le _) (Nat.zero_le _) dX3_undo_44 ?_
  refine gx_iload_n C dX3_undo_47 rfl ?_
  exact gx_iret C hRt hlocks dX3_undo_48 rfl rfl
set_option maxHeartbeats 4000000 in
set_option maxRecDepth 100000 in
theorem c_X3_where {l : Launch} {D : va_G} {cI cG cL : ClassId} {ad : Nat → Nat} {n t : Nat} {B : Int32} {u g : Nat → Nat → Int32} {b k : Nat} (hOK : yOK n t u g) (hb : b < 60) (hB : yHas u (nI b) = true) (hk : k < 9) : gx_M l yX3_where wsX3_where ({ frames := 2, cells := 0, slots := 0, locals := 46 }) D vwCl (gT cI cG cL) [.ref (ad 0), .int (nI b), .int (nI k)] (yW cI cG ad n t B u g) (yW cI cG ad n t B u g) (some (.int (yWhere u g b k))) := by
  refine gx_ofG (cc := cX3_where) (maxL := 3) (ret := (some .int)) [some (.ref (ad 0)), some (.int (nI b)), some (.int (nI k))] (by decide) rfl rfl (Nat.le_of_ble_eq_true rfl) rfl ?_
  intro p e s m args below meth c C hRt hlocks hK
  have C : CallFix p m c cX3_where 3 s args (wsX3_where) RX3 := C
  have hT : ∀ w ∈ bigW, w ∈ wsX3_where := bgT
  refine gx_aload_n C dX3_where_0 rfl ?_
  refine gx_iload_n C dX3_where_1 rfl ?_
  refine gx_cVv (n := 1) (q0 := 0) C hK (c_X3_requireBox (l := l) (D := D) (cI := cI) (cG := cG) (cL := cL) (ad := ad) (n := n) (t := t) (B := B) (u := u) (g := g) (x := nI b) hB) yW_fst (bgV hT m321 m323 slX3_requireBox m1 m324) rfl rfl rfl (by decide +kernel) ⟨Nat.le_of_ble_eq_true rfl, Nat.le_of_ble_eq_true rfl⟩ rfl rfl rfl rfl (Nat.le_of_ble_eq_true rfl) (Nat.zero_le _) (Nat.zero_le _) dX3_where_2 ?_
  refine gx_iload_n C dX3_where_5 rfl ?_
  rcases (show k = 0 ∨ k = 1 ∨ k = 2 ∨ k = 3 ∨ k = 4 ∨ k = 5 ∨ k = 6 ∨ k = 7 ∨ k = 8 by omega) with hd | hd | hd | hd | hd | hd | hd | hd | hd <;> rw [hd]
  · refine gx_tabIn (tgt := 56) C dX3_where_6 (by decide) (by decide) rfl (by decide) ?_
    refine gx_aload_n C dX3_where_56 rfl ?_
    refine yg_X3_stacks C hK hT m124 dX3_where_57 ?_
    refine yg_X2_rowOf C hK hT m83 dX3_where_60 ?_
    refine gx_iload_n C dX3_where_63 rfl ?_
    refine yl_7 C hK rfl (by omega) dX3_where_64 ?_
    exact gx_iret C hRt hlocks dX3_where_65 rfl rfl
  · refine gx_tabIn (tgt := 66) C dX3_where_6 (by decide) (by decide) rfl (by decide) ?_
    refine gx_aload_n C dX3_where_66 rfl ?_
    refine yg_X3_stacks C hK hT m124 dX3_where_67 ?_
    refine yg_X2_tierOf C hK hT m85 dX3_where_70 ?_
    refine gx_iload_n C dX3_where_73 rfl ?_
    refine yl_8 C hK rfl (by omega) dX3_where_74 ?_
    exact gx_iret C hRt hlocks dX3_where_75 rfl rfl
  · refine gx_tabIn (tgt := 76) C dX3_where_6 (by decide) (by decide) rfl (by decide) ?_
    refine gx_aload_n C dX3_where_76 rfl ?_
    refine yg_X3_stacks C hK hT m124 dX3_where_77 ?_
    refine gx_iload_n C dX3_where_80 rfl ?_
    refine gx_cVi (n := 1) (q0 := 7) C hK (c_X2_above (l := l) (D := D) (cI := cI) (cG := cG) (cL := cL) (ad := ad) (n := n) (t := t) (B := B) (u := u) (g := g) hOK hb) yW_fst (bgV hT m446 m386 m387 m4 m388) rfl rfl rfl (by decide +kernel) ⟨Nat.le_of_ble_eq_true rfl, Nat.le_of_ble_eq_true rfl⟩ rfl rfl rfl rfl (Nat.le_of_ble_eq_true rfl) (Nat.zero_le _) (Nat.zero_le _) dX3_where_81 ?_
    exact gx_iret C hRt hlocks dX3_where_84 rfl rfl
  · refine gx_tabIn (tgt := 85) C dX3_where_6 (by decide) (by decide) rfl (by decide) ?_
    refine gx_aload_n C dX3_where_85 rfl ?_
    refine gx_iload_n C dX3_where_86 rfl ?_
    refine gx_cVi (n := 1) (q0 := 0) C hK (c_X3_isInTheWay (l := l) (D := D) (cI := cI) (cG := cG) (cL := cL) (ad := ad) (n := n) (t := t) (B := B) (u := u) (g := g) hOK hb) yW_fst (bgV hT m196 m198 slX3_isInTheWay m1 m199) rfl rfl rfl (by decide +kernel) ⟨Nat.le_of_ble_eq_true rfl, Nat.le_of_ble_eq_true rfl⟩ rfl rfl rfl rfl (Nat.le_of_ble_eq_true rfl) (Nat.zero_le _) (Nat.zero_le _) dX3_where_87 ?_
    refine gx_if_eq (tgt := 97) C dX3_where_90 (by decide) (fun c_90 => ?_) (fun c_90 => ?_)
    · refine gx_iconst (v := 0) C dX3_where_97 (by decide) ?_
      exact gx_iret C hRt hlocks dX3_where_98 (by first | exact c_90.symm | (show _ = bI (yWay u g b); rw [bI_t c_90]; rfl)) rfl
    · refine gx_iconst (v := 1) C dX3_where_93 (by decide) ?_
      refine gx_goto (tgt := 98) C dX3_where_94 (by decide) ?_
      exact gx_iret C hRt hlocks dX3_where_98 (by first | exact c_90.symm | (show _ = bI (yWay u g b); rw [bI_t c_90]; rfl)) rfl
  · refine gx_tabIn (tgt := 99) C dX3_where_6 (by decide) (by decide) rfl (by decide) ?_
    refine gx_aload_n C dX3_where_99 rfl ?_
    refine yg_X3_boxes C hK hT m123 dX3_where_100 ?_
    refine yg_X0_size C hK hT m38 dX3_where_103 ?_
    refine gx_iload_n C dX3_where_106 rfl ?_
    refine yl_1 C hK rfl (by omega) dX3_where_107 ?_
    exact gx_iret C hRt hlocks dX3_where_108 rfl rfl
  · refine gx_tabIn (tgt := 109) C dX3_where_6 (by decide) (by decide) rfl (by decide) ?_
    refine gx_aload_n C dX3_where_109 rfl ?_
    refine yg_X3_boxes C hK hT m123 dX3_where_110 ?_
    refine yg_X0_weight C hK hT m40 dX3_where_113 ?_
    refine gx_iload_n C dX3_where_116 rfl ?_
    refine yl_2 C hK rfl (by omega) dX3_where_117 ?_
    exact gx_iret C hRt hlocks dX3_where_118 rfl rfl
  · refine gx_tabIn (tgt := 119) C dX3_where_6 (by decide) (by decide) rfl (by decide) ?_
    refine gx_aload_n C dX3_where_119 rfl ?_
    refine yg_X3_boxes C hK hT m123 dX3_where_120 ?_
    refine yg_X0_leaves C hK hT m42 dX3_where_123 ?_
    refine gx_iload_n C dX3_where_126 rfl ?_
    refine yl_3 C hK rfl (by omega) dX3_where_127 ?_
    exact gx_iret C hRt hlocks dX3_where_128 rfl rfl
  · refine gx_tabIn (tgt := 129) C dX3_where_6 (by decide) (by decide) rfl (by decide) ?_
    refine gx_aload_n C dX3_where_129 rfl ?_
    refine yg_X3_boxes C hK hT m123 dX3_where_130 ?_
    refine yg_X0_ship C hK hT m44 dX3_where_133 ?_
    refine gx_iload_n C dX3_where_136 rfl ?_
    refine yl_4 C hK rfl (by omega) dX3_where_137 ?_
    exact gx_iret C hRt hlocks dX3_where_138 rfl rfl
  · refine gx_tabIn (tgt := 139) C dX3_where_6 (by decide) (by decide) rfl (by decide) ?_
    refine gx_aload_n C dX3_where_139 rfl ?_
    refine yg_X3_boxes C hK hT m123 dX3_where_140 ?_
    refine yg_X0_kind C hK hT m46 dX3_where_143 ?_
    refine gx_iload_n C dX3_where_146 rfl ?_
    refine yl_5 C hK rfl (by omega) dX3_where_147 ?_
    exact gx_iret C hRt hlocks dX3_where_148 rfl rfl
set_option maxHeartbeats 4000000 in
set_option maxRecDepth 100000 in
theorem c_X3_at {l : Launch} {D : va_G} {cI cG cL : ClassId} {ad : Nat → Nat} {n t : Nat} {B : Int32} {u g : Nat → Nat → Int32} {r k : Nat} (hOK : yOK n t u g) (hr : r < n) (hk : k < t) : gx_M l yX3_at wsX3_at ({ frames := 2, cells := 0, slots := 0, locals := 42 }) D vwCl (gT cI cG cL) [.ref (ad 0), .int (nI r), .int (nI k)] (yW cI cG ad n t B u g) (yW cI cG ad n t B u g) (some (.int (g r k))) := by
  refine gx_ofG (cc := cX3_at) (maxL := 3) (ret := (some .int)) [some (.ref (ad 0)), some (.int (nI r)), some (.int (nI k))] (by decide) rfl rfl (Nat.le_of_ble_eq_true rfl) rfl ?_
  intro p e s m args below meth c C hRt hlocks hK
  have C : CallFix p m c cX3_at 3 s args (wsX3_at) RX3 := C
  have hT : ∀ w ∈ bigW, w ∈ wsX3_at := bgT
  have hn := hOK.hn
  have ht := hOK.ht
  refine gx_aload_n C dX3_at_0 rfl ?_
  refine gx_iload_n C dX3_at_1 rfl ?_
  refine gx_cVv (n := 1) (q0 := 0) C hK (c_X3_requireRow (l := l) (D := D) (cI := cI) (cG := cG) (cL := cL) (ad := ad) (n := n) (t := t) (B := B) (u := u) (g := g) (x := nI r) (yRow_of hn hr)) yW_fst (bgV hT m345 m347 slX3_requireRow m1 m348) rfl rfl rfl (by decide +kernel) ⟨Nat.le_of_ble_eq_true rfl, Nat.le_of_ble_eq_true rfl⟩ rfl rfl rfl rfl (Nat.le_of_ble_eq_true rfl) (Nat.zero_le _) (Nat.zero_le _) dX3_at_2 ?_
  refine gx_iload_n C dX3_at_5 rfl ?_
  refine gx_iconst (v := 0) C dX3_at_6 (by decide) ?_
  refine gx_aload_n C dX3_at_7 rfl ?_
  refine yg_X3_stacks C hK hT m124 dX3_at_8 ?_
  refine yg_X2_tiers C hK hT m77 dX3_at_11 ?_
  refine gx_iconst (v := 1) C dX3_at_14 (by decide) ?_
  refine gx_isub C dX3_at_15 ?_
  refine gx_cSi (n := 3) C hK (c_X3_isWithin (l := l) (D := D) (cI := cI) (cG := cG) (cL := cL) (v := nI k) (a := 0) (b := nI t - 1)) (bgS hT m149 m150 m1 m151) rfl rfl rfl (by decide +kernel) ⟨Nat.le_of_ble_eq_true rfl, Nat.le_of_ble_eq_true rfl⟩ rfl rfl (Nat.le_of_ble_eq_true rfl) (Nat.zero_le _) (Nat.zero_le _) dX3_at_16 ?_
  refine gx_if_ne (tgt := 32) C dX3_at_19 (by decide) (fun c_19 => ?_) (fun c => absurd c (by rw [show yIn (nI k) 0 (nI t - 1) = true from decide_eq_true ⟨nI_pos' (by omega), by rw [show nI t - 1 = nI (t - 1) from pk_sub (b := 1) (by omega)]; exact nI_le (by omega) (by omega)⟩]; decide))
  refine gx_aload_n C dX3_at_32 rfl ?_
  refine yg_X3_stacks C hK hT m124 dX3_at_33 ?_
  refine yg_X2_cells C hK hT m79 dX3_at_36 ?_
  refine gx_iload_n C dX3_at_39 rfl ?_
  refine yl_grid C hK rfl (by omega) (by omega) dX3_at_40 ?_
  refine gx_iload_n C dX3_at_41 rfl ?_
  refine yl_row C hK rfl (by omega) (by omega) (by omega) dX3_at_42 ?_
  exact gx_iret C hRt hlocks dX3_at_43 rfl rfl
set_option maxHeartbeats 4000000 in
set_option maxRecDepth 100000 in
theorem c_X3_count {l : Launch} {D : va_G} {cI cG cL : ClassId} {ad : Nat → Nat} {n t : Nat} {B : Int32} {u g : Nat → Nat → Int32} {k T : Nat} (hOK : yOK n t u g) (hT6 : T ≤ 60) (e0 : u 0 0 = nI T) (hk : k < 8) : gx_M l yX3_count wsX3_count ({ frames := 3, cells := 0, slots := 0, locals := 68 }) D vwCl (gT cI cG cL) [.ref (ad 0), .int (nI k)] (yW cI cG ad n t B u g) (yW cI cG ad n t B u g) (some (.int (yCountK n t B u g T k))) := by
  refine gx_ofG (cc := cX3_count) (maxL := 2) (ret := (some .int)) [some (.ref (ad 0)), some (.int (nI k))] (by decide) rfl rfl (Nat.le_of_ble_eq_true rfl) rfl ?_
  intro p e s m args below meth c C hRt hlocks hK
  have C : CallFix p m c cX3_count 2 s args (wsX3_count) RX3 := C
  have hT : ∀ w ∈ bigW, w ∈ wsX3_count := bgT
  have hn := hOK.hn
  have ht := hOK.ht
  refine gx_iload_n C dX3_count_0 rfl ?_
  rcases (show k = 0 ∨ k = 1 ∨ k = 2 ∨ k = 3 ∨ k = 4 ∨ k = 5 ∨ k = 6 ∨ k = 7 by omega) with hd | hd | hd | hd | hd | hd | hd | hd <;> rw [hd]
  · refine gx_tabIn (tgt := 48) C dX3_count_1 (by decide) (by decide) rfl (by decide) ?_
    refine gx_aload_n C dX3_count_48 rfl ?_
    refine yg_X3_stacks C hK hT m124 dX3_count_49 ?_
    refine yg_X2_rows C hK hT m75 dX3_count_52 ?_
    exact gx_iret C hRt hlocks dX3_count_55 rfl rfl
  · refine gx_tabIn (tgt := 56) C dX3_count_1 (by decide) (by decide) rfl (by decide) ?_
    refine gx_aload_n C dX3_count_56 rfl ?_
    refine yg_X3_stacks C hK hT m124 dX3_count_57 ?_
    refine yg_X2_tiers C hK hT m77 dX3_count_60 ?_
    exact gx_iret C hRt hlocks dX3_count_63 rfl rfl
  · refine gx_tabIn (tgt := 64) C dX3_count_1 (by decide) (by decide) rfl (by decide) ?_
    refine gx_aload_n C dX3_count_64 rfl ?_
    refine yg_X3_bears C hK hT m122 dX3_count_65 ?_
    exact gx_iret C hRt hlocks dX3_count_68 rfl rfl
  · refine gx_tabIn (tgt := 69) C dX3_count_1 (by decide) (by decide) rfl (by decide) ?_
    refine gx_aload_n C dX3_count_69 rfl ?_
    refine yg_X3_boxes C hK hT m123 dX3_count_70 ?_
    refine yg_X0_told C hK hT m48 dX3_count_73 ?_
    exact gx_iret C hRt hlocks dX3_count_76 rfl rfl
  · refine gx_tabIn (tgt := 77) C dX3_count_1 (by decide) (by decide) rfl (by decide) ?_
    refine gx_aload_n C dX3_count_77 rfl ?_
    refine gx_cVi (n := 0) (q0 := 0) C hK (c_X3_standingBoxes (l := l) (D := D) (cI := cI) (cG := cG) (cL := cL) (ad := ad) (n := n) (t := t) (B := B) (u := u) (g := g) hn) yW_fst (bgV hT m188 m190 slX3_standingBoxes m1 m191) rfl rfl rfl (by decide +kernel) ⟨Nat.le_of_ble_eq_true rfl, Nat.le_of_ble_eq_true rfl⟩ rfl rfl rfl rfl (Nat.le_of_ble_eq_true rfl) (Nat.zero_le _) (Nat.zero_le _) dX3_count_78 ?_
    exact gx_iret C hRt hlocks dX3_count_81 rfl rfl
  · refine gx_tabIn (tgt := 82) C dX3_count_1 (by decide) (by decide) rfl (by decide) ?_
    refine gx_aload_n C dX3_count_82 rfl ?_
    refine yg_X3_history C hK hT m125 dX3_count_83 ?_
    refine yg_X1_made C hK hT m110 dX3_count_86 ?_
    exact gx_iret C hRt hlocks dX3_count_89 rfl rfl
  · refine gx_tabIn (tgt := 90) C dX3_count_1 (by decide) (by decide) rfl (by decide) ?_
    refine gx_aload_n C dX3_count_90 rfl ?_
    refine gx_cVi (n := 0) (q0 := 0) C hK (c_X3_boxesInTheWay (l := l) (D := D) (cI := cI) (cG := cG) (cL := cL) (ad := ad) (n := n) (t := t) (B := B) (u := u) (g := g) hOK hT6 e0) yW_fst (bgV hT m192 m194 slX3_boxesInTheWay m1 m195) rfl rfl rfl (by decide +kernel) ⟨Nat.le_of_ble_eq_true rfl, Nat.le_of_ble_eq_true rfl⟩ rfl rfl rfl rfl (Nat.le_of_ble_eq_true rfl) (Nat.zero_le _) (Nat.zero_le _) dX3_count_91 ?_
    exact gx_iret C hRt hlocks dX3_count_94 rfl rfl
  · refine gx_tabIn (tgt := 95) C dX3_count_1 (by decide) (by decide) rfl (by decide) ?_
    refine gx_aload_n C dX3_count_95 rfl ?_
    refine yg_X3_history C hK hT m125 dX3_count_96 ?_
    refine yg_X1_kept C hK hT m112 dX3_count_99 ?_
    exact gx_iret C hRt hlocks dX3_count_102 rfl rfl
set_option maxHeartbeats 4000000 in
set_option maxRecDepth 100000 in
theorem c_X3_count_out {l : Launch} {D : va_G} {cI cG cL : ClassId} {ad : Nat → Nat} {n t : Nat} {B : Int32} {u g : Nat → Nat → Int32} {x : Int32} (hOK : yOK n t u g) (hx : x.toInt < 0 ∨ 7 < x.toInt) : gx_M l yX3_count wsX3_count ({ frames := 2, cells := 0, slots := 0, locals := 45 }) D vwCl (gT cI cG cL) [.ref (ad 0), .int x] (yW cI cG ad n t B u g) (yW cI cG ad n t B u g) (some (.int (yCR n u g x))) := by
  refine gx_ofG (cc := cX3_count) (maxL := 2) (ret := (some .int)) [some (.ref (ad 0)), some (.int x)] (by decide) rfl rfl (Nat.le_of_ble_eq_true rfl) rfl ?_
  intro p e s m args below meth c C hRt hlocks hK
  have C : CallFix p m c cX3_count 2 s args (wsX3_count) RX3 := C
  have hT : ∀ w ∈ bigW, w ∈ wsX3_count := bgT
  have hn := hOK.hn
  have ht := hOK.ht
  refine gx_iload_n C dX3_count_0 rfl ?_
  · refine gx_tabOut (tgt := 103) C dX3_count_1 hx (by decide) ?_
    refine gx_aload_n C dX3_count_103 rfl ?_
    refine gx_iload_n C dX3_count_104 rfl ?_
    refine gx_cVi (n := 1) (q0 := 0) C hK (c_X3_countOfRow (l := l) (D := D) (cI := cI) (cG := cG) (cL := cL) (ad := ad) (n := n) (t := t) (B := B) (u := u) (g := g) (x := x) hOK) yW_fst (bgV hT m205 m207 slX3_countOfRow m1 m208) rfl rfl rfl (by decide +kernel) ⟨Nat.le_of_ble_eq_true rfl, Nat.le_of_ble_eq_true rfl⟩ rfl rfl rfl rfl (Nat.le_of_ble_eq_true rfl) (Nat.zero_le _) (Nat.zero_le _) dX3_count_105 ?_
    exact gx_iret C hRt hlocks dX3_count_108 rfl rfl

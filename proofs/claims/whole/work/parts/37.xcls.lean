set_option maxHeartbeats 4000000 in
set_option maxRecDepth 100000 in
theorem x_X3_requireBox {l : Launch} {D : va_G} {cI cG cL : ClassId} {ad : Nat → Nat} {n t : Nat} {B : Int32} {u g : Nat → Nat → Int32} {x : Int32} (htr : l.stackTraces = false) (hF : yHas u x = false) : gx_X l yX3_requireBox wsX3_requireBox ({ frames := 6, cells := 1, slots := 6, locals := 82 }) D vwCl (gT cI cG cL) [.ref (ad 0), .int x] (yW cI cG ad n t B u g) xIB := by
  refine gx_ofX (cc := cX3_requireBox) (maxL := 2) (ret := none) [some (.ref (ad 0)), some (.int x)] (by decide) rfl rfl (Nat.le_of_ble_eq_true rfl) rfl ?_
  intro p e s m args below meth c C hlocks hout hK hE
  have C : CallFix p m c cX3_requireBox 2 s args (wsX3_requireBox) RX3 := C
  have hT : ∀ w ∈ bigW, w ∈ wsX3_requireBox := bgT
  refine gx_aload_n C dX3_requireBox_0 rfl ?_
  refine yg_X3_boxes C hK hT m123 dX3_requireBox_1 ?_
  refine gx_iload_n C dX3_requireBox_4 rfl ?_
  refine gx_cVi (n := 1) (q0 := 1) C hK (c_X0_has (l := l) (D := D) (cI := cI) (cG := cG) (cL := cL) (ad := ad) (n := n) (t := t) (B := B) (u := u) (g := g) (x := x)) yW_fst (bgV hT m325 m326 m327 m3 m328) rfl rfl rfl (by decide +kernel) ⟨Nat.le_of_ble_eq_true rfl, Nat.le_of_ble_eq_true rfl⟩ rfl rfl rfl rfl (Nat.le_of_ble_eq_true rfl) (Nat.zero_le _) (Nat.zero_le _) dX3_requireBox_5 ?_
  refine gx_if_ne (tgt := 21) C dX3_requireBox_8 (by decide) (fun c => absurd (bI_0.mpr hF) c) (fun c_8 => ?_)
  exact gx_throw (si := 201) (tx := "no such box") C hT htr xOK_IB (by decide) hE dX3_requireBox_11 dX3_requireBox_14 dX3_requireBox_15 dX3_requireBox_17 dX3_requireBox_20 hout (Nat.le_of_ble_eq_true rfl) (Nat.le_of_ble_eq_true rfl) (Nat.le_of_ble_eq_true rfl) (Nat.le_of_ble_eq_true rfl) hlocks
set_option maxHeartbeats 4000000 in
set_option maxRecDepth 100000 in
theorem x_X3_requireRow {l : Launch} {D : va_G} {cI cG cL : ClassId} {ad : Nat → Nat} {n t : Nat} {B : Int32} {u g : Nat → Nat → Int32} {x : Int32} (htr : l.stackTraces = false) (hF : yRow n x = false) : gx_X l yX3_requireRow wsX3_requireRow ({ frames := 6, cells := 1, slots := 6, locals := 82 }) D vwCl (gT cI cG cL) [.ref (ad 0), .int x] (yW cI cG ad n t B u g) xIB := by
  refine gx_ofX (cc := cX3_requireRow) (maxL := 2) (ret := none) [some (.ref (ad 0)), some (.int x)] (by decide) rfl rfl (Nat.le_of_ble_eq_true rfl) rfl ?_
  intro p e s m args below meth c C hlocks hout hK hE
  have C : CallFix p m c cX3_requireRow 2 s args (wsX3_requireRow) RX3 := C
  have hT : ∀ w ∈ bigW, w ∈ wsX3_requireRow := bgT
  refine gx_aload_n C dX3_requireRow_0 rfl ?_
  refine yg_X3_stacks C hK hT m124 dX3_requireRow_1 ?_
  refine gx_iload_n C dX3_requireRow_4 rfl ?_
  refine gx_cVi (n := 1) (q0 := 7) C hK (c_X2_hasRow (l := l) (D := D) (cI := cI) (cG := cG) (cL := cL) (ad := ad) (n := n) (t := t) (B := B) (u := u) (g := g) (x := x)) yW_fst (bgV hT m145 m146 m147 m4 m148) rfl rfl rfl (by decide +kernel) ⟨Nat.le_of_ble_eq_true rfl, Nat.le_of_ble_eq_true rfl⟩ rfl rfl rfl rfl (Nat.le_of_ble_eq_true rfl) (Nat.zero_le _) (Nat.zero_le _) dX3_requireRow_5 ?_
  refine gx_if_ne (tgt := 21) C dX3_requireRow_8 (by decide) (fun c => absurd (bI_0.mpr hF) c) (fun c_8 => ?_)
  exact gx_throw (si := 203) (tx := "no such row") C hT htr xOK_IB (by decide) hE dX3_requireRow_11 dX3_requireRow_14 dX3_requireRow_15 dX3_requireRow_17 dX3_requireRow_20 hout (Nat.le_of_ble_eq_true rfl) (Nat.le_of_ble_eq_true rfl) (Nat.le_of_ble_eq_true rfl) (Nat.le_of_ble_eq_true rfl) hlocks
set_option maxHeartbeats 4000000 in
set_option maxRecDepth 100000 in
theorem x_X3_box_bad {l : Launch} {D : va_G} {cI cG cL : ClassId} {ad : Nat → Nat} {n t : Nat} {B : Int32} {u g : Nat → Nat → Int32} {x1 x2 x3 x4 x5 : Int32} (htr : l.stackTraces = false) (hF : ¬ (yIn x1 1 3 = true ∧ yIn x2 1 40 = true ∧ yIn x3 0 1000 = true ∧ yIn x4 1 9 = true ∧ yIn x5 0 2 = true)) : gx_X l yX3_box wsX3_box ({ frames := 6, cells := 1, slots := 6, locals := 82 }) D vwCl (gT cI cG cL) [.ref (ad 0), .int x1, .int x2, .int x3, .int x4, .int x5] (yW cI cG ad n t B u g) xIA := by
  refine gx_ofX (cc := cX3_box) (maxL := 7) (ret := (some .int)) [some (.ref (ad 0)), some (.int x1), some (.int x2), some (.int x3), some (.int x4), some (.int x5), none] (by decide) rfl rfl (Nat.le_of_ble_eq_true rfl) rfl ?_
  intro p e s m args below meth c C hlocks hout hK hE
  have C : CallFix p m c cX3_box 7 s args (wsX3_box) RX3 := C
  have hT : ∀ w ∈ bigW, w ∈ wsX3_box := bgT
  refine gx_iload_n C dX3_box_0 rfl ?_
  refine gx_iconst (v := 1) C dX3_box_1 (by decide) ?_
  refine gx_iconst (v := 3) C dX3_box_2 (by decide) ?_
  refine gx_cSi (n := 3) C hK (c_X3_isWithin (l := l) (D := D) (cI := cI) (cG := cG) (cL := cL) (v := x1) (a := 1) (b := 3)) (bgS hT m149 m150 m1 m151) rfl rfl rfl (by decide +kernel) ⟨Nat.le_of_ble_eq_true rfl, Nat.le_of_ble_eq_true rfl⟩ rfl rfl (Nat.le_of_ble_eq_true rfl) (Nat.zero_le _) (Nat.zero_le _) dX3_box_3 ?_
  refine gx_if_eq (tgt := 55) C dX3_box_6 (by decide) (fun c_6 => ?_) (fun c_6 => ?_)
  · refine gx_iconst (v := 0) C dX3_box_55 (by decide) ?_
    refine gx_istore (lv2 := [some _, some _, some _, some _, some _, some _, some _]) C dX3_box_56 (by decide) rfl ?_
    refine gx_iload C dX3_box_58 rfl ?_
    refine gx_if_ne (tgt := 73) C dX3_box_60 (by decide) (fun c => absurd c (by decide)) (fun c_60 => ?_)
    exact gx_throw (si := 53) (tx := "no box can be like this") C hT htr xOK_IA (by decide) hE dX3_box_63 dX3_box_66 dX3_box_67 dX3_box_69 dX3_box_72 hout (Nat.le_of_ble_eq_true rfl) (Nat.le_of_ble_eq_true rfl) (Nat.le_of_ble_eq_true rfl) (Nat.le_of_ble_eq_true rfl) hlocks
  · refine gx_iload_n C dX3_box_9 rfl ?_
    refine gx_iconst (v := 1) C dX3_box_10 (by decide) ?_
    refine gx_bipush (v := 40) C dX3_box_11 (by decide) ?_
    refine gx_cSi (n := 3) C hK (c_X3_isWithin (l := l) (D := D) (cI := cI) (cG := cG) (cL := cL) (v := x2) (a := 1) (b := 40)) (bgS hT m149 m150 m1 m151) rfl rfl rfl (by decide +kernel) ⟨Nat.le_of_ble_eq_true rfl, Nat.le_of_ble_eq_true rfl⟩ rfl rfl (Nat.le_of_ble_eq_true rfl) (Nat.zero_le _) (Nat.zero_le _) dX3_box_13 ?_
    refine gx_if_eq (tgt := 55) C dX3_box_16 (by decide) (fun c_16 => ?_) (fun c_16 => ?_)
    · refine gx_iconst (v := 0) C dX3_box_55 (by decide) ?_
      refine gx_istore (lv2 := [some _, some _, some _, some _, some _, some _, some _]) C dX3_box_56 (by decide) rfl ?_
      refine gx_iload C dX3_box_58 rfl ?_
      refine gx_if_ne (tgt := 73) C dX3_box_60 (by decide) (fun c => absurd c (by decide)) (fun c_60 => ?_)
      exact gx_throw (si := 53) (tx := "no box can be like this") C hT htr xOK_IA (by decide) hE dX3_box_63 dX3_box_66 dX3_box_67 dX3_box_69 dX3_box_72 hout (Nat.le_of_ble_eq_true rfl) (Nat.le_of_ble_eq_true rfl) (Nat.le_of_ble_eq_true rfl) (Nat.le_of_ble_eq_true rfl) hlocks
    · refine gx_iload_n C dX3_box_19 rfl ?_
      refine gx_iconst (v := 0) C dX3_box_20 (by decide) ?_
      refine gx_sipush (v := 1000) C dX3_box_21 (by decide) ?_
      refine gx_cSi (n := 3) C hK (c_X3_isWithin (l := l) (D := D) (cI := cI) (cG := cG) (cL := cL) (v := x3) (a := 0) (b := 1000)) (bgS hT m149 m150 m1 m151) rfl rfl rfl (by decide +kernel) ⟨Nat.le_of_ble_eq_true rfl, Nat.le_of_ble_eq_true rfl⟩ rfl rfl (Nat.le_of_ble_eq_true rfl) (Nat.zero_le _) (Nat.zero_le _) dX3_box_24 ?_
      refine gx_if_eq (tgt := 55) C dX3_box_27 (by decide) (fun c_27 => ?_) (fun c_27 => ?_)
      · refine gx_iconst (v := 0) C dX3_box_55 (by decide) ?_
        refine gx_istore (lv2 := [some _, some _, some _, some _, some _, some _, some _]) C dX3_box_56 (by decide) rfl ?_
        refine gx_iload C dX3_box_58 rfl ?_
        refine gx_if_ne (tgt := 73) C dX3_box_60 (by decide) (fun c => absurd c (by decide)) (fun c_60 => ?_)
        exact gx_throw (si := 53) (tx := "no box can be like this") C hT htr xOK_IA (by decide) hE dX3_box_63 dX3_box_66 dX3_box_67 dX3_box_69 dX3_box_72 hout (Nat.le_of_ble_eq_true rfl) (Nat.le_of_ble_eq_true rfl) (Nat.le_of_ble_eq_true rfl) (Nat.le_of_ble_eq_true rfl) hlocks
      · refine gx_iload C dX3_box_30 rfl ?_
        refine gx_iconst (v := 1) C dX3_box_32 (by decide) ?_
        refine gx_bipush (v := 9) C dX3_box_33 (by decide) ?_
        refine gx_cSi (n := 3) C hK (c_X3_isWithin (l := l) (D := D) (cI := cI) (cG := cG) (cL := cL) (v := x4) (a := 1) (b := 9)) (bgS hT m149 m150 m1 m151) rfl rfl rfl (by decide +kernel) ⟨Nat.le_of_ble_eq_true rfl, Nat.le_of_ble_eq_true rfl⟩ rfl rfl (Nat.le_of_ble_eq_true rfl) (Nat.zero_le _) (Nat.zero_le _) dX3_box_35 ?_
        refine gx_if_eq (tgt := 55) C dX3_box_38 (by decide) (fun c_38 => ?_) (fun c_38 => ?_)
        · refine gx_iconst (v := 0) C dX3_box_55 (by decide) ?_
          refine gx_istore (lv2 := [some _, some _, some _, some _, some _, some _, some _]) C dX3_box_56 (by decide) rfl ?_
          refine gx_iload C dX3_box_58 rfl ?_
          refine gx_if_ne (tgt := 73) C dX3_box_60 (by decide) (fun c => absurd c (by decide)) (fun c_60 => ?_)
          exact gx_throw (si := 53) (tx := "no box can be like this") C hT htr xOK_IA (by decide) hE dX3_box_63 dX3_box_66 dX3_box_67 dX3_box_69 dX3_box_72 hout (Nat.le_of_ble_eq_true rfl) (Nat.le_of_ble_eq_true rfl) (Nat.le_of_ble_eq_true rfl) (Nat.le_of_ble_eq_true rfl) hlocks
        · refine gx_iload C dX3_box_41 rfl ?_
          refine gx_iconst (v := 0) C dX3_box_43 (by decide) ?_
          refine gx_iconst (v := 2) C dX3_box_44 (by decide) ?_
          refine gx_cSi (n := 3) C hK (c_X3_isWithin (l := l) (D := D) (cI := cI) (cG := cG) (cL := cL) (v := x5) (a := 0) (b := 2)) (bgS hT m149 m150 m1 m151) rfl rfl rfl (by decide +kernel) ⟨Nat.le_of_ble_eq_true rfl, Nat.le_of_ble_eq_true rfl⟩ rfl rfl (Nat.le_of_ble_eq_true rfl) (Nat.zero_le _) (Nat.zero_le _) dX3_box_45 ?_
          refine gx_if_eq (tgt := 55) C dX3_box_48 (by decide) (fun c_48 => ?_) (fun c => absurd ⟨bI_t c_6, bI_t c_16, bI_t c_27, bI_t c_38, bI_t c⟩ hF)
          refine gx_iconst (v := 0) C dX3_box_55 (by decide) ?_
          refine gx_istore (lv2 := [some _, some _, some _, some _, some _, some _, some _]) C dX3_box_56 (by decide) rfl ?_
          refine gx_iload C dX3_box_58 rfl ?_
          refine gx_if_ne (tgt := 73) C dX3_box_60 (by decide) (fun c => absurd c (by decide)) (fun c_60 => ?_)
          exact gx_throw (si := 53) (tx := "no box can be like this") C hT htr xOK_IA (by decide) hE dX3_box_63 dX3_box_66 dX3_box_67 dX3_box_69 dX3_box_72 hout (Nat.le_of_ble_eq_true rfl) (Nat.le_of_ble_eq_true rfl) (Nat.le_of_ble_eq_true rfl) (Nat.le_of_ble_eq_true rfl) hlocks
set_option maxHeartbeats 4000000 in
set_option maxRecDepth 100000 in
theorem x_X3_box_full {l : Launch} {D : va_G} {cI cG cL : ClassId} {ad : Nat → Nat} {n t : Nat} {B : Int32} {u g : Nat → Nat → Int32} {x1 x2 x3 x4 x5 : Int32} (htr : l.stackTraces = false) (h1 : yIn x1 1 3 = true) (h2 : yIn x2 1 40 = true) (h3 : yIn x3 0 1000 = true) (h4 : yIn x4 1 9 = true) (h5 : yIn x5 0 2 = true) (e0 : u 0 0 = 60) : gx_X l yX3_box wsX3_box ({ frames := 6, cells := 1, slots := 6, locals := 82 }) D vwCl (gT cI cG cL) [.ref (ad 0), .int x1, .int x2, .int x3, .int x4, .int x5] (yW cI cG ad n t B u g) xIS := by
  refine gx_ofX (cc := cX3_box) (maxL := 7) (ret := (some .int)) [some (.ref (ad 0)), some (.int x1), some (.int x2), some (.int x3), some (.int x4), some (.int x5), none] (by decide) rfl rfl (Nat.le_of_ble_eq_true rfl) rfl ?_
  intro p e s m args below meth c C hlocks hout hK hE
  have C : CallFix p m c cX3_box 7 s args (wsX3_box) RX3 := C
  have hT : ∀ w ∈ bigW, w ∈ wsX3_box := bgT
  refine gx_iload_n C dX3_box_0 rfl ?_
  refine gx_iconst (v := 1) C dX3_box_1 (by decide) ?_
  refine gx_iconst (v := 3) C dX3_box_2 (by decide) ?_
  refine gx_cSi (n := 3) C hK (c_X3_isWithin (l := l) (D := D) (cI := cI) (cG := cG) (cL := cL) (v := x1) (a := 1) (b := 3)) (bgS hT m149 m150 m1 m151) rfl rfl rfl (by decide +kernel) ⟨Nat.le_of_ble_eq_true rfl, Nat.le_of_ble_eq_true rfl⟩ rfl rfl (Nat.le_of_ble_eq_true rfl) (Nat.zero_le _) (Nat.zero_le _) dX3_box_3 ?_
  refine gx_if_eq (tgt := 55) C dX3_box_6 (by decide) (fun c => absurd c (by rw [h1]; decide)) (fun c_6 => ?_)
  refine gx_iload_n C dX3_box_9 rfl ?_
  refine gx_iconst (v := 1) C dX3_box_10 (by decide) ?_
  refine gx_bipush (v := 40) C dX3_box_11 (by decide) ?_
  refine gx_cSi (n := 3) C hK (c_X3_isWithin (l := l) (D := D) (cI := cI) (cG := cG) (cL := cL) (v := x2) (a := 1) (b := 40)) (bgS hT m149 m150 m1 m151) rfl rfl rfl (by decide +kernel) ⟨Nat.le_of_ble_eq_true rfl, Nat.le_of_ble_eq_true rfl⟩ rfl rfl (Nat.le_of_ble_eq_true rfl) (Nat.zero_le _) (Nat.zero_le _) dX3_box_13 ?_
  refine gx_if_eq (tgt := 55) C dX3_box_16 (by decide) (fun c => absurd c (by rw [h2]; decide)) (fun c_16 => ?_)
  refine gx_iload_n C dX3_box_19 rfl ?_
  refine gx_iconst (v := 0) C dX3_box_20 (by decide) ?_
  refine gx_sipush (v := 1000) C dX3_box_21 (by decide) ?_
  refine gx_cSi (n := 3) C hK (c_X3_isWithin (l := l) (D := D) (cI := cI) (cG := cG) (cL := cL) (v := x3) (a := 0) (b := 1000)) (bgS hT m149 m150 m1 m151) rfl rfl rfl (by decide +kernel) ⟨Nat.le_of_ble_eq_true rfl, Nat.le_of_ble_eq_true rfl⟩ rfl rfl (Nat.le_of_ble_eq_true rfl) (Nat.zero_le _) (Nat.zero_le _) dX3_box_24 ?_
  refine gx_if_eq (tgt := 55) C dX3_box_27 (by decide) (fun c => absurd c (by rw [h3]; decide)) (fun c_27 => ?_)
  refine gx_iload C dX3_box_30 rfl ?_
  refine gx_iconst (v := 1) C dX3_box_32 (by decide) ?_
  refine gx_bipush (v := 9) C dX3_box_33 (by decide) ?_
  refine gx_cSi (n := 3) C hK (c_X3_isWithin (l := l) (D := D) (cI := cI) (cG := cG) (cL := cL) (v := x4) (a := 1) (b := 9)) (bgS hT m149 m150 m1 m151) rfl rfl rfl (by decide +kernel) ⟨Nat.le_of_ble_eq_true rfl, Nat.le_of_ble_eq_true rfl⟩ rfl rfl (Nat.le_of_ble_eq_true rfl) (Nat.zero_le _) (Nat.zero_le _) dX3_box_35 ?_
  refine gx_if_eq (tgt := 55) C dX3_box_38 (by decide) (fun c => absurd c (by rw [h4]; decide)) (fun c_38 => ?_)
  refine gx_iload C dX3_box_41 rfl ?_
  refine gx_iconst (v := 0) C dX3_box_43 (by decide) ?_
  refine gx_iconst (v := 2) C dX3_box_44 (by decide) ?_
  refine gx_cSi (n := 3) C hK (c_X3_isWithin (l := l) (D := D) (cI := cI) (cG := cG) (cL := cL) (v := x5) (a := 0) (b := 2)) (bgS hT m149 m150 m1 m151) rfl rfl rfl (by decide +kernel) ⟨Nat.le_of_ble_eq_true rfl, Nat.le_of_ble_eq_true rfl⟩ rfl rfl (Nat.le_of_ble_eq_true rfl) (Nat.zero_le _) (Nat.zero_le _) dX3_box_45 ?_
  refine gx_if_eq (tgt := 55) C dX3_box_48 (by decide) (fun c => absurd c (by rw [h5]; decide)) (fun c_48 => ?_)
  refine gx_iconst (v := 1) C dX3_box_51 (by decide) ?_
  refine gx_goto (tgt := 56) C dX3_box_52 (by decide) ?_
  refine gx_istore (lv2 := [some _, some _, some _, some _, some _, some _, some _]) C dX3_box_56 (by decide) rfl ?_
  refine gx_iload C dX3_box_58 rfl ?_
  refine gx_if_ne (tgt := 73) C dX3_box_60 (by decide) (fun c_60 => ?_) (fun c => absurd c (by decide))
  refine gx_aload_n C dX3_box_73 rfl ?_
  refine yg_X3_boxes C hK hT m123 dX3_box_74 ?_
  refine yg_X0_told C hK hT m48 dX3_box_77 ?_
  refine gx_bipush (v := 60) C dX3_box_80 (by decide) ?_
  rw [e0]
  refine gx_icmp_lt (tgt := 95) C dX3_box_82 (by decide) (fun c => absurd c (by decide)) (fun c_82 => ?_)
  exact gx_throw (si := 63) (tx := "there are as many boxes as there may be") C hT htr xOK_IS (by decide) hE dX3_box_85 dX3_box_88 dX3_box_89 dX3_box_91 dX3_box_94 hout (Nat.le_of_ble_eq_true rfl) (Nat.le_of_ble_eq_true rfl) (Nat.le_of_ble_eq_true rfl) (Nat.le_of_ble_eq_true rfl) hlocks
set_option maxHeartbeats 4000000 in
set_option maxRecDepth 100000 in
theorem x_X3_put_nobox {l : Launch} {D : va_G} {cI cG cL : ClassId} {ad : Nat → Nat} {n t : Nat} {B : Int32} {u g : Nat → Nat → Int32} {x y : Int32} (htr : l.stackTraces = false) (hF : yHas u x = false) : gx_X l yX3_put wsX3_put ({ frames := 7, cells := 1, slots := 6, locals := 103 }) D vwCl (gT cI cG cL) [.ref (ad 0), .int x, .int y] (yW cI cG ad n t B u g) xIB := by
  refine gx_ofX (cc := cX3_put) (maxL := 4) (ret := (some .int)) [some (.ref (ad 0)), some (.int x), some (.int y), none] (by decide) rfl rfl (Nat.le_of_ble_eq_true rfl) rfl ?_
  intro p e s m args below meth c C hlocks hout hK hE
  have C : CallFix p m c cX3_put 4 s args (wsX3_put) RX3 := C
  have hT : ∀ w ∈ bigW, w ∈ wsX3_put := bgT
  refine gx_aload_n C dX3_put_0 rfl ?_
  refine gx_iload_n C dX3_put_1 rfl ?_
  exact gx_callVX (n := 1) (q0 := 0) C hK hE (x_X3_requireBox (l := l) (D := D) (cI := cI) (cG := cG) (cL := cL) (ad := ad) (n := n) (t := t) (B := B) (u := u) (g := g) (x := x) htr hF) (bgV hT m321 m323 slX3_requireBox m1 m324) rfl rfl rfl (by decide +kernel) ⟨Nat.le_of_ble_eq_true rfl, Nat.le_of_ble_eq_true rfl⟩ rfl rfl rfl rfl (Nat.le_of_ble_eq_true rfl) (Nat.le_of_ble_eq_true rfl) (Nat.le_of_ble_eq_true rfl) dX3_put_2 hout hlocks
set_option maxHeartbeats 4000000 in
set_option maxRecDepth 100000 in
theorem x_X3_put_norow {l : Launch} {D : va_G} {cI cG cL : ClassId} {ad : Nat → Nat} {n t : Nat} {B : Int32} {u g : Nat → Nat → Int32} {x y : Int32} (htr : l.stackTraces = false) (hB : yHas u x = true) (hF : yRow n y = false) : gx_X l yX3_put wsX3_put ({ frames := 7, cells := 1, slots := 6, locals := 103 }) D vwCl (gT cI cG cL) [.ref (ad 0), .int x, .int y] (yW cI cG ad n t B u g) xIB := by
  refine gx_ofX (cc := cX3_put) (maxL := 4) (ret := (some .int)) [some (.ref (ad 0)), some (.int x), some (.int y), none] (by decide) rfl rfl (Nat.le_of_ble_eq_true rfl) rfl ?_
  intro p e s m args below meth c C hlocks hout hK hE
  have C : CallFix p m c cX3_put 4 s args (wsX3_put) RX3 := C
  have hT : ∀ w ∈ bigW, w ∈ wsX3_put := bgT
  refine gx_aload_n C dX3_put_0 rfl ?_
  refine gx_iload_n C dX3_put_1 rfl ?_
  refine gx_cVv (n := 1) (q0 := 0) C hK (c_X3_requireBox (l := l) (D := D) (cI := cI) (cG := cG) (cL := cL) (ad := ad) (n := n) (t := t) (B := B) (u := u) (g := g) (x := x) hB) yW_fst (bgV hT m321 m323 slX3_requireBox m1 m324) rfl rfl rfl (by decide +kernel) ⟨Nat.le_of_ble_eq_true rfl, Nat.le_of_ble_eq_true rfl⟩ rfl rfl rfl rfl (Nat.le_of_ble_eq_true rfl) (Nat.zero_le _) (Nat.zero_le _) dX3_put_2 ?_
  refine gx_aload_n C dX3_put_5 rfl ?_
  refine gx_iload_n C dX3_put_6 rfl ?_
  exact gx_callVX (n := 1) (q0 := 0) C hK hE (x_X3_requireRow (l := l) (D := D) (cI := cI) (cG := cG) (cL := cL) (ad := ad) (n := n) (t := t) (B := B) (u := u) (g := g) (x := y) htr hF) (bgV hT m345 m347 slX3_requireRow m1 m348) rfl rfl rfl (by decide +kernel) ⟨Nat.le_of_ble_eq_true rfl, Nat.le_of_ble_eq_true rfl⟩ rfl rfl rfl rfl (Nat.le_of_ble_eq_true rfl) (Nat.le_of_ble_eq_true rfl) (Nat.le_of_ble_eq_true rfl) dX3_put_7 hout hlocks
set_option maxHeartbeats 4000000 in
set_option maxRecDepth 100000 in
theorem x_X3_shift_nobox {l : Launch} {D : va_G} {cI cG cL : ClassId} {ad : Nat → Nat} {n t : Nat} {B : Int32} {u g : Nat → Nat → Int32} {x y : Int32} (htr : l.stackTraces = false) (hF : yHas u x = false) : gx_X l yX3_shift wsX3_shift ({ frames := 7, cells := 1, slots := 6, locals := 103 }) D vwCl (gT cI cG cL) [.ref (ad 0), .int x, .int y] (yW cI cG ad n t B u g) xIB := by
  refine gx_ofX (cc := cX3_shift) (maxL := 4) (ret := (some .int)) [some (.ref (ad 0)), some (.int x), some (.int y), none] (by decide) rfl rfl (Nat.le_of_ble_eq_true rfl) rfl ?_
  intro p e s m args below meth c C hlocks hout hK hE
  have C : CallFix p m c cX3_shift 4 s args (wsX3_shift) RX3 := C
  have hT : ∀ w ∈ bigW, w ∈ wsX3_shift := bgT
  refine gx_aload_n C dX3_shift_0 rfl ?_
  refine gx_iload_n C dX3_shift_1 rfl ?_
  exact gx_callVX (n := 1) (q0 := 0) C hK hE (x_X3_requireBox (l := l) (D := D) (cI := cI) (cG := cG) (cL := cL) (ad := ad) (n := n) (t := t) (B := B) (u := u) (g := g) (x := x) htr hF) (bgV hT m321 m323 slX3_requireBox m1 m324) rfl rfl rfl (by decide +kernel) ⟨Nat.le_of_ble_eq_true rfl, Nat.le_of_ble_eq_true rfl⟩ rfl rfl rfl rfl (Nat.le_of_ble_eq_true rfl) (Nat.le_of_ble_eq_true rfl) (Nat.le_of_ble_eq_true rfl) dX3_shift_2 hout hlocks
set_option maxHeartbeats 4000000 in
set_option maxRecDepth 100000 in
theorem x_X3_shift_norow {l : Launch} {D : va_G} {cI cG cL : ClassId} {ad : Nat → Nat} {n t : Nat} {B : Int32} {u g : Nat → Nat → Int32} {x y : Int32} (htr : l.stackTraces = false) (hB : yHas u x = true) (hF : yRow n y = false) : gx_X l yX3_shift wsX3_shift ({ frames := 7, cells := 1, slots := 6, locals := 103 }) D vwCl (gT cI cG cL) [.ref (ad 0), .int x, .int y] (yW cI cG ad n t B u g) xIB := by
  refine gx_ofX (cc := cX3_shift) (maxL := 4) (ret := (some .int)) [some (.ref (ad 0)), some (.int x), some (.int y), none] (by decide) rfl rfl (Nat.le_of_ble_eq_true rfl) rfl ?_
  intro p e s m args below meth c C hlocks hout hK hE
  have C : CallFix p m c cX3_shift 4 s args (wsX3_shift) RX3 := C
  have hT : ∀ w ∈ bigW, w ∈ wsX3_shift := bgT
  refine gx_aload_n C dX3_shift_0 rfl ?_
  refine gx_iload_n C dX3_shift_1 rfl ?_
  refine gx_cVv (n := 1) (q0 := 0) C hK (c_X3_requireBox (l := l) (D := D) (cI := cI) (cG := cG) (cL := cL) (ad := ad) (n := n) (t := t) (B := B) (u := u) (g := g) (x := x) hB) yW_fst (bgV hT m321 m323 slX3_requireBox m1 m324) rfl rfl rfl (by decide +kernel) ⟨Nat.le_of_ble_eq_true rfl, Nat.le_of_ble_eq_true rfl⟩ rfl rfl rfl rfl (Nat.le_of_ble_eq_true rfl) (Nat.zero_le _) (Nat.zero_le _) dX3_shift_2 ?_
  refine gx_aload_n C dX3_shift_5 rfl ?_
  refine gx_iload_n C dX3_shift_6 rfl ?_
  exact gx_callVX (n := 1) (q0 := 0) C hK hE (x_X3_requireRow (l := l) (D := D) (cI := cI) (cG := cG) (cL := cL) (ad := ad) (n := n) (t := t) (B := B) (u := u) (g := g) (x := y) htr hF) (bgV hT m345 m347 slX3_requireRow m1 m348) rfl rfl rfl (by decide +kernel) ⟨Nat.le_of_ble_eq_true rfl, Nat.le_of_ble_eq_true rfl⟩ rfl rfl rfl rfl (Nat.le_of_ble_eq_true rfl) (Nat.le_of_ble_eq_true rfl) (Nat.le_of_ble_eq_true rfl) dX3_shift_7 hout hlocks
set_option maxHeartbeats 4000000 in
set_option maxRecDepth 100000 in
theorem x_X3_score_nobox {l : Launch} {D : va_G} {cI cG cL : ClassId} {ad : Nat → Nat} {n t : Nat} {B : Int32} {u g : Nat → Nat → Int32} {x y : Int32} (htr : l.stackTraces = false) (hF : yHas u x = false) : gx_X l yX3_score wsX3_score ({ frames := 7, cells := 1, slots := 6, locals := 103 }) D vwCl (gT cI cG cL) [.ref (ad 0), .int x, .int y] (yW cI cG ad n t B u g) xIB := by
  refine gx_ofX (cc := cX3_score) (maxL := 3) (ret := (some .int)) [some (.ref (ad 0)), some (.int x), some (.int y)] (by decide) rfl rfl (Nat.le_of_ble_eq_true rfl) rfl ?_
  intro p e s m args below meth c C hlocks hout hK hE
  have C : CallFix p m c cX3_score 3 s args (wsX3_score) RX3 := C
  have hT : ∀ w ∈ bigW, w ∈ wsX3_score := bgT
  refine gx_aload_n C dX3_score_0 rfl ?_
  refine gx_iload_n C dX3_score_1 rfl ?_
  exact gx_callVX (n := 1) (q0 := 0) C hK hE (x_X3_requireBox (l := l) (D := D) (cI := cI) (cG := cG) (cL := cL) (ad := ad) (n := n) (t := t) (B := B) (u := u) (g := g) (x := x) htr hF) (bgV hT m321 m323 slX3_requireBox m1 m324) rfl rfl rfl (by decide +kernel) ⟨Nat.le_of_ble_eq_true rfl, Nat.le_of_ble_eq_true rfl⟩ rfl rfl rfl rfl (Nat.le_of_ble_eq_true rfl) (Nat.le_of_ble_eq_true rfl) (Nat.le_of_ble_eq_true rfl) dX3_score_2 hout hlocks
set_option maxHeartbeats 4000000 in
set_option maxRecDepth 100000 in
theorem x_X3_score_norow {l : Launch} {D : va_G} {cI cG cL : ClassId} {ad : Nat → Nat} {n t : Nat} {B : Int32} {u g : Nat → Nat → Int32} {x y : Int32} (htr : l.stackTraces = false) (hB : yHas u x = true) (hF : yRow n y = false) : gx_X l yX3_score wsX3_score ({ frames := 7, cells := 1, slots := 6, locals := 103 }) D vwCl (gT cI cG cL) [.ref (ad 0), .int x, .int y] (yW cI cG ad n t B u g) xIB := by
  refine gx_ofX (cc := cX3_score) (maxL := 3) (ret := (some .int)) [some (.ref (ad 0)), some (.int x), some (.int y)] (by decide) rfl rfl (Nat.le_of_ble_eq_true rfl) rfl ?_
  intro p e s m args below meth c C hlocks hout hK hE
  have C : CallFix p m c cX3_score 3 s args (wsX3_score) RX3 := C
  have hT : ∀ w ∈ bigW, w ∈ wsX3_score := bgT
  refine gx_aload_n C dX3_score_0 rfl ?_
  refine gx_iload_n C dX3_score_1 rfl ?_
  refine gx_cVv (n := 1) (q0 := 0) C hK (c_X3_requireBox (l := l) (D := D) (cI := cI) (cG := cG) (cL := cL) (ad := ad) (n := n) (t := t) (B := B) (u := u) (g := g) (x := x) hB) yW_fst (bgV hT m321 m323 slX3_requireBox m1 m324) rfl rfl rfl (by decide +kernel) ⟨Nat.le_of_ble_eq_true rfl, Nat.le_of_ble_eq_true rfl⟩ rfl rfl rfl rfl (Nat.le_of_ble_eq_true rfl) (Nat.zero_le _) (Nat.zero_le _) dX3_score_2 ?_
  refine gx_aload_n C dX3_score_5 rfl ?_
  refine gx_iload_n C dX3_score_6 rfl ?_
  exact gx_callVX (n := 1) (q0 := 0) C hK hE (x_X3_requireRow (l := l) (D := D) (cI := cI) (cG := cG) (cL := cL) (ad := ad) (n := n) (t := t) (B := B) (u := u) (g := g) (x := y) htr hF) (bgV hT m345 m347 slX3_requireRow m1 m348) rfl rfl rfl (by decide +kernel) ⟨Nat.le_of_ble_eq_true rfl, Nat.le_of_ble_eq_true rfl⟩ rfl rfl rfl rfl (Nat.le_of_ble_eq_true rfl) (Nat.le_of_ble_eq_true rfl) (Nat.le_of_ble_eq_true rfl) dX3_score_7 hout hlocks
set_option maxHeartbeats 4000000 in
set_option maxRecDepth 100000 in
theorem x_X3_take_nobox {l : Launch} {D : va_G} {cI cG cL : ClassId} {ad : Nat → Nat} {n t : Nat} {B : Int32} {u g : Nat → Nat → Int32} {x : Int32} (htr : l.stackTraces = false) (hF : yHas u x = false) : gx_X l yX3_take wsX3_take ({ frames := 7, cells := 1, slots := 6, locals := 103 }) D vwCl (gT cI cG cL) [.ref (ad 0), .int x] (yW cI cG ad n t B u g) xIB := by
  refine gx_ofX (cc := cX3_take) (maxL := 2) (ret := (some .int)) [some (.ref (ad 0)), some (.int x)] (by decide) rfl rfl (Nat.le_of_ble_eq_true rfl) rfl ?_
  intro p e s m args below meth c C hlocks hout hK hE
  have C : CallFix p m c cX3_take 2 s args (wsX3_take) RX3 := C
  have hT : ∀ w ∈ bigW, w ∈ wsX3_take := bgT
  refine gx_aload_n C dX3_take_0 rfl ?_
  refine gx_iload_n C dX3_take_1 rfl ?_
  exact gx_callVX (n := 1) (q0 := 0) C hK hE (x_X3_requireBox (l := l) (D := D) (cI := cI) (cG := cG) (cL := cL) (ad := ad) (n := n) (t := t) (B := B) (u := u) (g := g) (x := x) htr hF) (bgV hT m321 m323 slX3_requireBox m1 m324) rfl rfl rfl (by decide +kernel) ⟨Nat.le_of_ble_eq_true rfl, Nat.le_of_ble_eq_true rfl⟩ rfl rfl rfl rfl (Nat.le_of_ble_eq_true rfl) (Nat.le_of_ble_eq_true rfl) (Nat.le_of_ble_eq_true rfl) dX3_take_2 hout hlocks
set_option maxHeartbeats 4000000 in
set_option maxRecDepth 100000 in
theorem x_X3_choose_nobox {l : Launch} {D : va_G} {cI cG cL : ClassId} {ad : Nat → Nat} {n t : Nat} {B : Int32} {u g : Nat → Nat → Int32} {x : Int32} (htr : l.stackTraces = false) (hF : yHas u x = false) : gx_X l yX3_choose wsX3_choose ({ frames := 7, cells := 1, slots := 6, locals := 103 }) D vwCl (gT cI cG cL) [.ref (ad 0), .int x] (yW cI cG ad n t B u g) xIB := by
  refine gx_ofX (cc := cX3_choose) (maxL := 2) (ret := (some .int)) [some (.ref (ad 0)), some (.int x)] (by decide) rfl rfl (Nat.le_of_ble_eq_true rfl) rfl ?_
  intro p e s m args below meth c C hlocks hout hK hE
  have C : CallFix p m c cX3_choose 2 s args (wsX3_choose) RX3 := C
  have hT : ∀ w ∈ bigW, w ∈ wsX3_choose := bgT
  refine gx_aload_n C dX3_choose_0 rfl ?_
  refine gx_iload_n C dX3_choose_1 rfl ?_
  exact gx_callVX (n := 1) (q0 := 0) C hK hE (x_X3_requireBox (l := l) (D := D) (cI := cI) (cG := cG) (cL := cL) (ad := ad) (n := n) (t := t) (B := B) (u := u) (g := g) (x := x) htr hF) (bgV hT m321 m323 slX3_requireBox m1 m324) rfl rfl rfl (by decide +kernel) ⟨Nat.le_of_ble_eq_true rfl, Nat.le_of_ble_eq_true rfl⟩ rfl rfl rfl rfl (Nat.le_of_ble_eq_true rfl) (Nat.le_of_ble_eq_true rfl) (Nat.le_of_ble_eq_true rfl) dX3_choose_2 hout hlocks
set_option maxHeartbeats 4000000 in
set_option maxRecDepth 100000 in
theorem x_X3_score_no {l : Launch} {D : va_G} {cI cG cL : ClassId} {ad : Nat → Nat} {n t : Nat} {B : Int32} {u g : Nat → Nat → Int32} {b r : Nat} (htr : l.stackTraces = false) (hOK : yOK n t u g) (hb : b < 60) (hB : yHas u (nI b) = true) (hr : r < n) (hz : ¬ yPutR t B u g b r = 0) : gx_X l yX3_score wsX3_score ({ frames := 6, cells := 1, slots := 6, locals := 82 }) D vwCl (gT cI cG cL) [.ref (ad 0), .int (nI b), .int (nI r)] (yW cI cG ad n t B u g) xIS := by
  refine gx_ofX (cc := cX3_score) (maxL := 3) (ret := (some .int)) [some (.ref (ad 0)), some (.int (nI b)), some (.int (nI r))] (by decide) rfl rfl (Nat.le_of_ble_eq_true rfl) rfl ?_
  intro p e s m args below meth c C hlocks hout hK hE
  have C : CallFix p m c cX3_score 3 s args (wsX3_score) RX3 := C
  have hT : ∀ w ∈ bigW, w ∈ wsX3_score := bgT
  refine gx_aload_n C dX3_score_0 rfl ?_
  refine gx_iload_n C dX3_score_1 rfl ?_
  refine gx_cVv (n := 1) (q0 := 0) C hK (c_X3_requireBox (l := l) (D := D) (cI := cI) (cG := cG) (cL := cL) (ad := ad) (n := n) (t := t) (B := B) (u := u) (g := g) (x := nI b) hB) yW_fst (bgV hT m321 m323 slX3_requireBox m1 m324) rfl rfl rfl (by decide +kernel) ⟨Nat.le_of_ble_eq_true rfl, Nat.le_of_ble_eq_true rfl⟩ rfl rfl rfl rfl (Nat.le_of_ble_eq_true rfl) (Nat.zero_le _) (Nat.zero_le _) dX3_score_2 ?_
  refine gx_aload_n C dX3_score_5 rfl ?_
  refine gx_iload_n C dX3_score_6 rfl ?_
  refine gx_cVv (n := 1) (q0 := 0) C hK (c_X3_requireRow (l := l) (D := D) (cI := cI) (cG := cG) (cL := cL) (ad := ad) (n := n) (t := t) (B := B) (u := u) (g := g) (x := nI r) (yRow_of hOK.hn hr)) yW_fst (bgV hT m345 m347 slX3_requireRow m1 m348) rfl rfl rfl (by decide +kernel) ⟨Nat.le_of_ble_eq_true rfl, Nat.le_of_ble_eq_true rfl⟩ rfl rfl rfl rfl (Nat.le_of_ble_eq_true rfl) (Nat.zero_le _) (Nat.zero_le _) dX3_score_7 ?_
  refine gx_aload_n C dX3_score_10 rfl ?_
  refine gx_iload_n C dX3_score_11 rfl ?_
  refine gx_iload_n C dX3_score_12 rfl ?_
  refine gx_cVi (n := 2) (q0 := 0) C hK (c_X3_ruleBrokenByPut (l := l) (D := D) (cI := cI) (cG := cG) (cL := cL) (ad := ad) (n := n) (t := t) (B := B) (u := u) (g := g) hOK hb hr) yW_fst (bgV hT m350 m352 slX3_ruleBrokenByPut m1 m353) rfl rfl rfl (by decide +kernel) ⟨Nat.le_of_ble_eq_true rfl, Nat.le_of_ble_eq_true rfl⟩ rfl rfl rfl rfl (Nat.le_of_ble_eq_true rfl) (Nat.zero_le _) (Nat.zero_le _) dX3_score_13 ?_
  refine gx_if_eq (tgt := 29) C dX3_score_16 (by decide) (fun c => absurd c hz) (fun c_16 => ?_)
  exact gx_throw (si := 107) (tx := "the box may not stand on this row") C hT htr xOK_IS (by decide) hE dX3_score_19 dX3_score_22 dX3_score_23 dX3_score_25 dX3_score_28 hout (Nat.le_of_ble_eq_true rfl) (Nat.le_of_ble_eq_true rfl) (Nat.le_of_ble_eq_true rfl) (Nat.le_of_ble_eq_true rfl) hlocks
set_option maxHeartbeats 4000000 in
set_option maxRecDepth 100000 in
theorem x_X3_night_bad {l : Launch} {D : va_G} {cI cG cL : ClassId} {ad : Nat → Nat} {n t : Nat} {B : Int32} {u g : Nat → Nat → Int32} {x : Int32} (htr : l.stackTraces = false) (hF : yIn x 0 50 = false) : gx_X l yX3_night wsX3_night ({ frames := 6, cells := 1, slots := 6, locals := 82 }) D vwCl (gT cI cG cL) [.ref (ad 0), .int x] (yW cI cG ad n t B u g) xIA := by
  refine gx_ofX (cc := cX3_night) (maxL := 3) (ret := (some .int)) [some (.ref (ad 0)), some (.int x), none] (by decide) rfl rfl (Nat.le_of_ble_eq_true rfl) rfl ?_
  intro p e s m args below meth c C hlocks hout hK hE
  have C : CallFix p m c cX3_night 3 s args (wsX3_night) RX3 := C
  have hT : ∀ w ∈ bigW, w ∈ wsX3_night := bgT
  refine gx_iload_n C dX3_night_0 rfl ?_
  refine gx_iconst (v := 0) C dX3_night_1 (by decide) ?_
  refine gx_bipush (v := 50) C dX3_night_2 (by decide) ?_
  refine gx_cSi (n := 3) C hK (c_X3_isWithin (l := l) (D := D) (cI := cI) (cG := cG) (cL := cL) (v := x) (a := 0) (b := 50)) (bgS hT m149 m150 m1 m151) rfl rfl rfl (by decide +kernel) ⟨Nat.le_of_ble_eq_true rfl, Nat.le_of_ble_eq_true rfl⟩ rfl rfl (Nat.le_of_ble_eq_true rfl) (Nat.zero_le _) (Nat.zero_le _) dX3_night_4 ?_
  refine gx_if_ne (tgt := 20) C dX3_night_7 (by decide) (fun c => absurd (bI_0.mpr hF) c) (fun c_7 => ?_)
  exact gx_throw (si := 112) (tx := "no night has so many moves") C hT htr xOK_IA (by decide) hE dX3_night_10 dX3_night_13 dX3_night_14 dX3_night_16 dX3_night_19 hout (Nat.le_of_ble_eq_true rfl) (Nat.le_of_ble_eq_true rfl) (Nat.le_of_ble_eq_true rfl) (Nat.le_of_ble_eq_true rfl) hlocks
set_option maxHeartbeats 4000000 in
set_option maxRecDepth 100000 in
theorem x_X3_where_nobox {l : Launch} {D : va_G} {cI cG cL : ClassId} {ad : Nat → Nat} {n t : Nat} {B : Int32} {u g : Nat → Nat → Int32} {x y : Int32} (htr : l.stackTraces = false) (hF : yHas u x = false) : gx_X l yX3_where wsX3_where ({ frames := 7, cells := 1, slots := 6, locals := 103 }) D vwCl (gT cI cG cL) [.ref (ad 0), .int x, .int y] (yW cI cG ad n t B u g) xIB := by
  refine gx_ofX (cc := cX3_where) (maxL := 3) (ret := (some .int)) [some (.ref (ad 0)), some (.int x), some (.int y)] (by decide) rfl rfl (Nat.le_of_ble_eq_true rfl) rfl ?_
  intro p e s m args below meth c C hlocks hout hK hE
  have C : CallFix p m c cX3_where 3 s args (wsX3_where) RX3 := C
  have hT : ∀ w ∈ bigW, w ∈ wsX3_where := bgT
  refine gx_aload_n C dX3_where_0 rfl ?_
  refine gx_iload_n C dX3_where_1 rfl ?_
  exact gx_callVX (n := 1) (q0 := 0) C hK hE (x_X3_requireBox (l := l) (D := D) (cI := cI) (cG := cG) (cL := cL) (ad := ad) (n := n) (t := t) (B := B) (u := u) (g := g) (x := x) htr hF) (bgV hT m321 m323 slX3_requireBox m1 m324) rfl rfl rfl (by decide +kernel) ⟨Nat.le_of_ble_eq_true rfl, Nat.le_of_ble_eq_true rfl⟩ rfl rfl rfl rfl (Nat.le_of_ble_eq_true rfl) (Nat.le_of_ble_eq_true rfl) (Nat.le_of_ble_eq_true rfl) dX3_where_2 hout hlocks
set_option maxHeartbeats 4000000 in
set_option maxRecDepth 100000 in
theorem x_X3_where_out {l : Launch} {D : va_G} {cI cG cL : ClassId} {ad : Nat → Nat} {n t : Nat} {B : Int32} {u g : Nat → Nat → Int32} {x y : Int32} (htr : l.stackTraces = false) (hB : yHas u x = true) (hy : y.toInt < 0 ∨ 8 < y.toInt) : gx_X l yX3_where wsX3_where ({ frames := 6, cells := 1, slots := 6, locals := 82 }) D vwCl (gT cI cG cL) [.ref (ad 0), .int x, .int y] (yW cI cG ad n t B u g) xIB := by
  refine gx_ofX (cc := cX3_where) (maxL := 3) (ret := (some .int)) [some (.ref (ad 0)), some (.int x), some (.int y)] (by decide) rfl rfl (Nat.le_of_ble_eq_true rfl) rfl ?_
  intro p e s m args below meth c C hlocks hout hK hE
  have C : CallFix p m c cX3_where 3 s args (wsX3_where) RX3 := C
  have hT : ∀ w ∈ bigW, w ∈ wsX3_where := bgT
  refine gx_aload_n C dX3_where_0 rfl ?_
  refine gx_iload_n C dX3_where_1 rfl ?_
  refine gx_cVv (n := 1) (q0 := 0) C hK (c_X3_requireBox (l := l) (D := D) (cI := cI) (cG := cG) (cL := cL) (ad := ad) (n := n) (t := t) (B := B) (u := u) (g := g) (x := x) hB) yW_fst (bgV hT m321 m323 slX3_requireBox m1 m324) rfl rfl rfl (by decide +kernel) ⟨Nat.le_of_ble_eq_true rfl, Nat.le_of_ble_eq_true rfl⟩ rfl rfl rfl rfl (Nat.le_of_ble_eq_true rfl) (Nat.zero_le _) (Nat.zero_le _) dX3_where_2 ?_
  refine gx_iload_n C dX3_where_5 rfl ?_
  · refine gx_tabOut (tgt := 149) C dX3_where_6 hy (by decide) ?_
    exact gx_throw (si := 163) (tx := "nothing of a box has this number") C hT htr xOK_IB (by decide) hE dX3_where_149 dX3_where_152 dX3_where_153 dX3_where_155 dX3_where_158 hout (Nat.le_of_ble_eq_true rfl) (Nat.le_of_ble_eq_true rfl) (Nat.le_of_ble_eq_true rfl) (Nat.le_of_ble_eq_true rfl) hlocks
set_option maxHeartbeats 4000000 in
set_option maxRecDepth 100000 in
theorem x_X3_at_norow {l : Launch} {D : va_G} {cI cG cL : ClassId} {ad : Nat → Nat} {n t : Nat} {B : Int32} {u g : Nat → Nat → Int32} {x y : Int32} (htr : l.stackTraces = false) (hF : yRow n x = false) : gx_X l yX3_at wsX3_at ({ frames := 7, cells := 1, slots := 6, locals := 103 }) D vwCl (gT cI cG cL) [.ref (ad 0), .int x, .int y] (yW cI cG ad n t B u g) xIB := by
  refine gx_ofX (cc := cX3_at) (maxL := 3) (ret := (some .int)) [some (.ref (ad 0)), some (.int x), some (.int y)] (by decide) rfl rfl (Nat.le_of_ble_eq_true rfl) rfl ?_
  intro p e s m args below meth c C hlocks hout hK hE
  have C : CallFix p m c cX3_at 3 s args (wsX3_at) RX3 := C
  have hT : ∀ w ∈ bigW, w ∈ wsX3_at := bgT
  refine gx_aload_n C dX3_at_0 rfl ?_
  refine gx_iload_n C dX3_at_1 rfl ?_
  exact gx_callVX (n := 1) (q0 := 0) C hK hE (x_X3_requireRow (l := l) (D := D) (cI := cI) (cG := cG) (cL := cL) (ad := ad) (n := n) (t := t) (B := B) (u := u) (g := g) (x := x) htr hF) (bgV hT m345 m347 slX3_requireRow m1 m348) rfl rfl rfl (by decide +kernel) ⟨Nat.le_of_ble_eq_true rfl, Nat.le_of_ble_eq_true rfl⟩ rfl rfl rfl rfl (Nat.le_of_ble_eq_true rfl) (Nat.le_of_ble_eq_true rfl) (Nat.le_of_ble_eq_true rfl) dX3_at_2 hout hlocks
set_option maxHeartbeats 4000000 in
set_option maxRecDepth 100000 in
theorem x_X3_at_out {l : Launch} {D : va_G} {cI cG cL : ClassId} {ad : Nat → Nat} {n t : Nat} {B : Int32} {u g : Nat → Nat → Int32} {r : Nat} {y : Int32} (htr : l.stackTraces = false) (hOK : yOK n t u g) (hr : r < n) (hF : yIn y 0 (nI t - 1) = false) : gx_X l yX3_at wsX3_at ({ frames := 6, cells := 1, slots := 6, locals := 82 }) D vwCl (gT cI cG cL) [.ref (ad 0), .int (nI r), .int y] (yW cI cG ad n t B u g) xIB := by
  refine gx_ofX (cc := cX3_at) (maxL := 3) (ret := (some .int)) [some (.ref (ad 0)), some (.int (nI r)), some (.int y)] (by decide) rfl rfl (Nat.le_of_ble_eq_true rfl) rfl ?_
  intro p e s m args below meth c C hlocks hout hK hE
  have C : CallFix p m c cX3_at 3 s args (wsX3_at) RX3 := C
  have hT : ∀ w ∈ bigW, w ∈ wsX3_at := bgT
  refine gx_aload_n C dX3_at_0 rfl ?_
  refine gx_iload_n C dX3_at_1 rfl ?_
  refine gx_cVv (n := 1) (q0 := 0) C hK (c_X3_requireRow (l := l) (D := D) (cI := cI) (cG := cG) (cL := cL) (ad := ad) (n := n) (t := t) (B := B) (u := u) (g := g) (x := nI r) (yRow_of hOK.hn hr)) yW_fst (bgV hT m345 m347 slX3_requireRow m1 m348) rfl rfl rfl (by decide +kernel) ⟨Nat.le_of_ble_eq_true rfl, Nat.le_of_ble_eq_true rfl⟩ rfl rfl rfl rfl (Nat.le_of_ble_eq_true rfl) (Nat.zero_le _) (Nat.zero_le _) dX3_at_2 ?_
  refine gx_iload_n C dX3_at_5 rfl ?_
  refine gx_iconst (v := 0) C dX3_at_6 (by decide) ?_
  refine gx_aload_n C dX3_at_7 rfl ?_
  refine yg_X3_stacks C hK hT m124 dX3_at_8 ?_
  refine yg_X2_tiers C hK hT m77 dX3_at_11 ?_
  refine gx_iconst (v := 1) C dX3_at_14 (by decide) ?_
  refine gx_isub C dX3_at_15 ?_
  refine gx_cSi (n := 3) C hK (c_X3_isWithin (l := l) (D := D) (cI := cI) (cG := cG) (cL := cL) (v := y) (a := 0) (b := nI t - 1)) (bgS hT m149 m150 m1 m151) rfl rfl rfl (by decide +kernel) ⟨Nat.le_of_ble_eq_true rfl, Nat.le_of_ble_eq_true rfl⟩ rfl rfl (Nat.le_of_ble_eq_true rfl) (Nat.zero_le _) (Nat.zero_le _) dX3_at_16 ?_
  refine gx_if_ne (tgt := 32) C dX3_at_19 (by decide) (fun c => absurd (bI_0.mpr hF) c) (fun c_19 => ?_)
  exact gx_throw (si := 169) (tx := "no such tier") C hT htr xOK_IB (by decide) hE dX3_at_22 dX3_at_25 dX3_at_26 dX3_at_28 dX3_at_31 hout (Nat.le_of_ble_eq_true rfl) (Nat.le_of_ble_eq_true rfl) (Nat.le_of_ble_eq_true rfl) (Nat.le_of_ble_eq_true rfl) hlocks

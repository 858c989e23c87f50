set_option maxHeartbeats 4000000 in
set_option maxRecDepth 100000 in
theorem c_X4_where_bad {l : Launch} {D : va_G} {cI cG cL : ClassId} {ad : Nat → Nat} {n t : Nat} {B : Int32} {v : Nat → Nat → Int32} {x y : Int32} (hF : yHas v x = false ∨ yIn y 0 8 = false) : gx_M l yX4_where wsX4_where ({ frames := 1, cells := 0, slots := 0, locals := 22 }) D vwCl (gT cI cG cL) [.ref (ad 0), .int x, .int y] (mW cI ad n t B v) (mW cI ad n t B (mu v 0 3 1)) (some (.int 0)) := by
  refine gx_ofG (cc := cX4_where) (maxL := 4) (ret := (some .int)) [some (.ref (ad 0)), some (.int x), some (.int y), none] (by decide) rfl rfl (Nat.le_of_ble_eq_true rfl) rfl ?_
  intro p e s m args below meth c C hRt hlocks hK
  have C : CallFix p m c cX4_where 4 s args (wsX4_where) RX4 := C
  have hT : ∀ w ∈ bigW, w ∈ wsX4_where := bgT
  refine gx_aload_n C dX4_where_0 rfl ?_
  refine gx_iload_n C dX4_where_1 rfl ?_
  refine gx_cVi (n := 1) (q0 := 0) C hK (c_X4_isBox (l := l) (D := D) (cI := cI) (cG := cG) (cL := cL) (ad := ad) (n := n) (t := t) (B := B) (v := v) (x := x)) mW_fst (bgV hT m555 m557 slX4_isBox m7 m558) rfl rfl rfl (by decide +kernel) ⟨Nat.le_of_ble_eq_true rfl, Nat.le_of_ble_eq_true rfl⟩ rfl rfl rfl rfl (Nat.le_of_ble_eq_true rfl) (Nat.zero_le _) (Nat.zero_le _) dX4_where_2 ?_
  refine gx_if_eq (tgt := 18) C dX4_where_5 (by decide) (fun c_5 => ?_) (fun c_5 => ?_)
  · refine gx_aload_n C dX4_where_18 rfl ?_
    refine gx_iconst (v := 1) C dX4_where_19 (by decide) ?_
    refine gx_cVi (n := 1) (q0 := 0) C hK (c_X4_fails (l := l) (D := D) (cI := cI) (cG := cG) (cL := cL) (ad := ad) (n := n) (t := t) (B := B) (v := v) (x := 1)) mW_fst (bgV hT m531 m533 slX4_fails m7 m534) rfl rfl rfl (by decide +kernel) ⟨Nat.le_of_ble_eq_true rfl, Nat.le_of_ble_eq_true rfl⟩ rfl rfl rfl rfl (Nat.le_of_ble_eq_true rfl) (Nat.zero_le _) (Nat.zero_le _) dX4_where_20 ?_
    exact gx_iret C hRt hlocks dX4_where_23 rfl rfl
  · refine gx_iload_n C dX4_where_8 rfl ?_
    refine gx_iconst (v := 0) C dX4_where_9 (by decide) ?_
    refine gx_bipush (v := 8) C dX4_where_10 (by decide) ?_
    refine gx_cSi (n := 3) C hK (c_X4_in (l := l) (D := D) (cI := cI) (cG := cG) (cL := cL) (x := y) (a := 0) (b := 8)) (bgS hT m528 m529 m7 m530) rfl rfl rfl (by decide +kernel) ⟨Nat.le_of_ble_eq_true rfl, Nat.le_of_ble_eq_true rfl⟩ rfl rfl (Nat.le_of_ble_eq_true rfl) (Nat.zero_le _) (Nat.zero_le _) dX4_where_12 ?_
    refine gx_if_ne (tgt := 24) C dX4_where_15 (by decide) (fun c => absurd (bI_0.mpr (hF.resolve_left (by rw [bI_t c_5]; decide))) c) (fun c_15 => ?_)
    refine gx_aload_n C dX4_where_18 rfl ?_
    refine gx_iconst (v := 1) C dX4_where_19 (by decide) ?_
    refine gx_cVi (n := 1) (q0 := 0) C hK (c_X4_fails (l := l) (D := D) (cI := cI) (cG := cG) (cL := cL) (ad := ad) (n := n) (t := t) (B := B) (v := v) (x := 1)) mW_fst (bgV hT m531 m533 slX4_fails m7 m534) rfl rfl rfl (by decide +kernel) ⟨Nat.le_of_ble_eq_true rfl, Nat.le_of_ble_eq_true rfl⟩ rfl rfl rfl rfl (Nat.le_of_ble_eq_true rfl) (Nat.zero_le _) (Nat.zero_le _) dX4_where_20 ?_
    exact gx_iret C hRt hlocks dX4_where_23 rfl rfl
set_option maxHeartbeats 4000000 in
set_option maxRecDepth 100000 in
theorem c_X4_where {l : Launch} {D : va_G} {cI cG cL : ClassId} {ad : Nat → Nat} {n t : Nat} {B : Int32} {v : Nat → Nat → Int32} {b k T : Nat} (hT6 : T ≤ 60) (e0 : v 0 0 = nI T) (hb : b < 60) (hB : yHas v (nI b) = true) (hk : k < 9) : gx_M l yX4_where wsX4_where ({ frames := 1, cells := 0, slots := 0, locals := 25 }) D vwCl (gT cI cG cL) [.ref (ad 0), .int (nI b), .int (nI k)] (mW cI ad n t B v) (mW cI ad n t B (mu v 0 3 0)) (some (.int (mWhere (mu v 0 3 0) T b k))) := by
  refine gx_ofG (cc := cX4_where) (maxL := 4) (ret := (some .int)) [some (.ref (ad 0)), some (.int (nI b)), some (.int (nI k)), none] (by decide) rfl rfl (Nat.le_of_ble_eq_true rfl) rfl ?_
  intro p e s m args below meth c C hRt hlocks hK
  have C : CallFix p m c cX4_where 4 s args (wsX4_where) RX4 := C
  have hT : ∀ w ∈ bigW, w ∈ wsX4_where := bgT
  refine gx_aload_n C dX4_where_0 rfl ?_
  refine gx_iload_n C dX4_where_1 rfl ?_
  refine gx_cVi (n := 1) (q0 := 0) C hK (c_X4_isBox (l := l) (D := D) (cI := cI) (cG := cG) (cL := cL) (ad := ad) (n := n) (t := t) (B := B) (v := v) (x := nI b)) mW_fst (bgV hT m555 m557 slX4_isBox m7 m558) rfl rfl rfl (by decide +kernel) ⟨Nat.le_of_ble_eq_true rfl, Nat.le_of_ble_eq_true rfl⟩ rfl rfl rfl rfl (Nat.le_of_ble_eq_true rfl) (Nat.zero_le _) (Nat.zero_le _) dX4_where_2 ?_
  refine gx_if_eq (tgt := 18) C dX4_where_5 (by decide) (fun c => absurd c (by rw [hB]; decide)) (fun c_5 => ?_)
  refine gx_iload_n C dX4_where_8 rfl ?_
  refine gx_iconst (v := 0) C dX4_where_9 (by decide) ?_
  refine gx_bipush (v := 8) C dX4_where_10 (by decide) ?_
  refine gx_cSi (n := 3) C hK (c_X4_in (l := l) (D := D) (cI := cI) (cG := cG) (cL := cL) (x := nI k) (a := 0) (b := 8)) (bgS hT m528 m529 m7 m530) rfl rfl rfl (by decide +kernel) ⟨Nat.le_of_ble_eq_true rfl, Nat.le_of_ble_eq_true rfl⟩ rfl rfl (Nat.le_of_ble_eq_true rfl) (Nat.zero_le _) (Nat.zero_le _) dX4_where_12 ?_
  refine gx_if_ne (tgt := 24) C dX4_where_15 (by decide) (fun c_15 => ?_) (fun c => absurd c (by rw [show yIn (nI k) 0 8 = true from decide_eq_true ⟨nI_pos' (by omega), nI_le (b := 8) (by omega) (by decide)⟩]; decide))
  refine gx_aload_n C dX4_where_24 rfl ?_
  refine gx_iconst (v := 0) C dX4_where_25 (by decide) ?_
  refine mp_X4_thrown C hK hT m465 dX4_where_26 ?_
  refine gx_aload_n C dX4_where_29 rfl ?_
  refine mg_X4_rowOf C hK hT m477 dX4_where_30 ?_
  refine gx_iload_n C dX4_where_33 rfl ?_
  refine ml_7 C hK rfl (by omega) dX4_where_34 ?_
  refine gx_if_lt (tgt := 42) C dX4_where_35 (by decide) (fun c_35 => ?_) (fun c_35 => ?_)
  · refine gx_iconst (v := 0) C dX4_where_42 (by decide) ?_
    refine gx_istore_n (lv2 := [some _, some _, some _, some _]) C dX4_where_43 (by decide) rfl ?_
    refine gx_iload_n C dX4_where_44 rfl ?_
    rcases (show k = 0 ∨ k = 1 ∨ k = 2 ∨ k = 3 ∨ k = 4 ∨ k = 5 ∨ k = 6 ∨ k = 7 ∨ k = 8 by omega) with hd | hd | hd | hd | hd | hd | hd | hd | hd <;> rw [hd]
    · refine gx_tabIn (tgt := 92) C dX4_where_45 (by decide) (by decide) rfl (by decide) ?_
      refine gx_aload_n C dX4_where_92 rfl ?_
      refine mg_X4_rowOf C hK hT m477 dX4_where_93 ?_
      refine gx_iload_n C dX4_where_96 rfl ?_
      refine ml_7 C hK rfl (by omega) dX4_where_97 ?_
      exact gx_iret C hRt hlocks dX4_where_98 rfl rfl
    · refine gx_tabIn (tgt := 99) C dX4_where_45 (by decide) (by decide) rfl (by decide) ?_
      refine gx_aload_n C dX4_where_99 rfl ?_
      refine mg_X4_tierOf C hK hT m478 dX4_where_100 ?_
      refine gx_iload_n C dX4_where_103 rfl ?_
      refine ml_8 C hK rfl (by omega) dX4_where_104 ?_
      exact gx_iret C hRt hlocks dX4_where_105 rfl rfl
    · refine gx_tabIn (tgt := 106) C dX4_where_45 (by decide) (by decide) rfl (by decide) ?_
      refine gx_iload_n C dX4_where_106 rfl ?_
      refine gx_if_eq (tgt := 132) C dX4_where_107 (by decide) (fun c_107 => ?_) (fun c => absurd c (by decide))
      refine gx_iconst (v := 0) C dX4_where_132 (by decide) ?_
      exact gx_iret C hRt hlocks dX4_where_133 (by rw [mWhere, if_pos c_35]) rfl
    · refine gx_tabIn (tgt := 134) C dX4_where_45 (by decide) (by decide) rfl (by decide) ?_
      refine gx_iload_n C dX4_where_134 rfl ?_
      refine gx_if_eq (tgt := 162) C dX4_where_135 (by decide) (fun c_135 => ?_) (fun c => absurd c (by decide))
      refine gx_iconst (v := 0) C dX4_where_162 (by decide) ?_
      exact gx_iret C hRt hlocks dX4_where_163 (by rw [mWhere, if_neg (fun q => q.1 c_35)]) rfl
    · refine gx_tabIn (tgt := 164) C dX4_where_45 (by decide) (by decide) rfl (by decide) ?_
      refine gx_aload_n C dX4_where_164 rfl ?_
      refine mg_X4_size C hK hT m472 dX4_where_165 ?_
      refine gx_iload_n C dX4_where_168 rfl ?_
      refine ml_1 C hK rfl (by omega) dX4_where_169 ?_
      exact gx_iret C hRt hlocks dX4_where_170 rfl rfl
    · refine gx_tabIn (tgt := 171) C dX4_where_45 (by decide) (by decide) rfl (by decide) ?_
      refine gx_aload_n C dX4_where_171 rfl ?_
      refine mg_X4_weight C hK hT m473 dX4_where_172 ?_
      refine gx_iload_n C dX4_where_175 rfl ?_
      refine ml_2 C hK rfl (by omega) dX4_where_176 ?_
      exact gx_iret C hRt hlocks dX4_where_177 rfl rfl
    · refine gx_tabIn (tgt := 178) C dX4_where_45 (by decide) (by decide) rfl (by decide) ?_
      refine gx_aload_n C dX4_where_178 rfl ?_
      refine mg_X4_leaves C hK hT m474 dX4_where_179 ?_
      refine gx_iload_n C dX4_where_182 rfl ?_
      refine ml_3 C hK rfl (by omega) dX4_where_183 ?_
      exact gx_iret C hRt hlocks dX4_where_184 rfl rfl
    · refine gx_tabIn (tgt := 185) C dX4_where_45 (by decide) (by decide) rfl (by decide) ?_
      refine gx_aload_n C dX4_where_185 rfl ?_
      refine mg_X4_ship C hK hT m475 dX4_where_186 ?_
      refine gx_iload_n C dX4_where_189 rfl ?_
      refine ml_4 C hK rfl (by omega) dX4_where_190 ?_
      exact gx_iret C hRt hlocks dX4_where_191 rfl rfl
    · refine gx_tabOut (tgt := 192) C dX4_where_45 (Or.inr (by decide)) (by decide) ?_
      refine gx_aload_n C dX4_where_192 rfl ?_
      refine mg_X4_kind C hK hT m476 dX4_where_193 ?_
      refine gx_iload_n C dX4_where_196 rfl ?_
      refine ml_5 C hK rfl (by omega) dX4_where_197 ?_
      exact gx_iret C hRt hlocks dX4_where_198 rfl rfl
  · refine gx_iconst (v := 1) C dX4_where_38 (by decide) ?_
    refine gx_goto (tgt := 43) C dX4_where_39 (by decide) ?_
    refine gx_istore_n (lv2 := [some _, some _, some _, some _]) C dX4_where_43 (by decide) rfl ?_
    refine gx_iload_n C dX4_where_44 rfl ?_
    rcases (show k = 0 ∨ k = 1 ∨ k = 2 ∨ k = 3 ∨ k = 4 ∨ k = 5 ∨ k = 6 ∨ k = 7 ∨ k = 8 by omega) with hd | hd | hd | hd | hd | hd | hd | hd | hd <;> rw [hd]
    · refine gx_tabIn (tgt := 92) C dX4_where_45 (by decide) (by decide) rfl (by decide) ?_
      refine gx_aload_n C dX4_where_92 rfl ?_
      refine mg_X4_rowOf C hK hT m477 dX4_where_93 ?_
      refine gx_iload_n C dX4_where_96 rfl ?_
      refine ml_7 C hK rfl (by omega) dX4_where_97 ?_
      exact gx_iret C hRt hlocks dX4_where_98 rfl rfl
    · refine gx_tabIn (tgt := 99) C dX4_where_45 (by decide) (by decide) rfl (by decide) ?_
      refine gx_aload_n C dX4_where_99 rfl ?_
      refine mg_X4_tierOf C hK hT m478 dX4_where_100 ?_
      refine gx_iload_n C dX4_where_103 rfl ?_
      refine ml_8 C hK rfl (by omega) dX4_where_104 ?_
      exact gx_iret C hRt hlocks dX4_where_105 rfl rfl
    · refine gx_tabIn (tgt := 106) C dX4_where_45 (by decide) (by decide) rfl (by decide) ?_
      refine gx_iload_n C dX4_where_106 rfl ?_
      refine gx_if_eq (tgt := 132) C dX4_where_107 (by decide) (fun c => absurd c (by decide)) (fun c_107 => ?_)
      refine gx_aload_n C dX4_where_110 rfl ?_
      refine gx_aload_n C dX4_where_111 rfl ?_
      refine mg_X4_rowOf C hK hT m477 dX4_where_112 ?_
      refine gx_iload_n C dX4_where_115 rfl ?_
      refine ml_7 C hK rfl (by omega) dX4_where_116 ?_
      refine gx_cVi (n := 1) (q0 := 0) C hK (c_X4_heightOf (l := l) (D := D) (cI := cI) (cG := cG) (cL := cL) (ad := ad) (n := n) (t := t) (B := B) (v := mu v 0 3 0) (a := v 7 b) hT6 e0) mW_fst (bgV hT m543 m545 slX4_heightOf m7 m546) rfl rfl rfl (by decide +kernel) ⟨Nat.le_of_ble_eq_true rfl, Nat.le_of_ble_eq_true rfl⟩ rfl rfl rfl rfl (Nat.le_of_ble_eq_true rfl) (Nat.zero_le _) (Nat.zero_le _) dX4_where_117 ?_
      refine gx_iconst (v := 1) C dX4_where_120 (by decide) ?_
      refine gx_isub C dX4_where_121 ?_
      refine gx_aload_n C dX4_where_122 rfl ?_
      refine mg_X4_tierOf C hK hT m478 dX4_where_123 ?_
      refine gx_iload_n C dX4_where_126 rfl ?_
      refine ml_8 C hK rfl (by omega) dX4_where_127 ?_
      refine gx_isub C dX4_where_128 ?_
      refine gx_goto (tgt := 133) C dX4_where_129 (by decide) ?_
      exact gx_iret C hRt hlocks dX4_where_133 (by rw [mWhere, if_neg c_35]; rfl) rfl
    · refine gx_tabIn (tgt := 134) C dX4_where_45 (by decide) (by decide) rfl (by decide) ?_
      refine gx_iload_n C dX4_where_134 rfl ?_
      refine gx_if_eq (tgt := 162) C dX4_where_135 (by decide) (fun c => absurd c (by decide)) (fun c_135 => ?_)
      refine gx_aload_n C dX4_where_138 rfl ?_
      refine gx_iload_n C dX4_where_139 rfl ?_
      refine gx_aload_n C dX4_where_140 rfl ?_
      refine mg_X4_rowOf C hK hT m477 dX4_where_141 ?_
      refine gx_iload_n C dX4_where_144 rfl ?_
      refine ml_7 C hK rfl (by omega) dX4_where_145 ?_
      refine gx_aload_n C dX4_where_146 rfl ?_
      refine mg_X4_tierOf C hK hT m478 dX4_where_147 ?_
      refine gx_iload_n C dX4_where_150 rfl ?_
      refine ml_8 C hK rfl (by omega) dX4_where_151 ?_
      refine gx_cVi (n := 3) (q0 := 0) C hK (c_X4_sooner (l := l) (D := D) (cI := cI) (cG := cG) (cL := cL) (ad := ad) (n := n) (t := t) (B := B) (v := mu v 0 3 0) (b := b) (a := v 7 b) (y := v 8 b) hT6 e0 hb) mW_fst (bgV hT m603 m605 slX4_sooner m7 m606) rfl rfl rfl (by decide +kernel) ⟨Nat.le_of_ble_eq_true rfl, Nat.le_of_ble_eq_true rfl⟩ rfl rfl rfl rfl (Nat.le_of_ble_eq_true rfl) (Nat.zero_le _) (Nat.zero_le _) dX4_where_152 ?_
      refine gx_if_le (tgt := 162) C dX4_where_155 (by decide) (fun c_155 => ?_) (fun c_155 => ?_)
      · refine gx_iconst (v := 0) C dX4_where_162 (by decide) ?_
        exact gx_iret C hRt hlocks dX4_where_163 (by rw [mWhere, if_neg (fun q => q.2 c_155)]) rfl
      · refine gx_iconst (v := 1) C dX4_where_158 (by decide) ?_
        refine gx_goto (tgt := 163) C dX4_where_159 (by decide) ?_
        exact gx_iret C hRt hlocks dX4_where_163 (by rw [mWhere, if_pos ⟨c_35, c_155⟩]) rfl
    · refine gx_tabIn (tgt := 164) C dX4_where_45 (by decide) (by decide) rfl (by decide) ?_
      refine gx_aload_n C dX4_where_164 rfl ?_
      refine mg_X4_size C hK hT m472 dX4_where_165 ?_
      refine gx_iload_n C dX4_where_168 rfl ?_
      refine ml_1 C hK rfl (by omega) dX4_where_169 ?_
      exact gx_iret C hRt hlocks dX4_where_170 rfl rfl
    · refine gx_tabIn (tgt := 171) C dX4_where_45 (by decide) (by decide) rfl (by decide) ?_
      refine gx_aload_n C dX4_where_171 rfl ?_
      refine mg_X4_weight C hK hT m473 dX4_where_172 ?_
      refine gx_iload_n C dX4_where_175 rfl ?_
      refine ml_2 C hK rfl (by omega) dX4_where_176 ?_
      exact gx_iret C hRt hlocks dX4_where_177 rfl rfl
    · refine gx_tabIn (tgt := 178) C dX4_where_45 (by decide) (by decide) rfl (by decide) ?_
      refine gx_aload_n C dX4_where_178 rfl ?_
      refine mg_X4_leaves C hK hT m474 dX4_where_179 ?_
      refine gx_iload_n C dX4_where_182 rfl ?_
      refine ml_3 C hK rfl (by omega) dX4_where_183 ?_
      exact gx_iret C hRt hlocks dX4_where_184 rfl rfl
    · refine gx_tabIn (tgt := 185) C dX4_where_45 (by decide) (by decide) rfl (by decide) ?_
      refine gx_aload_n C dX4_where_185 rfl ?_
      refine mg_X4_ship C hK hT m475 dX4_where_186 ?_
      refine gx_iload_n C dX4_where_189 rfl ?_
      refine ml_4 C hK rfl (by omega) dX4_where_190 ?_
      exact gx_iret C hRt hlocks dX4_where_191 rfl rfl
    · refine gx_tabOut (tgt := 192) C dX4_where_45 (Or.inr (by decide)) (by decide) ?_
      refine gx_aload_n C dX4_where_192 rfl ?_
      refine mg_X4_kind C hK hT m476 dX4_where_193 ?_
      refine gx_iload_n C dX4_where_196 rfl ?_
      refine ml_5 C hK rfl (by omega) dX4_where_197 ?_
      exact gx_iret C hRt hlocks dX4_where_198 rfl rfl
set_option maxHeartbeats 4000000 in
set_option maxRecDepth 100000 in
theorem lp_X4_count {l : Launch} {D : va_G} {cI cG cL : ClassId} {ad : Nat → Nat} {n t : Nat} {B : Int32} {v : Nat → Nat → Int32} {x : Int32} {T : Nat} {p : Program} {e : Env} {s : State} {m : MethodId} {args : Array Value} {below : List Frame} {meth : Method} {c : Code} {Q : State → Prop} (C : CallFix p m c cX4_count 5 s args wsX4_count RX4) (hT : ∀ w ∈ bigW, w ∈ wsX4_count) (hK : va_K D vwCl (gT cI cG cL) s) (hT6 : T ≤ 60) (e0 : v 0 0 = nI T) (hk : ∀ (y z : Int32) (w4 : Option Value), y = nI (mStd (mu v 0 3 0) T) → z = nI (yCnt (fun b => decide (¬ (mu v 0 3 0) 7 b < 0 ∧ ¬ nI (mSo (mu v 0 3 0) b ((mu v 0 3 0) 7 b) ((mu v 0 3 0) 8 b) T) ≤ 0)) T) → gx_G p l e (headSpec wsX4_count ({ frames := 1, cells := 0, slots := 0, locals := 25 })).room s m args below meth c D vwCl (gx_in (mW cI ad n t B v)) 5 0 0 Q (mW cI ad n t B (mu v 0 3 0)) 86 [some (.ref (ad 0)), some (.int x), some (.int y), some (.int z), w4] []) : ∀ (d j : Nat) (y z : Int32), j + d = T → y = nI (mStd (mu v 0 3 0) j) → z = nI (yCnt (fun b => decide (¬ (mu v 0 3 0) 7 b < 0 ∧ ¬ nI (mSo (mu v 0 3 0) b ((mu v 0 3 0) 7 b) ((mu v 0 3 0) 8 b) T) ≤ 0)) j) → gx_G p l e (headSpec wsX4_count ({ frames := 1, cells := 0, slots := 0, locals := 25 })).room s m args below meth c D vwCl (gx_in (mW cI ad n t B v)) 5 0 0 Q (mW cI ad n t B (mu v 0 3 0)) 12 [some (.ref (ad 0)), some (.int x), some (.int y), some (.int z), some (.int (nI j))] [] := by
  intro d
  induction d with
  | zero =>
    intro j y z hj hy hz
    refine gx_iload C dX4_count_12 rfl ?_
    refine gx_aload_n C dX4_count_14 rfl ?_
    refine mg_X4_boxes C hK hT m471 dX4_count_15 ?_
    rw [show mu v 0 3 0 0 0 = nI T from e0]
    refine gx_icmp_ge (tgt := 86) C dX4_count_18 (by decide) (fun c_18 => ?_) (fun c => absurd (nI_le (by omega) (by omega)) c)
    exact hk _ _ _ (by rw [hy, show j = T by omega]) (by rw [hz, show j = T by omega])
  | succ d ih =>
    intro j y z hj hy hz
    refine gx_iload C dX4_count_12 rfl ?_
    refine gx_aload_n C dX4_count_14 rfl ?_
    refine mg_X4_boxes C hK hT m471 dX4_count_15 ?_
    rw [show mu v 0 3 0 0 0 = nI T from e0]
    refine gx_icmp_ge (tgt := 86) C dX4_count_18 (by decide) (fun c => absurd c (nI_ge (by omega) (by omega))) (fun c_18 => ?_)
    refine gx_iload_n C dX4_count_21 rfl ?_
    refine gx_aload_n C dX4_count_22 rfl ?_
    refine mg_X4_rowOf C hK hT m477 dX4_count_23 ?_
    refine gx_iload C dX4_count_26 rfl ?_
    refine ml_7 C hK rfl (by omega) dX4_count_28 ?_
    refine gx_if_lt (tgt := 36) C dX4_count_29 (by decide) (fun c_29 => ?_) (fun c_29 => ?_)
    · refine gx_iconst (v := 0) C dX4_count_36 (by decide) ?_
      refine gx_iadd C dX4_count_37 ?_
      refine gx_istore_n (lv2 := [some _, some _, some _, some _, some _]) C dX4_count_38 (by decide) rfl ?_
      refine gx_iload_n C dX4_count_39 rfl ?_
      refine gx_aload_n C dX4_count_40 rfl ?_
      refine mg_X4_rowOf C hK hT m477 dX4_count_41 ?_
      refine gx_iload C dX4_count_44 rfl ?_
      refine ml_7 C hK rfl (by omega) dX4_count_46 ?_
      refine gx_if_lt (tgt := 77) C dX4_count_47 (by decide) (fun c_47 => ?_) (fun c_47 => ?_)
      · refine gx_iconst (v := 0) C dX4_count_77 (by decide) ?_
        refine gx_iadd C dX4_count_78 ?_
        refine gx_istore_n (lv2 := [some _, some _, some _, some _, some _]) C dX4_count_79 (by decide) rfl ?_
        refine gx_iincN (lv2 := [some _, some _, some _, some _, some _]) C dX4_count_80 rfl (by decide) rfl ?_
        refine gx_goto (tgt := 12) C dX4_count_83 (by decide) ?_
        exact ih (j + 1) _ _ (by omega) (m_p0 hy (decide_eq_false (fun q => q c_29))) (m_p0 hz (decide_eq_false (fun q => q.1 c_47)))
      · refine gx_aload_n C dX4_count_50 rfl ?_
        refine gx_iload C dX4_count_51 rfl ?_
        refine gx_aload_n C dX4_count_53 rfl ?_
        refine mg_X4_rowOf C hK hT m477 dX4_count_54 ?_
        refine gx_iload C dX4_count_57 rfl ?_
        refine ml_7 C hK rfl (by omega) dX4_count_59 ?_
        refine gx_aload_n C dX4_count_60 rfl ?_
        refine mg_X4_tierOf C hK hT m478 dX4_count_61 ?_
        refine gx_iload C dX4_count_64 rfl ?_
        refine ml_8 C hK rfl (by omega) dX4_count_66 ?_
        refine gx_cVi (n := 3) (q0 := 0) C hK (c_X4_sooner (l := l) (D := D) (cI := cI) (cG := cG) (cL := cL) (ad := ad) (n := n) (t := t) (B := B) (v := mu v 0 3 0) (b := j) (a := v 7 j) (y := v 8 j) hT6 e0 (show j < 60 by omega)) mW_fst (bgV hT m603 m605 slX4_sooner m7 m606) rfl rfl rfl (by decide +kernel) ⟨Nat.le_of_ble_eq_true rfl, Nat.le_of_ble_eq_true rfl⟩ rfl rfl rfl rfl (Nat.le_of_ble_eq_true rfl) (Nat.zero_le _) (Nat.zero_le _) dX4_count_67 ?_
        refine gx_if_le (tgt := 77) C dX4_count_70 (by decide) (fun c_70 => ?_) (fun c_70 => ?_)
        · refine gx_iconst (v := 0) C dX4_count_77 (by decide) ?_
          refine gx_iadd C dX4_count_78 ?_
          refine gx_istore_n (lv2 := [some _, some _, some _, some _, some _]) C dX4_count_79 (by decide) rfl ?_
          refine gx_iincN (lv2 := [some _, some _, some _, some _, some _]) C dX4_count_80 rfl (by decide) rfl ?_
          refine gx_goto (tgt := 12) C dX4_count_83 (by decide) ?_
          exact ih (j + 1) _ _ (by omega) (m_p0 hy (decide_eq_false (fun q => q c_29))) (m_p0 hz (decide_eq_false (fun q => q.2 c_70)))
        · refine gx_iconst (v := 1) C dX4_count_73 (by decide) ?_
          refine gx_goto (tgt := 78) C dX4_count_74 (by decide) ?_
          refine gx_iadd C dX4_count_78 ?_
          refine gx_istore_n (lv2 := [some _, some _, some _, some _, some _]) C dX4_count_79 (by decide) rfl ?_
          refine gx_iincN (lv2 := [some _, some _, some _, some _, some _]) C dX4_count_80 rfl (by decide) rfl ?_
          refine gx_goto (tgt := 12) C dX4_count_83 (by decide) ?_
          exact ih (j + 1) _ _ (by omega) (m_p0 hy (decide_eq_false (fun q => q c_29))) (m_p1 hz (decide_eq_true ⟨c_47, c_70⟩))
    · refine gx_iconst (v := 1) C dX4_count_32 (by decide) ?_
      refine gx_goto (tgt := 37) C dX4_count_33 (by decide) ?_
      refine gx_iadd C dX4_count_37 ?_
      refine gx_istore_n (lv2 := [some _, some _, some _, some _, some _]) C dX4_count_38 (by decide) rfl ?_
      refine gx_iload_n C dX4_count_39 rfl ?_
      refine gx_aload_n C dX4_count_40 rfl ?_
      refine mg_X4_rowOf C hK hT m477 dX4_count_41 ?_
      refine gx_iload C dX4_count_44 rfl ?_
      refine ml_7 C hK rfl (by omega) dX4_count_46 ?_
      refine gx_if_lt (tgt := 77) C dX4_count_47 (by decide) (fun c_47 => ?_) (fun c_47 => ?_)
      · refine gx_iconst (v := 0) C dX4_count_77 (by decide) ?_
        refine gx_iadd C dX4_count_78 ?_
        refine gx_istore_n (lv2 := [some _, some _, some _, some _, some _]) C dX4_count_79 (by decide) rfl ?_
        refine gx_iincN (lv2 := [some _, some _, some _, some _, some _]) C dX4_count_80 rfl (by decide) rfl ?_
        refine gx_goto (tgt := 12) C dX4_count_83 (by decide) ?_
        exact ih (j + 1) _ _ (by omega) (m_p1 hy (decide_eq_true c_29)) (m_p0 hz (decide_eq_false (fun q => q.1 c_47)))
      · refine gx_aload_n C dX4_count_50 rfl ?_
        refine gx_iload C dX4_count_51 rfl ?_
        refine gx_aload_n C dX4_count_53 rfl ?_
        refine mg_X4_rowOf C hK hT m477 dX4_count_54 ?_
        refine gx_iload C dX4_count_57 rfl ?_
        refine ml_7 C hK rfl (by omega) dX4_count_59 ?_
        refine gx_aload_n C dX4_count_60 rfl ?_
        refine mg_X4_tierOf C hK hT m478 dX4_count_61 ?_
        refine gx_iload C dX4_count_64 rfl ?_
        refine ml_8 C hK rfl (by omega) dX4_count_66 ?_
        refine gx_cVi (n := 3) (q0 := 0) C hK (c_X4_sooner (l := l) (D := D) (cI := cI) (cG := cG) (cL := cL) (ad := ad) (n := n) (t := t) (B := B) (v := mu v 0 3 0) (b := j) (a := v 7 j) (y := v 8 j) hT6 e0 (show j < 60 by omega)) mW_fst (bgV hT m603 m605 slX4_sooner m7 m606) rfl rfl rfl (by decide +kernel) ⟨Nat.le_of_ble_eq_true rfl, Nat.le_of_ble_eq_true rfl⟩ rfl rfl rfl rfl (Nat.le_of_ble_eq_true rfl) (Nat.zero_le _) (Nat.zero_le _) dX4_count_67 ?_
        refine gx_if_le (tgt := 77) C dX4_count_70 (by decide) (fun c_70 => ?_) (fun c_70 => ?_)
        · refine gx_iconst (v := 0) C dX4_count_77 (by decide) ?_
          refine gx_iadd C dX4_count_78 ?_
          refine gx_istore_n (lv2 := [some _, some _, some _, some _, some _]) C dX4_count_79 (by decide) rfl ?_
          refine gx_iincN (lv2 := [some _, some _, some _, some _, some _]) C dX4_count_80 rfl (by decide) rfl ?_
          refine gx_goto (tgt := 12) C dX4_count_83 (by decide) ?_
          exact ih (j + 1) _ _ (by omega) (m_p1 hy (decide_eq_true c_29)) (m_p0 hz (decide_eq_false (fun q => q.2 c_70)))
        · refine gx_iconst (v := 1) C dX4_count_73 (by decide) ?_
          refine gx_goto (tgt := 78) C dX4_count_74 (by decide) ?_
          refine gx_iadd C dX4_count_78 ?_
          refine gx_istore_n (lv2 := [some _, some _, some _, some _, some _]) C dX4_count_79 (by decide) rfl ?_
          refine gx_iincN (lv2 := [some _, some _, some _, some _, some _]) C dX4_count_80 rfl (by decide) rfl ?_
          refine gx_goto (tgt := 12) C dX4_count_83 (by decide) ?_
          exact ih (j + 1) _ _ (by omega) (m_p1 hy (decide_eq_true c_29)) (m_p1 hz (decide_eq_true ⟨c_47, c_70⟩))
set_option maxHeartbeats 4000000 in
set_option maxRecDepth 100000 in
theorem c_X4_count_in {l : Launch} {D : va_G} {cI cG cL : ClassId} {ad : Nat → Nat} {n t : Nat} {B : Int32} {v : Nat → Nat → Int32} {k : Nat} {T : Nat} (hT6 : T ≤ 60) (e0 : v 0 0 = nI T) (hk : k < 8) : gx_M l yX4_count wsX4_count ({ frames := 1, cells := 0, slots := 0, locals := 25 }) D vwCl (gT cI cG cL) [.ref (ad 0), .int (nI k)] (mW cI ad n t B v) (mW cI ad n t B (mu v 0 3 0)) (some (.int (mCountK n t B (mu v 0 3 0) T k))) := by
  refine gx_ofG (cc := cX4_count) (maxL := 5) (ret := (some .int)) [some (.ref (ad 0)), some (.int (nI k)), none, none, none] (by decide) rfl rfl (Nat.le_of_ble_eq_true rfl) rfl ?_
  intro p e s m args below meth c C hRt hlocks hK
  have C : CallFix p m c cX4_count 5 s args (wsX4_count) RX4 := C
  have hT : ∀ w ∈ bigW, w ∈ wsX4_count := bgT
  refine gx_aload_n C dX4_count_0 rfl ?_
  refine gx_iconst (v := 0) C dX4_count_1 (by decide) ?_
  refine mp_X4_thrown C hK hT m465 dX4_count_2 ?_
  refine gx_iconst (v := 0) C dX4_count_5 (by decide) ?_
  refine gx_istore_n (lv2 := [some _, some _, some _, none, none]) C dX4_count_6 (by decide) rfl ?_
  refine gx_iconst (v := 0) C dX4_count_7 (by decide) ?_
  refine gx_istore_n (lv2 := [some _, some _, some _, some _, none]) C dX4_count_8 (by decide) rfl ?_
  refine gx_iconst (v := 0) C dX4_count_9 (by decide) ?_
  refine gx_istore (lv2 := [some _, some _, some _, some _, some _]) C dX4_count_10 (by decide) rfl ?_
  refine lp_X4_count C hT hK hT6 e0 (fun y z w4 hy hz => ?_) T 0 _ _ (by omega) rfl rfl
  refine gx_iload_n C dX4_count_86 rfl ?_
  refine gx_bipush (v := 20) C dX4_count_87 (by decide) ?_
  refine gx_icmp_lt (tgt := 174) C dX4_count_89 (by decide) (fun c_89 => ?_) (fun c => absurd (nI_lt (b := 20) (by omega) (by decide)) c)
  refine gx_iload_n C dX4_count_174 rfl ?_
  rcases (show k = 0 ∨ k = 1 ∨ k = 2 ∨ k = 3 ∨ k = 4 ∨ k = 5 ∨ k = 6 ∨ k = 7 by omega) with hd | hd | hd | hd | hd | hd | hd | hd <;> rw [hd]
  · refine gx_tabIn (tgt := 220) C dX4_count_175 (by decide) (by decide) rfl (by decide) ?_
    refine gx_aload_n C dX4_count_220 rfl ?_
    refine mg_X4_rows C hK hT m466 dX4_count_221 ?_
    exact gx_iret C hRt hlocks dX4_count_224 rfl rfl
  · refine gx_tabIn (tgt := 225) C dX4_count_175 (by decide) (by decide) rfl (by decide) ?_
    refine gx_aload_n C dX4_count_225 rfl ?_
    refine mg_X4_tiers C hK hT m467 dX4_count_226 ?_
    exact gx_iret C hRt hlocks dX4_count_229 rfl rfl
  · refine gx_tabIn (tgt := 230) C dX4_count_175 (by decide) (by decide) rfl (by decide) ?_
    refine gx_aload_n C dX4_count_230 rfl ?_
    refine mg_X4_bears C hK hT m468 dX4_count_231 ?_
    exact gx_iret C hRt hlocks dX4_count_234 rfl rfl
  · refine gx_tabIn (tgt := 235) C dX4_count_175 (by decide) (by decide) rfl (by decide) ?_
    refine gx_aload_n C dX4_count_235 rfl ?_
    refine mg_X4_boxes C hK hT m471 dX4_count_236 ?_
    exact gx_iret C hRt hlocks dX4_count_239 rfl rfl
  · refine gx_tabIn (tgt := 240) C dX4_count_175 (by decide) (by decide) rfl (by decide) ?_
    refine gx_iload_n C dX4_count_240 rfl ?_
    exact gx_iret C hRt hlocks dX4_count_241 hy rfl
  · refine gx_tabIn (tgt := 242) C dX4_count_175 (by decide) (by decide) rfl (by decide) ?_
    refine gx_aload_n C dX4_count_242 rfl ?_
    refine mg_X4_made C hK hT m479 dX4_count_243 ?_
    exact gx_iret C hRt hlocks dX4_count_246 rfl rfl
  · refine gx_tabIn (tgt := 247) C dX4_count_175 (by decide) (by decide) rfl (by decide) ?_
    refine gx_iload_n C dX4_count_247 rfl ?_
    exact gx_iret C hRt hlocks dX4_count_248 hz rfl
  · refine gx_tabIn (tgt := 249) C dX4_count_175 (by decide) (by decide) rfl (by decide) ?_
    refine gx_aload_n C dX4_count_249 rfl ?_
    refine mg_X4_kept C hK hT m480 dX4_count_250 ?_
    exact gx_iret C hRt hlocks dX4_count_253 rfl rfl
set_option maxHeartbeats 4000000 in
set_option maxRecDepth 100000 in
theorem c_X4_count_mid {l : Launch} {D : va_G} {cI cG cL : ClassId} {ad : Nat → Nat} {n t : Nat} {B : Int32} {v : Nat → Nat → Int32} {x : Int32} {T : Nat} (hT6 : T ≤ 60) (e0 : v 0 0 = nI T) (hx : x.toInt < 0 ∨ 7 < x.toInt) (h20 : x < 20) : gx_M l yX4_count wsX4_count ({ frames := 1, cells := 0, slots := 0, locals := 25 }) D vwCl (gT cI cG cL) [.ref (ad 0), .int x] (mW cI ad n t B v) (mW cI ad n t B (mu v 0 3 0)) (some (.int (-1))) := by
  refine gx_ofG (cc := cX4_count) (maxL := 5) (ret := (some .int)) [some (.ref (ad 0)), some (.int x), none, none, none] (by decide) rfl rfl (Nat.le_of_ble_eq_true rfl) rfl ?_
  intro p e s m args below meth c C hRt hlocks hK
  have C : CallFix p m c cX4_count 5 s args (wsX4_count) RX4 := C
  have hT : ∀ w ∈ bigW, w ∈ wsX4_count := bgT
  refine gx_aload_n C dX4_count_0 rfl ?_
  refine gx_iconst (v := 0) C dX4_count_1 (by decide) ?_
  refine mp_X4_thrown C hK hT m465 dX4_count_2 ?_
  refine gx_iconst (v := 0) C dX4_count_5 (by decide) ?_
  refine gx_istore_n (lv2 := [some _, some _, some _, none, none]) C dX4_count_6 (by decide) rfl ?_
  refine gx_iconst (v := 0) C dX4_count_7 (by decide) ?_
  refine gx_istore_n (lv2 := [some _, some _, some _, some _, none]) C dX4_count_8 (by decide) rfl ?_
  refine gx_iconst (v := 0) C dX4_count_9 (by decide) ?_
  refine gx_istore (lv2 := [some _, some _, some _, some _, some _]) C dX4_count_10 (by decide) rfl ?_
  refine lp_X4_count C hT hK hT6 e0 (fun y z w4 hy hz => ?_) T 0 _ _ (by omega) rfl rfl
  refine gx_iload_n C dX4_count_86 rfl ?_
  refine gx_bipush (v := 20) C dX4_count_87 (by decide) ?_
  refine gx_icmp_lt (tgt := 174) C dX4_count_89 (by decide) (fun c_89 => ?_) (fun c => absurd h20 c)
  refine gx_iload_n C dX4_count_174 rfl ?_
  · refine gx_tabOut (tgt := 254) C dX4_count_175 hx (by decide) ?_
    refine gx_iconst (v := (-1)) C dX4_count_254 (by decide) ?_
    exact gx_iret C hRt hlocks dX4_count_255 rfl rfl
set_option maxHeartbeats 4000000 in
set_option maxRecDepth 100000 in
theorem c_X4_count_big {l : Launch} {D : va_G} {cI cG cL : ClassId} {ad : Nat → Nat} {n t : Nat} {B : Int32} {v : Nat → Nat → Int32} {x : Int32} {T : Nat} (hT6 : T ≤ 60) (e0 : v 0 0 = nI T) (h20 : ¬ x < 20) (hx : 100 ≤ x) : gx_M l yX4_count wsX4_count ({ frames := 1, cells := 0, slots := 0, locals := 25 }) D vwCl (gT cI cG cL) [.ref (ad 0), .int x] (mW cI ad n t B v) (mW cI ad n t B (mu v 0 3 0)) (some (.int (-1))) := by
  refine gx_ofG (cc := cX4_count) (maxL := 5) (ret := (some .int)) [some (.ref (ad 0)), some (.int x), none, none, none] (by decide) rfl rfl (Nat.le_of_ble_eq_true rfl) rfl ?_
  intro p e s m args below meth c C hRt hlocks hK
  have C : CallFix p m c cX4_count 5 s args (wsX4_count) RX4 := C
  have hT : ∀ w ∈ bigW, w ∈ wsX4_count := bgT
  refine gx_aload_n C dX4_count_0 rfl ?_
  refine gx_iconst (v := 0) C dX4_count_1 (by decide) ?_
  refine mp_X4_thrown C hK hT m465 dX4_count_2 ?_
  refine gx_iconst (v := 0) C dX4_count_5 (by decide) ?_
  refine gx_istore_n (lv2 := [some _, some _, some _, none, none]) C dX4_count_6 (by decide) rfl ?_
  refine gx_iconst (v := 0) C dX4_count_7 (by decide) ?_
  refine gx_istore_n (lv2 := [some _, some _, some _, some _, none]) C dX4_count_8 (by decide) rfl ?_
  refine gx_iconst (v := 0) C dX4_count_9 (by decide) ?_
  refine gx_istore (lv2 := [some _, some _, some _, some _, some _]) C dX4_count_10 (by decide) rfl ?_
  refine lp_X4_count C hT hK hT6 e0 (fun y z w4 hy hz => ?_) T 0 _ _ (by omega) rfl rfl
  refine gx_iload_n C dX4_count_86 rfl ?_
  refine gx_bipush (v := 20) C dX4_count_87 (by decide) ?_
  refine gx_icmp_lt (tgt := 174) C dX4_count_89 (by decide) (fun c => absurd c h20) (fun c_89 => ?_)
  refine gx_iload_n C dX4_count_92 rfl ?_
  refine gx_bipush (v := 20) C dX4_count_93 (by decide) ?_
  refine gx_isub C dX4_count_95 ?_
  refine gx_bipush (v := 20) C dX4_count_96 (by decide) ?_
  refine gx_irem C dX4_count_98 (by decide) ?_
  refine gx_istore (lv2 := [some _, some _, some _, some _, some _]) C dX4_count_99 (by decide) rfl ?_
  refine gx_iload_n C dX4_count_101 rfl ?_
  refine gx_bipush (v := 100) C dX4_count_102 (by decide) ?_
  refine gx_icmp_ge (tgt := 116) C dX4_count_104 (by decide) (fun c_104 => ?_) (fun c => absurd hx c)
  refine gx_iconst (v := (-1)) C dX4_count_116 (by decide) ?_
  refine gx_goto (tgt := 173) C dX4_count_117 (by decide) ?_
  exact gx_iret C hRt hlocks dX4_count_173 rfl rfl
set_option maxHeartbeats 4000000 in
set_option maxRecDepth 100000 in
theorem c_X4_count_row {l : Launch} {D : va_G} {cI cG cL : ClassId} {ad : Nat → Nat} {n t : Nat} {B : Int32} {v : Nat → Nat → Int32} {k : Nat} {T : Nat} (hT6 : T ≤ 60) (e0 : v 0 0 = nI T) (hn : n ≤ 16) (hk1 : 20 ≤ k) (hk2 : k < 100) : gx_M l yX4_count wsX4_count ({ frames := 1, cells := 0, slots := 0, locals := 25 }) D vwCl (gT cI cG cL) [.ref (ad 0), .int (nI k)] (mW cI ad n t B v) (mW cI ad n t B (mu v 0 3 0)) (some (.int (mCRK n (mu v 0 3 0) T k))) := by
  refine gx_ofG (cc := cX4_count) (maxL := 5) (ret := (some .int)) [some (.ref (ad 0)), some (.int (nI k)), none, none, none] (by decide) rfl rfl (Nat.le_of_ble_eq_true rfl) rfl ?_
  intro p e s m args below meth c C hRt hlocks hK
  have C : CallFix p m c cX4_count 5 s args (wsX4_count) RX4 := C
  have hT : ∀ w ∈ bigW, w ∈ wsX4_count := bgT
  refine gx_aload_n C dX4_count_0 rfl ?_
  refine gx_iconst (v := 0) C dX4_count_1 (by decide) ?_
  refine mp_X4_thrown C hK hT m465 dX4_count_2 ?_
  refine gx_iconst (v := 0) C dX4_count_5 (by decide) ?_
  refine gx_istore_n (lv2 := [some _, some _, some _, none, none]) C dX4_count_6 (by decide) rfl ?_
  refine gx_iconst (v := 0) C dX4_count_7 (by decide) ?_
  refine gx_istore_n (lv2 := [some _, some _, some _, some _, none]) C dX4_count_8 (by decide) rfl ?_
  refine gx_iconst (v := 0) C dX4_count_9 (by decide) ?_
  refine gx_istore (lv2 := [some _, some _, some _, some _, some _]) C dX4_count_10 (by decide) rfl ?_
  refine lp_X4_count C hT hK hT6 e0 (fun y z w4 hy hz => ?_) T 0 _ _ (by omega) rfl rfl
  refine gx_iload_n C dX4_count_86 rfl ?_
  refine gx_bipush (v := 20) C dX4_count_87 (by decide) ?_
  refine gx_icmp_lt (tgt := 174) C dX4_count_89 (by decide) (fun c => absurd c (nI_nlt (b := 20) (by omega) (by omega))) (fun c_89 => ?_)
  refine gx_iload_n C dX4_count_92 rfl ?_
  refine gx_bipush (v := 20) C dX4_count_93 (by decide) ?_
  refine gx_isub C dX4_count_95 ?_
  refine gx_bipush (v := 20) C dX4_count_96 (by decide) ?_
  refine gx_irem C dX4_count_98 (by decide) ?_
  rw [show nI k - 20 = nI (k - 20) from pk_sub (b := 20) (by omega), show nI (k - 20) - nI (k - 20) / 20 * 20 = nI (k % 20) by rw [show k % 20 = (k - 20) % 20 by omega]; exact pk_rem (d := 20) (by omega) (by decide) (by decide)]
  refine gx_istore (lv2 := [some _, some _, some _, some _, some _]) C dX4_count_99 (by decide) rfl ?_
  refine gx_iload_n C dX4_count_101 rfl ?_
  refine gx_bipush (v := 100) C dX4_count_102 (by decide) ?_
  refine gx_icmp_ge (tgt := 116) C dX4_count_104 (by decide) (fun c => absurd c (nI_ge (b := 100) (by omega) (by decide))) (fun c_104 => ?_)
  refine gx_aload_n C dX4_count_107 rfl ?_
  refine gx_iload C dX4_count_108 rfl ?_
  refine gx_cVi (n := 1) (q0 := 0) C hK (c_X4_isRow (l := l) (D := D) (cI := cI) (cG := cG) (cL := cL) (ad := ad) (n := n) (t := t) (B := B) (v := mu v 0 3 0) (x := nI (k % 20))) mW_fst (bgV hT m539 m541 slX4_isRow m7 m542) rfl rfl rfl (by decide +kernel) ⟨Nat.le_of_ble_eq_true rfl, Nat.le_of_ble_eq_true rfl⟩ rfl rfl rfl rfl (Nat.le_of_ble_eq_true rfl) (Nat.zero_le _) (Nat.zero_le _) dX4_count_110 ?_
  refine gx_if_ne (tgt := 120) C dX4_count_113 (by decide) (fun c_113 => ?_) (fun c_113 => ?_)
  · have hr : k % 20 < n := yRow_lt hn (by omega) (bI_t c_113)
    refine gx_iload_n C dX4_count_120 rfl ?_
    refine gx_bipush (v := 40) C dX4_count_121 (by decide) ?_
    refine gx_icmp_ge (tgt := 135) C dX4_count_123 (by decide) (fun c_123 => ?_) (fun c_123 => ?_)
    · refine gx_iload_n C dX4_count_135 rfl ?_
      refine gx_bipush (v := 60) C dX4_count_136 (by decide) ?_
      refine gx_icmp_ge (tgt := 150) C dX4_count_138 (by decide) (fun c_138 => ?_) (fun c_138 => ?_)
      · refine gx_iload_n C dX4_count_150 rfl ?_
        refine gx_bipush (v := 80) C dX4_count_151 (by decide) ?_
        refine gx_icmp_ge (tgt := 166) C dX4_count_153 (by decide) (fun c_153 => ?_) (fun c_153 => ?_)
        · refine gx_aload_n C dX4_count_166 rfl ?_
          refine mg_X4_reserved C hK hT m470 dX4_count_167 ?_
          refine gx_iload C dX4_count_170 rfl ?_
          refine ml_12 C hK rfl (by omega) dX4_count_172 ?_
          exact gx_iret C hRt hlocks dX4_count_173 (by rw [mCRK, if_pos hr, if_neg (fun q => nI_ge (b := 40) q (by decide) c_123), if_neg (fun q => nI_ge (b := 60) q (by decide) c_138), if_neg (fun q => nI_ge (b := 80) q (by decide) c_153)]) rfl
        · refine gx_aload_n C dX4_count_156 rfl ?_
          refine mg_X4_ground C hK hT m469 dX4_count_157 ?_
          refine gx_iload C dX4_count_160 rfl ?_
          refine ml_11 C hK rfl (by omega) dX4_count_162 ?_
          refine gx_goto (tgt := 173) C dX4_count_163 (by decide) ?_
          exact gx_iret C hRt hlocks dX4_count_173 (by rw [mCRK, if_pos hr, if_neg (fun q => nI_ge (b := 40) q (by decide) c_123), if_neg (fun q => nI_ge (b := 60) q (by decide) c_138), if_pos ((nI_ltI (b := 80) (by omega) (by decide)).mp (Int32.not_le.mp c_153))]) rfl
      · refine gx_aload_n C dX4_count_141 rfl ?_
        refine gx_iload C dX4_count_142 rfl ?_
        refine gx_cVi (n := 1) (q0 := 0) C hK (c_X4_weightOf (l := l) (D := D) (cI := cI) (cG := cG) (cL := cL) (ad := ad) (n := n) (t := t) (B := B) (v := mu v 0 3 0) (a := nI (k % 20)) hT6 e0) mW_fst (bgV hT m567 m569 slX4_weightOf m7 m570) rfl rfl rfl (by decide +kernel) ⟨Nat.le_of_ble_eq_true rfl, Nat.le_of_ble_eq_true rfl⟩ rfl rfl rfl rfl (Nat.le_of_ble_eq_true rfl) (Nat.zero_le _) (Nat.zero_le _) dX4_count_144 ?_
        refine gx_goto (tgt := 173) C dX4_count_147 (by decide) ?_
        exact gx_iret C hRt hlocks dX4_count_173 (by rw [mCRK, if_pos hr, if_neg (fun q => nI_ge (b := 40) q (by decide) c_123), if_pos ((nI_ltI (b := 60) (by omega) (by decide)).mp (Int32.not_le.mp c_138))]) rfl
    · refine gx_aload_n C dX4_count_126 rfl ?_
      refine gx_iload C dX4_count_127 rfl ?_
      refine gx_cVi (n := 1) (q0 := 0) C hK (c_X4_heightOf (l := l) (D := D) (cI := cI) (cG := cG) (cL := cL) (ad := ad) (n := n) (t := t) (B := B) (v := mu v 0 3 0) (a := nI (k % 20)) hT6 e0) mW_fst (bgV hT m543 m545 slX4_heightOf m7 m546) rfl rfl rfl (by decide +kernel) ⟨Nat.le_of_ble_eq_true rfl, Nat.le_of_ble_eq_true rfl⟩ rfl rfl rfl rfl (Nat.le_of_ble_eq_true rfl) (Nat.zero_le _) (Nat.zero_le _) dX4_count_129 ?_
      refine gx_goto (tgt := 173) C dX4_count_132 (by decide) ?_
      exact gx_iret C hRt hlocks dX4_count_173 (by rw [mCRK, if_pos hr, if_pos ((nI_ltI (b := 40) (by omega) (by decide)).mp (Int32.not_le.mp c_123))]) rfl
  · refine gx_iconst (v := (-1)) C dX4_count_116 (by decide) ?_
    refine gx_goto (tgt := 173) C dX4_count_117 (by decide) ?_
    exact gx_iret C hRt hlocks dX4_count_173 (by rw [mCRK, if_neg (yRow_nlt (by omega) hn (bI_f c_113))]) rfl
set_option maxHeartbeats 4000000 in
set_option maxRecDepth 100000 in
theorem lp_X4_choose {l : Launch} {D : va_G} {cI cG cL : ClassId} {ad : Nat → Nat} {n t : Nat} {B : Int32} {v : Nat → Nat → Int32} {b T : Nat} {p : Program} {e : Env} {s : State} {m : MethodId} {args : Array Value} {below : List Frame} {meth : Method} {c : Code} (C : CallFix p m c cX4_choose 4 s args wsX4_choose RX4) (hT : ∀ w ∈ bigW, w ∈ wsX4_choose) (hRt : meth.sig.returnType = (some .int)) (hlocks : meth.locks = false) (hK : va_K D vwCl (gT cI cG cL) s) (hT6 : T ≤ 60) (e0 : v 0 0 = nI T) (hb : b < 60) (hB : yHas v (nI b) = true) (hn : n ≤ 16) (hs : v 7 b < 0) (hsc : ∀ r, r < n → mHt (mu v 0 3 0) (nI r) T = 0 ∨ ∃ q, q < 60 ∧ mAt (mu v 0 3 0) (nI r) (nI (mHt (mu v 0 3 0) (nI r) T) - 1) T = nI q) : ∀ (j : Nat) (x y : Int32), j ≤ n → x = nI j - 1 → y = mDn (fun r => decide (mBr t B (mu v 0 3 0) T b r = 0)) (fun r => mSc (mu v 0 3 0) T b r) n (n - j) → gx_G p l e (headSpec wsX4_choose ({ frames := 2, cells := 0, slots := 0, locals := 51 })).room s m args below meth c D vwCl (gx_in (mW cI ad n t B v)) 4 0 0 (gx_Qm D vwCl below args s (mW cI ad n t B v) (mW cI ad n t B (mu v 0 3 0)) (some (.int (mDn (fun r => decide (mBr t B (mu v 0 3 0) T b r = 0)) (fun r => mSc (mu v 0 3 0) T b r) n n)))) (mW cI ad n t B (mu v 0 3 0)) 28 [some (.ref (ad 0)), some (.int (nI b)), some (.int y), some (.int x)] [] := by
  intro j
  induction j with
  | zero =>
    intro x y hj hx hy
    subst hx
    refine gx_iload_n C dX4_choose_28 rfl ?_
    refine gx_if_lt (tgt := 77) C dX4_choose_29 (by decide) (fun c_29 => ?_) (fun c => absurd (by decide) c)
    refine gx_iload_n C dX4_choose_77 rfl ?_
    exact gx_iret C hRt hlocks dX4_choose_78 (by rw [hy]; rfl) rfl
  | succ j ih =>
    intro x y hj hx hy
    obtain rfl : x = nI j := hx.trans (nI_pred j)
    refine gx_iload_n C dX4_choose_28 rfl ?_
    refine gx_if_lt (tgt := 77) C dX4_choose_29 (by decide) (fun c => absurd c (m_n0 (by omega))) (fun c_29 => ?_)
    refine gx_aload_n C dX4_choose_32 rfl ?_
    refine mg_X4_rowOf C hK hT m477 dX4_choose_33 ?_
    refine gx_iload_n C dX4_choose_36 rfl ?_
    refine ml_7 C hK rfl (by omega) dX4_choose_37 ?_
    refine gx_if_ge (tgt := 77) C dX4_choose_38 (by decide) (fun c => absurd hs (Int32.not_lt.mpr c)) (fun c_38 => ?_)
    refine gx_aload_n C dX4_choose_41 rfl ?_
    refine gx_iload_n C dX4_choose_42 rfl ?_
    refine gx_iload_n C dX4_choose_43 rfl ?_
    refine gx_cVi (n := 2) (q0 := 0) C hK (c_X4_broken (l := l) (D := D) (cI := cI) (cG := cG) (cL := cL) (ad := ad) (n := n) (t := t) (B := B) (v := mu v 0 3 0) (r := j) hT6 e0 hb (show j < 16 by omega)) mW_fst (bgV hT m559 m561 slX4_broken m7 m562) rfl rfl rfl (by decide +kernel) ⟨Nat.le_of_ble_eq_true rfl, Nat.le_of_ble_eq_true rfl⟩ rfl rfl rfl rfl (Nat.le_of_ble_eq_true rfl) (Nat.zero_le _) (Nat.zero_le _) dX4_choose_44 ?_
    refine gx_if_ne (tgt := 71) C dX4_choose_47 (by decide) (fun c_47 => ?_) (fun c_47 => ?_)
    · refine gx_iinc (lv2 := [some _, some _, some _, some _]) C dX4_choose_71 rfl rfl (by decide) rfl ?_
      refine gx_goto (tgt := 28) C dX4_choose_74 (by decide) ?_
      exact ih _ _ (by omega) (by rw [show (Int32.ofInt (-1)) = -1 from rfl]; exact m_add_m1 _) (by rw [show n - j = n - (j + 1) + 1 by omega, mDn, show n - 1 - (n - (j + 1)) = j by omega, ← hy]; rw [if_neg (fun q => c_47 (of_decide_eq_true q.1))])
    · refine gx_iload_n C dX4_choose_50 rfl ?_
      refine gx_if_lt (tgt := 69) C dX4_choose_51 (by decide) (fun c_51 => ?_) (fun c_51 => ?_)
      · refine gx_iload_n C dX4_choose_69 rfl ?_
        refine gx_istore_n (lv2 := [some _, some _, some _, some _]) C dX4_choose_70 (by decide) rfl ?_
        refine gx_iinc (lv2 := [some _, some _, some _, some _]) C dX4_choose_71 rfl rfl (by decide) rfl ?_
        refine gx_goto (tgt := 28) C dX4_choose_74 (by decide) ?_
        exact ih _ _ (by omega) (by rw [show (Int32.ofInt (-1)) = -1 from rfl]; exact m_add_m1 _) (by rw [show n - j = n - (j + 1) + 1 by omega, mDn, show n - 1 - (n - (j + 1)) = j by omega, ← hy]; rw [if_pos ⟨decide_eq_true c_47, Or.inl c_51⟩])
      · obtain ⟨q, hq, eq⟩ := mDn_some (show 0 < n by omega) (hy ▸ c_51)
        obtain rfl : y = nI q := hy.trans eq
        refine gx_aload_n C dX4_choose_54 rfl ?_
        refine gx_iload_n C dX4_choose_55 rfl ?_
        refine gx_iload_n C dX4_choose_56 rfl ?_
        refine gx_cVi (n := 2) (q0 := 0) C hK (c_X4_scoreOf (l := l) (D := D) (cI := cI) (cG := cG) (cL := cL) (ad := ad) (n := n) (t := t) (B := B) (v := mu v 0 3 0) (r := j) hT6 e0 hb (show j < 16 by omega) (hsc j (show j < n by omega))) mW_fst (bgV hT m599 m601 slX4_scoreOf m7 m602) rfl rfl rfl (by decide +kernel) ⟨Nat.le_of_ble_eq_true rfl, Nat.le_of_ble_eq_true rfl⟩ rfl rfl rfl rfl (Nat.le_of_ble_eq_true rfl) (Nat.zero_le _) (Nat.zero_le _) dX4_choose_57 ?_
        refine gx_aload_n C dX4_choose_60 rfl ?_
        refine gx_iload_n C dX4_choose_61 rfl ?_
        refine gx_iload_n C dX4_choose_62 rfl ?_
        refine gx_cVi (n := 2) (q0 := 0) C hK (c_X4_scoreOf (l := l) (D := D) (cI := cI) (cG := cG) (cL := cL) (ad := ad) (n := n) (t := t) (B := B) (v := mu v 0 3 0) (r := q) hT6 e0 hb (show q < 16 by omega) (hsc q hq)) mW_fst (bgV hT m599 m601 slX4_scoreOf m7 m602) rfl rfl rfl (by decide +kernel) ⟨Nat.le_of_ble_eq_true rfl, Nat.le_of_ble_eq_true rfl⟩ rfl rfl rfl rfl (Nat.le_of_ble_eq_true rfl) (Nat.zero_le _) (Nat.zero_le _) dX4_choose_63 ?_
        refine gx_icmp_lt (tgt := 71) C dX4_choose_66 (by decide) (fun c_66 => ?_) (fun c_66 => ?_)
        · refine gx_iinc (lv2 := [some _, some _, some _, some _]) C dX4_choose_71 rfl rfl (by decide) rfl ?_
          refine gx_goto (tgt := 28) C dX4_choose_74 (by decide) ?_
          exact ih _ _ (by omega) (by rw [show (Int32.ofInt (-1)) = -1 from rfl]; exact m_add_m1 _) (by rw [show n - j = n - (j + 1) + 1 by omega, mDn, show n - 1 - (n - (j + 1)) = j by omega, ← hy]; rw [if_neg (fun q => q.2.elim (fun q => (m_n0 (by omega)) q) (fun q => q (by rw [nI_clamp (by omega)]; exact c_66)))])
        · refine gx_iload_n C dX4_choose_69 rfl ?_
          refine gx_istore_n (lv2 := [some _, some _, some _, some _]) C dX4_choose_70 (by decide) rfl ?_
          refine gx_iinc (lv2 := [some _, some _, some _, some _]) C dX4_choose_71 rfl rfl (by decide) rfl ?_
          refine gx_goto (tgt := 28) C dX4_choose_74 (by decide) ?_
          exact ih _ _ (by omega) (by rw [show (Int32.ofInt (-1)) = -1 from rfl]; exact m_add_m1 _) (by rw [show n - j = n - (j + 1) + 1 by omega, mDn, show n - 1 - (n - (j + 1)) = j by omega, ← hy]; rw [if_pos ⟨decide_eq_true c_47, Or.inr (by rw [nI_clamp (by omega)]; exact c_66)⟩])
set_option maxHeartbeats 4000000 in
set_option maxRecDepth 100000 in
theorem c_X4_choose {l : Launch} {D : va_G} {cI cG cL : ClassId} {ad : Nat → Nat} {n t : Nat} {B : Int32} {v : Nat → Nat → Int32} {b T : Nat} (hT6 : T ≤ 60) (e0 : v 0 0 = nI T) (hb : b < 60) (hB : yHas v (nI b) = true) (hn : n ≤ 16) (hs : v 7 b < 0) (hsc : ∀ r, r < n → mHt (mu v 0 3 0) (nI r) T = 0 ∨ ∃ q, q < 60 ∧ mAt (mu v 0 3 0) (nI r) (nI (mHt (mu v 0 3 0) (nI r) T) - 1) T = nI q) : gx_M l yX4_choose wsX4_choose ({ frames := 2, cells := 0, slots := 0, locals := 51 }) D vwCl (gT cI cG cL) [.ref (ad 0), .int (nI b)] (mW cI ad n t B v) (mW cI ad n t B (mu v 0 3 0)) (some (.int (mDn (fun r => decide (mBr t B (mu v 0 3 0) T b r = 0)) (fun r => mSc (mu v 0 3 0) T b r) n n))) := by
  refine gx_ofG (cc := cX4_choose) (maxL := 4) (ret := (some .int)) [some (.ref (ad 0)), some (.int (nI b)), none, none] (by decide) rfl rfl (Nat.le_of_ble_eq_true rfl) rfl ?_
  intro p e s m args below meth c C hRt hlocks hK
  have C : CallFix p m c cX4_choose 4 s args (wsX4_choose) RX4 := C
  have hT : ∀ w ∈ bigW, w ∈ wsX4_choose := bgT
  refine gx_aload_n C dX4_choose_0 rfl ?_
  refine gx_iload_n C dX4_choose_1 rfl ?_
  refine gx_cVi (n := 1) (q0 := 0) C hK (c_X4_isBox (l := l) (D := D) (cI := cI) (cG := cG) (cL := cL) (ad := ad) (n := n) (t := t) (B := B) (v := v) (x := nI b)) mW_fst (bgV hT m555 m557 slX4_isBox m7 m558) rfl rfl rfl (by decide +kernel) ⟨Nat.le_of_ble_eq_true rfl, Nat.le_of_ble_eq_true rfl⟩ rfl rfl rfl rfl (Nat.le_of_ble_eq_true rfl) (Nat.zero_le _) (Nat.zero_le _) dX4_choose_2 ?_
  refine gx_if_ne (tgt := 14) C dX4_choose_5 (by decide) (fun c_5 => ?_) (fun c => absurd c (by rw [hB]; decide))
  refine gx_aload_n C dX4_choose_14 rfl ?_
  refine gx_iconst (v := 0) C dX4_choose_15 (by decide) ?_
  refine mp_X4_thrown C hK hT m465 dX4_choose_16 ?_
  refine gx_iconst (v := (-1)) C dX4_choose_19 (by decide) ?_
  refine gx_istore_n (lv2 := [some _, some _, some _, none]) C dX4_choose_20 (by decide) rfl ?_
  refine gx_aload_n C dX4_choose_21 rfl ?_
  refine mg_X4_rows C hK hT m466 dX4_choose_22 ?_
  refine gx_iconst (v := 1) C dX4_choose_25 (by decide) ?_
  refine gx_isub C dX4_choose_26 ?_
  refine gx_istore_n (lv2 := [some _, some _, some _, some _]) C dX4_choose_27 (by decide) rfl ?_
  exact lp_X4_choose C hT hRt hlocks hK hT6 e0 hb hB hn hs hsc n _ _ (Nat.le_refl _) rfl (by rw [Nat.sub_self]; rfl)
set_option maxHeartbeats 4000000 in
set_option maxRecDepth 100000 in
theorem c_X4_choose_bad {l : Launch} {D : va_G} {cI cG cL : ClassId} {ad : Nat → Nat} {n t : Nat} {B : Int32} {v : Nat → Nat → Int32} {x : Int32} (hF : yHas v x = false) : gx_M l yX4_choose wsX4_choose ({ frames := 1, cells := 0, slots := 0, locals := 21 }) D vwCl (gT cI cG cL) [.ref (ad 0), .int x] (mW cI ad n t B v) (mW cI ad n t B (mu v 0 3 1)) (some (.int 0)) := by
  refine gx_ofG (cc := cX4_choose) (maxL := 4) (ret := (some .int)) [some (.ref (ad 0)), some (.int x), none, none] (by decide) rfl rfl (Nat.le_of_ble_eq_true rfl) rfl ?_
  intro p e s m args below meth c C hRt hlocks hK
  have C : CallFix p m c cX4_choose 4 s args (wsX4_choose) RX4 := C
  have hT : ∀ w ∈ bigW, w ∈ wsX4_choose := bgT
  refine gx_aload_n C dX4_choose_0 rfl ?_
  refine gx_iload_n C dX4_choose_1 rfl ?_
  refine gx_cVi (n := 1) (q0 := 0) C hK (c_X4_isBox (l := l) (D := D) (cI := cI) (cG := cG) (cL := cL) (ad := ad) (n := n) (t := t) (B := B) (v := v) (x := x)) mW_fst (bgV hT m555 m557 slX4_isBox m7 m558) rfl rfl rfl (by decide +kernel) ⟨Nat.le_of_ble_eq_true rfl, Nat.le_of_ble_eq_true rfl⟩ rfl rfl rfl rfl (Nat.le_of_ble_eq_true rfl) (Nat.zero_le _) (Nat.zero_le _) dX4_choose_2 ?_
  refine gx_if_ne (tgt := 14) C dX4_choose_5 (by decide) (fun c => absurd (bI_0.mpr hF) c) (fun c_5 => ?_)
  refine gx_aload_n C dX4_choose_8 rfl ?_
  refine gx_iconst (v := 1) C dX4_choose_9 (by decide) ?_
  refine gx_cVi (n := 1) (q0 := 0) C hK (c_X4_fails (l := l) (D := D) (cI := cI) (cG := cG) (cL := cL) (ad := ad) (n := n) (t := t) (B := B) (v := v) (x := 1)) mW_fst (bgV hT m531 m533 slX4_fails m7 m534) rfl rfl rfl (by decide +kernel) ⟨Nat.le_of_ble_eq_true rfl, Nat.le_of_ble_eq_true rfl⟩ rfl rfl rfl rfl (Nat.le_of_ble_eq_true rfl) (Nat.zero_le _) (Nat.zero_le _) dX4_choose_10 ?_
  exact gx_iret C hRt hlocks dX4_choose_13 rfl rfl
set_option maxHeartbeats 4000000 in
set_option maxRecDepth 100000 in
theorem c_X4_choose_st {l : Launch} {D : va_G} {cI cG cL : ClassId} {ad : Nat → Nat} {n t : Nat} {B : Int32} {v : Nat → Nat → Int32} {b T : Nat} (hT6 : T ≤ 60) (e0 : v 0 0 = nI T) (hb : b < 60) (hB : yHas v (nI b) = true) (hn : n ≤ 16) (hs : ¬ v 7 b < 0) : gx_M l yX4_choose wsX4_choose ({ frames := 1, cells := 0, slots := 0, locals := 21 }) D vwCl (gT cI cG cL) [.ref (ad 0), .int (nI b)] (mW cI ad n t B v) (mW cI ad n t B (mu v 0 3 0)) (some (.int (-1))) := by
  refine gx_ofG (cc := cX4_choose) (maxL := 4) (ret := (some .int)) [some (.ref (ad 0)), some (.int (nI b)), none, none] (by decide) rfl rfl (Nat.le_of_ble_eq_true rfl) rfl ?_
  intro p e s m args below meth c C hRt hlocks hK
  have C : CallFix p m c cX4_choose 4 s args (wsX4_choose) RX4 := C
  have hT : ∀ w ∈ bigW, w ∈ wsX4_choose := bgT
  refine gx_aload_n C dX4_choose_0 rfl ?_
  refine gx_iload_n C dX4_choose_1 rfl ?_
  refine gx_cVi (n := 1) (q0 := 0) C hK (c_X4_isBox (l := l) (D := D) (cI := cI) (cG := cG) (cL := cL) (ad := ad) (n := n) (t := t) (B := B) (v := v) (x := nI b)) mW_fst (bgV hT m555 m557 slX4_isBox m7 m558) rfl rfl rfl (by decide +kernel) ⟨Nat.le_of_ble_eq_true rfl, Nat.le_of_ble_eq_true rfl⟩ rfl rfl rfl rfl (Nat.le_of_ble_eq_true rfl) (Nat.zero_le _) (Nat.zero_le _) dX4_choose_2 ?_
  refine gx_if_ne (tgt := 14) C dX4_choose_5 (by decide) (fun c_5 => ?_) (fun c => absurd c (by rw [hB]; decide))
  refine gx_aload_n C dX4_choose_14 rfl ?_
  refine gx_iconst (v := 0) C dX4_choose_15 (by decide) ?_
  refine mp_X4_thrown C hK hT m465 dX4_choose_16 ?_
  refine gx_iconst (v := (-1)) C dX4_choose_19 (by decide) ?_
  refine gx_istore_n (lv2 := [some _, some _, some _, none]) C dX4_choose_20 (by decide) rfl ?_
  refine gx_aload_n C dX4_choose_21 rfl ?_
  refine mg_X4_rows C hK hT m466 dX4_choose_22 ?_
  refine gx_iconst (v := 1) C dX4_choose_25 (by decide) ?_
  refine gx_isub C dX4_choose_26 ?_
  refine gx_istore_n (lv2 := [some _, some _, some _, some _]) C dX4_choose_27 (by decide) rfl ?_
  refine gx_iload_n C dX4_choose_28 rfl ?_
  refine gx_if_lt (tgt := 77) C dX4_choose_29 (by decide) (fun c_29 => ?_) (fun c_29 => ?_)
  · refine gx_iload_n C dX4_choose_77 rfl ?_
    exact gx_iret C hRt hlocks dX4_choose_78 rfl rfl
  · refine gx_aload_n C dX4_choose_32 rfl ?_
    refine mg_X4_rowOf C hK hT m477 dX4_choose_33 ?_
    refine gx_iload_n C dX4_choose_36 rfl ?_
    refine ml_7 C hK rfl (by omega) dX4_choose_37 ?_
    refine gx_if_ge (tgt := 77) C dX4_choose_38 (by decide) (fun c_38 => ?_) (fun c => absurd (Int32.not_lt.mp hs) c)
    refine gx_iload_n C dX4_choose_77 rfl ?_
    exact gx_iret C hRt hlocks dX4_choose_78 rfl rfl
set_option maxHeartbeats 4000000 in
set_option maxRecDepth 100000 in
theorem lp_X4_aside {l : Launch} {D : va_G} {cI cG cL : ClassId} {ad : Nat → Nat} {n t : Nat} {B : Int32} {v : Nat → Nat → Int32} {b T : Nat} {p : Program} {e : Env} {s : State} {m : MethodId} {args : Array Value} {below : List Frame} {meth : Method} {c : Code} (C : CallFix p m c cX4_aside 5 s args wsX4_aside RX4) (hT : ∀ w ∈ bigW, w ∈ wsX4_aside) (hRt : meth.sig.returnType = (some .int)) (hlocks : meth.locks = false) (hK : va_K D vwCl (gT cI cG cL) s) (hT6 : T ≤ 60) (e0 : v 0 0 = nI T) (hb : b < 60) (hn : n ≤ 16) (hsc : ∀ r, r < n → mHt v (nI r) T = 0 ∨ ∃ q, q < 60 ∧ mAt v (nI r) (nI (mHt v (nI r) T) - 1) T = nI q) : ∀ (j : Nat) (x y : Int32) (w4 : Option Value), j ≤ n → x = nI j - 1 → y = mDn (fun r => decide (¬ nI r = v 7 b ∧ mBr t B v T b r = 0 ∧ nI (mSo v b (nI r) (nI t) T) = 0)) (fun r => mSc v T b r) n (n - j) → gx_G p l e (headSpec wsX4_aside ({ frames := 2, cells := 0, slots := 0, locals := 51 })).room s m args below meth c D vwCl (gx_in (mW cI ad n t B v)) 5 0 0 (gx_Qm D vwCl below args s (mW cI ad n t B v) (mW cI ad n t B v) (some (.int (mAsd n t B v T b)))) (mW cI ad n t B v) 9 [some (.ref (ad 0)), some (.int (nI b)), some (.int y), some (.int x), w4] [] := by
  intro j
  induction j with
  | zero =>
    intro x y w4 hj hx hy
    subst hx
    refine gx_iload_n C dX4_aside_9 rfl ?_
    refine gx_if_lt (tgt := 84) C dX4_aside_10 (by decide) (fun c_10 => ?_) (fun c => absurd (by decide) c)
    refine gx_iload_n C dX4_aside_84 rfl ?_
    exact gx_iret C hRt hlocks dX4_aside_85 (by rw [hy]; rfl) rfl
  | succ j ih =>
    intro x y w4 hj hx hy
    obtain rfl : x = nI j := hx.trans (nI_pred j)
    refine gx_iload_n C dX4_aside_9 rfl ?_
    refine gx_if_lt (tgt := 84) C dX4_aside_10 (by decide) (fun c => absurd c (m_n0 (by omega))) (fun c_10 => ?_)
    refine gx_iload_n C dX4_aside_13 rfl ?_
    refine gx_aload_n C dX4_aside_14 rfl ?_
    refine mg_X4_rowOf C hK hT m477 dX4_aside_15 ?_
    refine gx_iload_n C dX4_aside_18 rfl ?_
    refine ml_7 C hK rfl (by omega) dX4_aside_19 ?_
    refine gx_icmp_eq (tgt := 49) C dX4_aside_20 (by decide) (fun c_20 => ?_) (fun c_20 => ?_)
    · refine gx_iconst (v := 0) C dX4_aside_49 (by decide) ?_
      refine gx_istore (lv2 := [some _, some _, some _, some _, some _]) C dX4_aside_50 (by decide) rfl ?_
      refine gx_iload C dX4_aside_52 rfl ?_
      refine gx_if_eq (tgt := 78) C dX4_aside_54 (by decide) (fun c_54 => ?_) (fun c => absurd c (by decide))
      refine gx_iinc (lv2 := [some _, some _, some _, some _, some _]) C dX4_aside_78 rfl rfl (by decide) rfl ?_
      refine gx_goto (tgt := 9) C dX4_aside_81 (by decide) ?_
      exact ih _ _ _ (by omega) (by rw [show (Int32.ofInt (-1)) = -1 from rfl]; exact m_add_m1 _) (by rw [show n - j = n - (j + 1) + 1 by omega, mDn, show n - 1 - (n - (j + 1)) = j by omega, ← hy]; rw [if_neg (fun q => (of_decide_eq_true q.1).1 c_20)])
    · refine gx_aload_n C dX4_aside_23 rfl ?_
      refine gx_iload_n C dX4_aside_24 rfl ?_
      refine gx_iload_n C dX4_aside_25 rfl ?_
      refine gx_cVi (n := 2) (q0 := 0) C hK (c_X4_broken (l := l) (D := D) (cI := cI) (cG := cG) (cL := cL) (ad := ad) (n := n) (t := t) (B := B) (v := v) (r := j) hT6 e0 hb (show j < 16 by omega)) mW_fst (bgV hT m559 m561 slX4_broken m7 m562) rfl rfl rfl (by decide +kernel) ⟨Nat.le_of_ble_eq_true rfl, Nat.le_of_ble_eq_true rfl⟩ rfl rfl rfl rfl (Nat.le_of_ble_eq_true rfl) (Nat.zero_le _) (Nat.zero_le _) dX4_aside_26 ?_
      refine gx_if_ne (tgt := 49) C dX4_aside_29 (by decide) (fun c_29 => ?_) (fun c_29 => ?_)
      · refine gx_iconst (v := 0) C dX4_aside_49 (by decide) ?_
        refine gx_istore (lv2 := [some _, some _, some _, some _, some _]) C dX4_aside_50 (by decide) rfl ?_
        refine gx_iload C dX4_aside_52 rfl ?_
        refine gx_if_eq (tgt := 78) C dX4_aside_54 (by decide) (fun c_54 => ?_) (fun c => absurd c (by decide))
        refine gx_iinc (lv2 := [some _, some _, some _, some _, some _]) C dX4_aside_78 rfl rfl (by decide) rfl ?_
        refine gx_goto (tgt := 9) C dX4_aside_81 (by decide) ?_
        exact ih _ _ _ (by omega) (by rw [show (Int32.ofInt (-1)) = -1 from rfl]; exact m_add_m1 _) (by rw [show n - j = n - (j + 1) + 1 by omega, mDn, show n - 1 - (n - (j + 1)) = j by omega, ← hy]; rw [if_neg (fun q => c_29 (of_decide_eq_true q.1).2.1)])
      · refine gx_aload_n C dX4_aside_32 rfl ?_
        refine gx_iload_n C dX4_aside_33 rfl ?_
        refine gx_iload_n C dX4_aside_34 rfl ?_
        refine gx_aload_n C dX4_aside_35 rfl ?_
        refine mg_X4_tiers C hK hT m467 dX4_aside_36 ?_
        refine gx_cVi (n := 3) (q0 := 0) C hK (c_X4_sooner (l := l) (D := D) (cI := cI) (cG := cG) (cL := cL) (ad := ad) (n := n) (t := t) (B := B) (v := v) (b := b) (a := nI j) (y := nI t) hT6 e0 hb) mW_fst (bgV hT m603 m605 slX4_sooner m7 m606) rfl rfl rfl (by decide +kernel) ⟨Nat.le_of_ble_eq_true rfl, Nat.le_of_ble_eq_true rfl⟩ rfl rfl rfl rfl (Nat.le_of_ble_eq_true rfl) (Nat.zero_le _) (Nat.zero_le _) dX4_aside_39 ?_
        refine gx_if_ne (tgt := 49) C dX4_aside_42 (by decide) (fun c_42 => ?_) (fun c_42 => ?_)
        · refine gx_iconst (v := 0) C dX4_aside_49 (by decide) ?_
          refine gx_istore (lv2 := [some _, some _, some _, some _, some _]) C dX4_aside_50 (by decide) rfl ?_
          refine gx_iload C dX4_aside_52 rfl ?_
          refine gx_if_eq (tgt := 78) C dX4_aside_54 (by decide) (fun c_54 => ?_) (fun c => absurd c (by decide))
          refine gx_iinc (lv2 := [some _, some _, some _, some _, some _]) C dX4_aside_78 rfl rfl (by decide) rfl ?_
          refine gx_goto (tgt := 9) C dX4_aside_81 (by decide) ?_
          exact ih _ _ _ (by omega) (by rw [show (Int32.ofInt (-1)) = -1 from rfl]; exact m_add_m1 _) (by rw [show n - j = n - (j + 1) + 1 by omega, mDn, show n - 1 - (n - (j + 1)) = j by omega, ← hy]; rw [if_neg (fun q => c_42 (of_decide_eq_true q.1).2.2)])
        · refine gx_iconst (v := 1) C dX4_aside_45 (by decide) ?_
          refine gx_goto (tgt := 50) C dX4_aside_46 (by decide) ?_
          refine gx_istore (lv2 := [some _, some _, some _, some _, some _]) C dX4_aside_50 (by decide) rfl ?_
          refine gx_iload C dX4_aside_52 rfl ?_
          refine gx_if_eq (tgt := 78) C dX4_aside_54 (by decide) (fun c => absurd c (by decide)) (fun c_54 => ?_)
          refine gx_iload_n C dX4_aside_57 rfl ?_
          refine gx_if_lt (tgt := 76) C dX4_aside_58 (by decide) (fun c_58 => ?_) (fun c_58 => ?_)
          · refine gx_iload_n C dX4_aside_76 rfl ?_
            refine gx_istore_n (lv2 := [some _, some _, some _, some _, some _]) C dX4_aside_77 (by decide) rfl ?_
            refine gx_iinc (lv2 := [some _, some _, some _, some _, some _]) C dX4_aside_78 rfl rfl (by decide) rfl ?_
            refine gx_goto (tgt := 9) C dX4_aside_81 (by decide) ?_
            exact ih _ _ _ (by omega) (by rw [show (Int32.ofInt (-1)) = -1 from rfl]; exact m_add_m1 _) (by rw [show n - j = n - (j + 1) + 1 by omega, mDn, show n - 1 - (n - (j + 1)) = j by omega, ← hy]; rw [if_pos ⟨decide_eq_true ⟨c_20, c_29, c_42⟩, Or.inl c_58⟩])
          · obtain ⟨q, hq, eq⟩ := mDn_some (show 0 < n by omega) (hy ▸ c_58)
            obtain rfl : y = nI q := hy.trans eq
            refine gx_aload_n C dX4_aside_61 rfl ?_
            refine gx_iload_n C dX4_aside_62 rfl ?_
            refine gx_iload_n C dX4_aside_63 rfl ?_
            refine gx_cVi (n := 2) (q0 := 0) C hK (c_X4_scoreOf (l := l) (D := D) (cI := cI) (cG := cG) (cL := cL) (ad := ad) (n := n) (t := t) (B := B) (v := v) (r := j) hT6 e0 hb (show j < 16 by omega) (hsc j (show j < n by omega))) mW_fst (bgV hT m599 m601 slX4_scoreOf m7 m602) rfl rfl rfl (by decide +kernel) ⟨Nat.le_of_ble_eq_true rfl, Nat.le_of_ble_eq_true rfl⟩ rfl rfl rfl rfl (Nat.le_of_ble_eq_true rfl) (Nat.zero_le _) (Nat.zero_le _) dX4_aside_64 ?_
            refine gx_aload_n C dX4_aside_67 rfl ?_
            refine gx_iload_n C dX4_aside_68 rfl ?_
            refine gx_iload_n C dX4_aside_69 rfl ?_
            refine gx_cVi (n := 2) (q0 := 0) C hK (c_X4_scoreOf (l := l) (D := D) (cI := cI) (cG := cG) (cL := cL) (ad := ad) (n := n) (t := t) (B := B) (v := v) (r := q) hT6 e0 hb (show q < 16 by omega) (hsc q hq)) mW_fst (bgV hT m599 m601 slX4_scoreOf m7 m602) rfl rfl rfl (by decide +kernel) ⟨Nat.le_of_ble_eq_true rfl, Nat.le_of_ble_eq_true rfl⟩ rfl rfl rfl rfl (Nat.le_of_ble_eq_true rfl) (Nat.zero_le _) (Nat.zero_le _) dX4_aside_70 ?_
            refine gx_icmp_lt (tgt := 78) C dX4_aside_73 (by decide) (fun c_73 => ?_) (fun c_73 => ?_)
            · refine gx_iinc (lv2 := [some _, some _, some _, some _, some _]) C dX4_aside_78 rfl rfl (by decide) rfl ?_
              refine gx_goto (tgt := 9) C dX4_aside_81 (by decide) ?_
              exact ih _ _ _ (by omega) (by rw [show (Int32.ofInt (-1)) = -1 from rfl]; exact m_add_m1 _) (by rw [show n - j = n - (j + 1) + 1 by omega, mDn, show n - 1 - (n - (j + 1)) = j by omega, ← hy]; rw [if_neg (fun q => q.2.elim (fun q => (m_n0 (by omega)) q) (fun q => q (by rw [nI_clamp (by omega)]; exact c_73)))])
            · refine gx_iload_n C dX4_aside_76 rfl ?_
              refine gx_istore_n (lv2 := [some _, some _, some _, some _, some _]) C dX4_aside_77 (by decide) rfl ?_
              refine gx_iinc (lv2 := [some _, some _, some _, some _, some _]) C dX4_aside_78 rfl rfl (by decide) rfl ?_
              refine gx_goto (tgt := 9) C dX4_aside_81 (by decide) ?_
              exact ih _ _ _ (by omega) (by rw [show (Int32.ofInt (-1)) = -1 from rfl]; exact m_add_m1 _) (by rw [show n - j = n - (j + 1) + 1 by omega, mDn, show n - 1 - (n - (j + 1)) = j by omega, ← hy]; rw [if_pos ⟨decide_eq_true ⟨c_20, c_29, c_42⟩, Or.inr (by rw [nI_clamp (by omega)]; exact c_73)⟩])
set_option maxHeartbeats 4000000 in
set_option maxRecDepth 100000 in
theorem c_X4_aside {l : Launch} {D : va_G} {cI cG cL : ClassId} {ad : Nat → Nat} {n t : Nat} {B : Int32} {v : Nat → Nat → Int32} {b T : Nat} (hT6 : T ≤ 60) (e0 : v 0 0 = nI T) (hb : b < 60) (hn : n ≤ 16) (hsc : ∀ r, r < n → mHt v (nI r) T = 0 ∨ ∃ q, q < 60 ∧ mAt v (nI r) (nI (mHt v (nI r) T) - 1) T = nI q) : gx_M l yX4_aside wsX4_aside ({ frames := 2, cells := 0, slots := 0, locals := 51 }) D vwCl (gT cI cG cL) [.ref (ad 0), .int (nI b)] (mW cI ad n t B v) (mW cI ad n t B v) (some (.int (mAsd n t B v T b))) := by
  refine gx_ofG (cc := cX4_aside) (maxL := 5) (ret := (some .int)) [some (.ref (ad 0)), some (.int (nI b)), none, none, none] (by decide) rfl rfl (Nat.le_of_ble_eq_true rfl) rfl ?_
  intro p e s m args below meth c C hRt hlocks hK
  have C : CallFix p m c cX4_aside 5 s args (wsX4_aside) RX4 := C
  have hT : ∀ w ∈ bigW, w ∈ wsX4_aside := bgT
  refine gx_iconst (v := (-1)) C dX4_aside_0 (by decide) ?_
  refine gx_istore_n (lv2 := [some _, some _, some _, none, none]) C dX4_aside_1 (by decide) rfl ?_
  refine gx_aload_n C dX4_aside_2 rfl ?_
  refine mg_X4_rows C hK hT m466 dX4_aside_3 ?_
  refine gx_iconst (v := 1) C dX4_aside_6 (by decide) ?_
  refine gx_isub C dX4_aside_7 ?_
  refine gx_istore_n (lv2 := [some _, some _, some _, some _, none]) C dX4_aside_8 (by decide) rfl ?_
  exact lp_X4_aside C hT hRt hlocks hK hT6 e0 hb hn hsc n _ _ _ (Nat.le_refl _) rfl (by rw [Nat.sub_self]; rfl)
set_option maxHeartbeats 4000000 in
set_option maxRecDepth 100000 in
theorem lp_X4_worst {l : Launch} {D : va_G} {cI cG cL : ClassId} {ad : Nat → Nat} {n t : Nat} {B : Int32} {v : Nat → Nat → Int32} {T : Nat} {p : Program} {e : Env} {s : State} {m : MethodId} {args : Array Value} {below : List Frame} {meth : Method} {c : Code} (C : CallFix p m c cX4_worst 6 s args wsX4_worst RX4) (hT : ∀ w ∈ bigW, w ∈ wsX4_worst) (hRt : meth.sig.returnType = (some .int)) (hlocks : meth.locks = false) (hK : va_K D vwCl (gT cI cG cL) s) (hT6 : T ≤ 60) (e0 : v 0 0 = nI T) (hn : n ≤ 16) (hsc : ∀ r, r < n → mHt v (nI r) T = 0 ∨ ∃ q, q < 60 ∧ mAt v (nI r) (nI (mHt v (nI r) T) - 1) T = nI q) : ∀ (d j : Nat) (x y : Int32) (w4 w5 : Option Value), j + d = n → (x, y) = mWo n t B v T j → gx_G p l e (headSpec wsX4_worst ({ frames := 3, cells := 0, slots := 0, locals := 75 })).room s m args below meth c D vwCl (gx_in (mW cI ad n t B v)) 6 0 0 (gx_Qm D vwCl below args s (mW cI ad n t B v) (mW cI ad n t B v) (some (.int ((mWo n t B v T n).1)))) (mW cI ad n t B v) 6 [some (.ref (ad 0)), some (.int x), some (.int y), some (.int (nI j)), w4, w5] [] := by
  intro d
  induction d with
  | zero =>
    intro j x y w4 w5 hj hx
    refine gx_iload_n C dX4_worst_6 rfl ?_
    refine gx_aload_n C dX4_worst_7 rfl ?_
    refine mg_X4_rows C hK hT m466 dX4_worst_8 ?_
    refine gx_icmp_ge (tgt := 80) C dX4_worst_11 (by decide) (fun c_11 => ?_) (fun c => absurd (nI_le (by omega) (by omega)) c)
    refine gx_iload_n C dX4_worst_80 rfl ?_
    exact gx_iret C hRt hlocks dX4_worst_81 (by have hj9 : j = n := (by omega); rw [hj9] at hx; rw [← hx]) rfl
  | succ d ih =>
    intro j x y w4 w5 hj hx
    refine gx_iload_n C dX4_worst_6 rfl ?_
    refine gx_aload_n C dX4_worst_7 rfl ?_
    refine mg_X4_rows C hK hT m466 dX4_worst_8 ?_
    refine gx_icmp_ge (tgt := 80) C dX4_worst_11 (by decide) (fun c => absurd c (nI_ge (by omega) (by omega))) (fun c_11 => ?_)
    refine gx_aload_n C dX4_worst_14 rfl ?_
    refine gx_iload_n C dX4_worst_15 rfl ?_
    refine gx_aload_n C dX4_worst_16 rfl ?_
    refine gx_iload_n C dX4_worst_17 rfl ?_
    refine gx_cVi (n := 1) (q0 := 0) C hK (c_X4_heightOf (l := l) (D := D) (cI := cI) (cG := cG) (cL := cL) (ad := ad) (n := n) (t := t) (B := B) (v := v) (a := nI j) hT6 e0) mW_fst (bgV hT m543 m545 slX4_heightOf m7 m546) rfl rfl rfl (by decide +kernel) ⟨Nat.le_of_ble_eq_true rfl, Nat.le_of_ble_eq_true rfl⟩ rfl rfl rfl rfl (Nat.le_of_ble_eq_true rfl) (Nat.zero_le _) (Nat.zero_le _) dX4_worst_18 ?_
    refine gx_iconst (v := 1) C dX4_worst_21 (by decide) ?_
    refine gx_isub C dX4_worst_22 ?_
    refine gx_cVi (n := 2) (q0 := 0) C hK (c_X4_boxAt (l := l) (D := D) (cI := cI) (cG := cG) (cL := cL) (ad := ad) (n := n) (t := t) (B := B) (v := v) (a := nI j) (y := nI (mHt v (nI j) T) - 1) hT6 e0) mW_fst (bgV hT m563 m565 slX4_boxAt m7 m566) rfl rfl rfl (by decide +kernel) ⟨Nat.le_of_ble_eq_true rfl, Nat.le_of_ble_eq_true rfl⟩ rfl rfl rfl rfl (Nat.le_of_ble_eq_true rfl) (Nat.zero_le _) (Nat.zero_le _) dX4_worst_23 ?_
    refine gx_istore (lv2 := [some _, some _, some _, some _, some _, _]) C dX4_worst_26 (by decide) rfl ?_
    refine gx_iload C dX4_worst_28 rfl ?_
    refine gx_if_ge (tgt := 37) C dX4_worst_30 (by decide) (fun c_30 => ?_) (fun c_30 => ?_)
    · obtain ⟨q, hq, eq⟩ := mAt_some (Int32.not_lt.mpr c_30)
      have hb : q < 60 := by omega
      rw [eq]
      refine gx_aload_n C dX4_worst_37 rfl ?_
      refine gx_iload C dX4_worst_38 rfl ?_
      refine gx_iload_n C dX4_worst_40 rfl ?_
      refine gx_aload_n C dX4_worst_41 rfl ?_
      refine mg_X4_tierOf C hK hT m478 dX4_worst_42 ?_
      refine gx_iload C dX4_worst_45 rfl ?_
      refine ml_8 C hK rfl (by omega) dX4_worst_47 ?_
      refine gx_cVi (n := 3) (q0 := 0) C hK (c_X4_sooner (l := l) (D := D) (cI := cI) (cG := cG) (cL := cL) (ad := ad) (n := n) (t := t) (B := B) (v := v) (b := q) (a := nI j) (y := v 8 q) hT6 e0 hb) mW_fst (bgV hT m603 m605 slX4_sooner m7 m606) rfl rfl rfl (by decide +kernel) ⟨Nat.le_of_ble_eq_true rfl, Nat.le_of_ble_eq_true rfl⟩ rfl rfl rfl rfl (Nat.le_of_ble_eq_true rfl) (Nat.zero_le _) (Nat.zero_le _) dX4_worst_48 ?_
      refine gx_istore (lv2 := [some _, some _, some _, some _, some _, some _]) C dX4_worst_51 (by decide) rfl ?_
      refine gx_iload C dX4_worst_53 rfl ?_
      refine gx_iload_n C dX4_worst_55 rfl ?_
      refine gx_icmp_le (tgt := 74) C dX4_worst_56 (by decide) (fun c_56 => ?_) (fun c_56 => ?_)
      · refine gx_iincN (lv2 := [some _, some _, some _, some _, some _, some _]) C dX4_worst_74 rfl (by decide) rfl ?_
        refine gx_goto (tgt := 6) C dX4_worst_77 (by decide) ?_
        exact ih (j + 1) _ _ _ _ (by omega) (by rw [mWo, if_neg (Int32.not_lt.mpr (by rw [eq]; exact nI_pos' (by omega))), eq, nI_clamp (by omega), ← hx, if_neg (fun q => q.1 c_56)])
      · refine gx_aload_n C dX4_worst_59 rfl ?_
        refine gx_iload C dX4_worst_60 rfl ?_
        refine gx_cVi (n := 1) (q0 := 0) C hK (c_X4_aside (l := l) (D := D) (cI := cI) (cG := cG) (cL := cL) (ad := ad) (n := n) (t := t) (B := B) (v := v) (b := q) hT6 e0 hb hn hsc) mW_fst (bgV hT m619 m621 slX4_aside m7 m622) rfl rfl rfl (by decide +kernel) ⟨Nat.le_of_ble_eq_true rfl, Nat.le_of_ble_eq_true rfl⟩ rfl rfl rfl rfl (Nat.le_of_ble_eq_true rfl) (Nat.zero_le _) (Nat.zero_le _) dX4_worst_62 ?_
        refine gx_if_lt (tgt := 74) C dX4_worst_65 (by decide) (fun c_65 => ?_) (fun c_65 => ?_)
        · refine gx_iincN (lv2 := [some _, some _, some _, some _, some _, some _]) C dX4_worst_74 rfl (by decide) rfl ?_
          refine gx_goto (tgt := 6) C dX4_worst_77 (by decide) ?_
          exact ih (j + 1) _ _ _ _ (by omega) (by rw [mWo, if_neg (Int32.not_lt.mpr (by rw [eq]; exact nI_pos' (by omega))), eq, nI_clamp (by omega), ← hx, if_neg (fun q => q.2 c_65)])
        · refine gx_iload C dX4_worst_68 rfl ?_
          refine gx_istore_n (lv2 := [some _, some _, some _, some _, some _, some _]) C dX4_worst_70 (by decide) rfl ?_
          refine gx_iload C dX4_worst_71 rfl ?_
          refine gx_istore_n (lv2 := [some _, some _, some _, some _, some _, some _]) C dX4_worst_73 (by decide) rfl ?_
          refine gx_iincN (lv2 := [some _, some _, some _, some _, some _, some _]) C dX4_worst_74 rfl (by decide) rfl ?_
          refine gx_goto (tgt := 6) C dX4_worst_77 (by decide) ?_
          exact ih (j + 1) _ _ _ _ (by omega) (by rw [mWo, if_neg (Int32.not_lt.mpr (by rw [eq]; exact nI_pos' (by omega))), eq, nI_clamp (by omega), ← hx, if_pos ⟨c_56, c_65⟩])
    · refine gx_iconst (v := 0) C dX4_worst_33 (by decide) ?_
      refine gx_goto (tgt := 51) C dX4_worst_34 (by decide) ?_
      refine gx_istore (lv2 := [some _, some _, some _, some _, some _, some _]) C dX4_worst_51 (by decide) rfl ?_
      refine gx_iload C dX4_worst_53 rfl ?_
      refine gx_iload_n C dX4_worst_55 rfl ?_
      refine gx_icmp_le (tgt := 74) C dX4_worst_56 (by decide) (fun c_56 => ?_) (fun c => absurd (by have h9 := mWo_nn0 (n := n) (t := t) (B := B) (v := v) (show T < 2 ^ 31 by omega) j; rw [← hx] at h9; exact h9) c)
      refine gx_iincN (lv2 := [some _, some _, some _, some _, some _, some _]) C dX4_worst_74 rfl (by decide) rfl ?_
      refine gx_goto (tgt := 6) C dX4_worst_77 (by decide) ?_
      exact ih (j + 1) _ _ _ _ (by omega) (by rw [mWo, if_pos (Int32.not_le.mp c_30)]; exact hx)
set_option maxHeartbeats 4000000 in
set_option maxRecDepth 100000 in
theorem c_X4_worst {l : Launch} {D : va_G} {cI cG cL : ClassId} {ad : Nat → Nat} {n t : Nat} {B : Int32} {v : Nat → Nat → Int32} {T : Nat} (hT6 : T ≤ 60) (e0 : v 0 0 = nI T) (hn : n ≤ 16) (hsc : ∀ r, r < n → mHt v (nI r) T = 0 ∨ ∃ q, q < 60 ∧ mAt v (nI r) (nI (mHt v (nI r) T) - 1) T = nI q) : gx_M l yX4_worst wsX4_worst ({ frames := 3, cells := 0, slots := 0, locals := 75 }) D vwCl (gT cI cG cL) [.ref (ad 0)] (mW cI ad n t B v) (mW cI ad n t B v) (some (.int ((mWo n t B v T n).1))) := by
  refine gx_ofG (cc := cX4_worst) (maxL := 6) (ret := (some .int)) [some (.ref (ad 0)), none, none, none, none, none] (by decide) rfl rfl (Nat.le_of_ble_eq_true rfl) rfl ?_
  intro p e s m args below meth c C hRt hlocks hK
  have C : CallFix p m c cX4_worst 6 s args (wsX4_worst) RX4 := C
  have hT : ∀ w ∈ bigW, w ∈ wsX4_worst := bgT
  refine gx_iconst (v := (-1)) C dX4_worst_0 (by decide) ?_
  refine gx_istore_n (lv2 := [some _, some _, none, none, none, none]) C dX4_worst_1 (by decide) rfl ?_
  refine gx_iconst (v := 0) C dX4_worst_2 (by decide) ?_
  refine gx_istore_n (lv2 := [some _, some _, some _, none, none, none]) C dX4_worst_3 (by decide) rfl ?_
  refine gx_iconst (v := 0) C dX4_worst_4 (by decide) ?_
  refine gx_istore_n (lv2 := [some _, some _, some _, some _, none, none]) C dX4_worst_5 (by decide) rfl ?_
  exact lp_X4_worst C hT hRt hlocks hK hT6 e0 hn hsc n 0 _ _ _ _ (by omega) rfl

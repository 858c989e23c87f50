set_option maxHeartbeats 4000000 in
set_option maxRecDepth 100000 in
theorem c_X4_broken {l : Launch} {D : va_G} {cI cG cL : ClassId} {ad : Nat → Nat} {n t : Nat} {B : Int32} {v : Nat → Nat → Int32} {b r T : Nat} (hT6 : T ≤ 60) (e0 : v 0 0 = nI T) (hb : b < 60) (hr : r < 16) : gx_M l yX4_broken wsX4_broken ({ frames := 1, cells := 0, slots := 0, locals := 24 }) D vwCl (gT cI cG cL) [.ref (ad 0), .int (nI b), .int (nI r)] (mW cI ad n t B v) (mW cI ad n t B v) (some (.int (mBr t B v T b r))) := by
  refine gx_ofG (cc := cX4_broken) (maxL := 4) (ret := (some .int)) [some (.ref (ad 0)), some (.int (nI b)), some (.int (nI r)), none] (by decide) rfl rfl (Nat.le_of_ble_eq_true rfl) rfl ?_
  intro p e s m args below meth c C hRt hlocks hK
  have C : CallFix p m c cX4_broken 4 s args (wsX4_broken) RX4 := C
  have hT : ∀ w ∈ bigW, w ∈ wsX4_broken := bgT
  refine gx_aload_n C dX4_broken_0 rfl ?_
  refine gx_iload_n C dX4_broken_1 rfl ?_
  refine gx_aload_n C dX4_broken_2 rfl ?_
  refine gx_iload_n C dX4_broken_3 rfl ?_
  refine gx_cVi (n := 1) (q0 := 0) C hK (c_X4_heightOf (l := l) (D := D) (cI := cI) (cG := cG) (cL := cL) (ad := ad) (n := n) (t := t) (B := B) (v := v) (a := nI r) hT6 e0) mW_fst (bgV hT m543 m545 slX4_heightOf m7 m546) rfl rfl rfl (by decide +kernel) ⟨Nat.le_of_ble_eq_true rfl, Nat.le_of_ble_eq_true rfl⟩ rfl rfl rfl rfl (Nat.le_of_ble_eq_true rfl) (Nat.zero_le _) (Nat.zero_le _) dX4_broken_4 ?_
  refine gx_iconst (v := 1) C dX4_broken_7 (by decide) ?_
  refine gx_isub C dX4_broken_8 ?_
  refine gx_cVi (n := 2) (q0 := 0) C hK (c_X4_boxAt (l := l) (D := D) (cI := cI) (cG := cG) (cL := cL) (ad := ad) (n := n) (t := t) (B := B) (v := v) (a := nI r) (y := nI (mHt v (nI r) T) - 1) hT6 e0) mW_fst (bgV hT m563 m565 slX4_boxAt m7 m566) rfl rfl rfl (by decide +kernel) ⟨Nat.le_of_ble_eq_true rfl, Nat.le_of_ble_eq_true rfl⟩ rfl rfl rfl rfl (Nat.le_of_ble_eq_true rfl) (Nat.zero_le _) (Nat.zero_le _) dX4_broken_9 ?_
  refine gx_istore_n (lv2 := [some _, some _, some _, some _]) C dX4_broken_12 (by decide) rfl ?_
  refine gx_aload_n C dX4_broken_13 rfl ?_
  refine mg_X4_reserved C hK hT m470 dX4_broken_14 ?_
  refine gx_iload_n C dX4_broken_17 rfl ?_
  refine ml_12 C hK rfl (by omega) dX4_broken_18 ?_
  refine gx_if_le (tgt := 39) C dX4_broken_19 (by decide) (fun c_19 => ?_) (fun c_19 => ?_)
  · refine gx_aload_n C dX4_broken_39 rfl ?_
    refine gx_iload_n C dX4_broken_40 rfl ?_
    refine gx_cVi (n := 1) (q0 := 0) C hK (c_X4_heightOf (l := l) (D := D) (cI := cI) (cG := cG) (cL := cL) (ad := ad) (n := n) (t := t) (B := B) (v := v) (a := nI r) hT6 e0) mW_fst (bgV hT m543 m545 slX4_heightOf m7 m546) rfl rfl rfl (by decide +kernel) ⟨Nat.le_of_ble_eq_true rfl, Nat.le_of_ble_eq_true rfl⟩ rfl rfl rfl rfl (Nat.le_of_ble_eq_true rfl) (Nat.zero_le _) (Nat.zero_le _) dX4_broken_41 ?_
    refine gx_aload_n C dX4_broken_44 rfl ?_
    refine mg_X4_tiers C hK hT m467 dX4_broken_45 ?_
    refine gx_icmp_ne (tgt := 53) C dX4_broken_48 (by decide) (fun c_48 => ?_) (fun c_48 => ?_)
    · refine gx_aload_n C dX4_broken_53 rfl ?_
      refine gx_iload_n C dX4_broken_54 rfl ?_
      refine gx_cVi (n := 1) (q0 := 0) C hK (c_X4_weightOf (l := l) (D := D) (cI := cI) (cG := cG) (cL := cL) (ad := ad) (n := n) (t := t) (B := B) (v := v) (a := nI r) hT6 e0) mW_fst (bgV hT m567 m569 slX4_weightOf m7 m570) rfl rfl rfl (by decide +kernel) ⟨Nat.le_of_ble_eq_true rfl, Nat.le_of_ble_eq_true rfl⟩ rfl rfl rfl rfl (Nat.le_of_ble_eq_true rfl) (Nat.zero_le _) (Nat.zero_le _) dX4_broken_55 ?_
      refine gx_aload_n C dX4_broken_58 rfl ?_
      refine mg_X4_weight C hK hT m473 dX4_broken_59 ?_
      refine gx_iload_n C dX4_broken_62 rfl ?_
      refine ml_2 C hK rfl (by omega) dX4_broken_63 ?_
      refine gx_iadd C dX4_broken_64 ?_
      refine gx_aload_n C dX4_broken_65 rfl ?_
      refine mg_X4_bears C hK hT m468 dX4_broken_66 ?_
      refine gx_icmp_le (tgt := 74) C dX4_broken_69 (by decide) (fun c_69 => ?_) (fun c_69 => ?_)
      · refine gx_aload_n C dX4_broken_74 rfl ?_
        refine gx_iload_n C dX4_broken_75 rfl ?_
        refine gx_iload_n C dX4_broken_76 rfl ?_
        refine gx_cVi (n := 2) (q0 := 0) C hK (c_X4_hasOtherSize (l := l) (D := D) (cI := cI) (cG := cG) (cL := cL) (ad := ad) (n := n) (t := t) (B := B) (v := v) (a := nI r) hT6 e0 hb) mW_fst (bgV hT m571 m573 slX4_hasOtherSize m7 m574) rfl rfl rfl (by decide +kernel) ⟨Nat.le_of_ble_eq_true rfl, Nat.le_of_ble_eq_true rfl⟩ rfl rfl rfl rfl (Nat.le_of_ble_eq_true rfl) (Nat.zero_le _) (Nat.zero_le _) dX4_broken_77 ?_
        refine gx_if_eq (tgt := 85) C dX4_broken_80 (by decide) (fun c_80 => ?_) (fun c_80 => ?_)
        · refine gx_iload_n C dX4_broken_85 rfl ?_
          refine gx_if_lt (tgt := 115) C dX4_broken_86 (by decide) (fun c_86 => ?_) (fun c_86 => ?_)
          · refine gx_aload_n C dX4_broken_115 rfl ?_
            refine mg_X4_kind C hK hT m476 dX4_broken_116 ?_
            refine gx_iload_n C dX4_broken_119 rfl ?_
            refine ml_5 C hK rfl (by omega) dX4_broken_120 ?_
            refine gx_iconst (v := 1) C dX4_broken_121 (by decide) ?_
            refine gx_icmp_ne (tgt := 138) C dX4_broken_122 (by decide) (fun c_122 => ?_) (fun c_122 => ?_)
            · refine gx_aload_n C dX4_broken_138 rfl ?_
              refine mg_X4_kind C hK hT m476 dX4_broken_139 ?_
              refine gx_iload_n C dX4_broken_142 rfl ?_
              refine ml_5 C hK rfl (by omega) dX4_broken_143 ?_
              refine gx_iconst (v := 2) C dX4_broken_144 (by decide) ?_
              refine gx_icmp_ne (tgt := 152) C dX4_broken_145 (by decide) (fun c_145 => ?_) (fun c_145 => ?_)
              · refine gx_iconst (v := 0) C dX4_broken_152 (by decide) ?_
                refine gx_aload_n C dX4_broken_153 rfl ?_
                refine mg_X4_ground C hK hT m469 dX4_broken_154 ?_
                refine gx_iload_n C dX4_broken_157 rfl ?_
                refine ml_11 C hK rfl (by omega) dX4_broken_158 ?_
                refine gx_iconst (v := 2) C dX4_broken_159 (by decide) ?_
                refine gx_icmp_ne (tgt := 167) C dX4_broken_160 (by decide) (fun c_160 => ?_) (fun c_160 => ?_)
                · refine gx_iconst (v := 0) C dX4_broken_167 (by decide) ?_
                  refine gx_icmp_eq (tgt := 176) C dX4_broken_168 (by decide) (fun c_168 => ?_) (fun c => absurd c (by decide))
                  refine gx_iconst (v := 0) C dX4_broken_176 (by decide) ?_
                  exact gx_iret C hRt hlocks dX4_broken_177 (by first | simp [mBr, yGr, c_19, c_48, c_69, c_86, c_122, c_145, c_160, c_168, bI_f c_80]) rfl
                · refine gx_iconst (v := 1) C dX4_broken_163 (by decide) ?_
                  refine gx_goto (tgt := 168) C dX4_broken_164 (by decide) ?_
                  refine gx_icmp_eq (tgt := 176) C dX4_broken_168 (by decide) (fun c => absurd c (by decide)) (fun c_168 => ?_)
                  refine gx_bipush (v := 8) C dX4_broken_171 (by decide) ?_
                  refine gx_goto (tgt := 177) C dX4_broken_173 (by decide) ?_
                  exact gx_iret C hRt hlocks dX4_broken_177 (by first | simp [mBr, yGr, c_19, c_48, c_69, c_86, c_122, c_145, c_160, c_168, bI_f c_80]) rfl
              · refine gx_iconst (v := 1) C dX4_broken_148 (by decide) ?_
                refine gx_goto (tgt := 153) C dX4_broken_149 (by decide) ?_
                refine gx_aload_n C dX4_broken_153 rfl ?_
                refine mg_X4_ground C hK hT m469 dX4_broken_154 ?_
                refine gx_iload_n C dX4_broken_157 rfl ?_
                refine ml_11 C hK rfl (by omega) dX4_broken_158 ?_
                refine gx_iconst (v := 2) C dX4_broken_159 (by decide) ?_
                refine gx_icmp_ne (tgt := 167) C dX4_broken_160 (by decide) (fun c_160 => ?_) (fun c_160 => ?_)
                · refine gx_iconst (v := 0) C dX4_broken_167 (by decide) ?_
                  refine gx_icmp_eq (tgt := 176) C dX4_broken_168 (by decide) (fun c => absurd c (by decide)) (fun c_168 => ?_)
                  refine gx_bipush (v := 8) C dX4_broken_171 (by decide) ?_
                  refine gx_goto (tgt := 177) C dX4_broken_173 (by decide) ?_
                  exact gx_iret C hRt hlocks dX4_broken_177 (by first | simp [mBr, yGr, c_19, c_48, c_69, c_86, c_122, c_145, c_160, c_168, bI_f c_80]) rfl
                · refine gx_iconst (v := 1) C dX4_broken_163 (by decide) ?_
                  refine gx_goto (tgt := 168) C dX4_broken_164 (by decide) ?_
                  refine gx_icmp_eq (tgt := 176) C dX4_broken_168 (by decide) (fun c_168 => ?_) (fun c => absurd c (by decide))
                  refine gx_iconst (v := 0) C dX4_broken_176 (by decide) ?_
                  exact gx_iret C hRt hlocks dX4_broken_177 (by first | simp [mBr, yGr, c_19, c_48, c_69, c_86, c_122, c_145, c_160, c_168, bI_f c_80]) rfl
            · refine gx_aload_n C dX4_broken_125 rfl ?_
              refine mg_X4_ground C hK hT m469 dX4_broken_126 ?_
              refine gx_iload_n C dX4_broken_129 rfl ?_
              refine ml_11 C hK rfl (by omega) dX4_broken_130 ?_
              refine gx_iconst (v := 1) C dX4_broken_131 (by decide) ?_
              refine gx_icmp_eq (tgt := 138) C dX4_broken_132 (by decide) (fun c_132 => ?_) (fun c_132 => ?_)
              · refine gx_aload_n C dX4_broken_138 rfl ?_
                refine mg_X4_kind C hK hT m476 dX4_broken_139 ?_
                refine gx_iload_n C dX4_broken_142 rfl ?_
                refine ml_5 C hK rfl (by omega) dX4_broken_143 ?_
                refine gx_iconst (v := 2) C dX4_broken_144 (by decide) ?_
                refine gx_icmp_ne (tgt := 152) C dX4_broken_145 (by decide) (fun c_145 => ?_) (fun c_145 => ?_)
                · refine gx_iconst (v := 0) C dX4_broken_152 (by decide) ?_
                  refine gx_aload_n C dX4_broken_153 rfl ?_
                  refine mg_X4_ground C hK hT m469 dX4_broken_154 ?_
                  refine gx_iload_n C dX4_broken_157 rfl ?_
                  refine ml_11 C hK rfl (by omega) dX4_broken_158 ?_
                  refine gx_iconst (v := 2) C dX4_broken_159 (by decide) ?_
                  refine gx_icmp_ne (tgt := 167) C dX4_broken_160 (by decide) (fun c_160 => ?_) (fun c_160 => ?_)
                  · refine gx_iconst (v := 0) C dX4_broken_167 (by decide) ?_
                    refine gx_icmp_eq (tgt := 176) C dX4_broken_168 (by decide) (fun c_168 => ?_) (fun c => absurd c (by decide))
                    refine gx_iconst (v := 0) C dX4_broken_176 (by decide) ?_
                    exact gx_iret C hRt hlocks dX4_broken_177 (by first | simp [mBr, yGr, c_19, c_48, c_69, c_86, c_122, c_132, c_145, c_160, c_168, bI_f c_80]) rfl
                  · refine gx_iconst (v := 1) C dX4_broken_163 (by decide) ?_
                    refine gx_goto (tgt := 168) C dX4_broken_164 (by decide) ?_
                    refine gx_icmp_eq (tgt := 176) C dX4_broken_168 (by decide) (fun c => absurd c (by decide)) (fun c_168 => ?_)
                    refine gx_bipush (v := 8) C dX4_broken_171 (by decide) ?_
                    refine gx_goto (tgt := 177) C dX4_broken_173 (by decide) ?_
                    exact gx_iret C hRt hlocks dX4_broken_177 (by first | exact absurd (c_132.symm.trans c_160) (by decide) | simp [mBr, yGr, c_19, c_48, c_69, c_86, c_122, c_132, c_145, c_160, c_168, bI_f c_80]) rfl
                · refine gx_iconst (v := 1) C dX4_broken_148 (by decide) ?_
                  refine gx_goto (tgt := 153) C dX4_broken_149 (by decide) ?_
                  refine gx_aload_n C dX4_broken_153 rfl ?_
                  refine mg_X4_ground C hK hT m469 dX4_broken_154 ?_
                  refine gx_iload_n C dX4_broken_157 rfl ?_
                  refine ml_11 C hK rfl (by omega) dX4_broken_158 ?_
                  refine gx_iconst (v := 2) C dX4_broken_159 (by decide) ?_
                  refine gx_icmp_ne (tgt := 167) C dX4_broken_160 (by decide) (fun c_160 => ?_) (fun c_160 => ?_)
                  · refine gx_iconst (v := 0) C dX4_broken_167 (by decide) ?_
                    refine gx_icmp_eq (tgt := 176) C dX4_broken_168 (by decide) (fun c => absurd c (by decide)) (fun c_168 => ?_)
                    refine gx_bipush (v := 8) C dX4_broken_171 (by decide) ?_
                    refine gx_goto (tgt := 177) C dX4_broken_173 (by decide) ?_
                    exact gx_iret C hRt hlocks dX4_broken_177 (by first | exact absurd (c_122.symm.trans c_145) (by decide) | simp [mBr, yGr, c_19, c_48, c_69, c_86, c_122, c_132, c_145, c_160, c_168, bI_f c_80]) rfl
                  · refine gx_iconst (v := 1) C dX4_broken_163 (by decide) ?_
                    refine gx_goto (tgt := 168) C dX4_broken_164 (by decide) ?_
                    refine gx_icmp_eq (tgt := 176) C dX4_broken_168 (by decide) (fun c_168 => ?_) (fun c => absurd c (by decide))
                    refine gx_iconst (v := 0) C dX4_broken_176 (by decide) ?_
                    exact gx_iret C hRt hlocks dX4_broken_177 (by first | exact absurd (c_122.symm.trans c_145) (by decide) | exact absurd (c_132.symm.trans c_160) (by decide) | simp [mBr, yGr, c_19, c_48, c_69, c_86, c_122, c_132, c_145, c_160, c_168, bI_f c_80]) rfl
              · refine gx_bipush (v := 7) C dX4_broken_135 (by decide) ?_
                exact gx_iret C hRt hlocks dX4_broken_137 (by first | simp [mBr, yGr, c_19, c_48, c_69, c_86, c_122, c_132, bI_f c_80]) rfl
          · obtain ⟨q, hq, eq⟩ := mAt_some c_86
            rw [eq]
            refine gx_aload_n C dX4_broken_89 rfl ?_
            refine mg_X4_weight C hK hT m473 dX4_broken_90 ?_
            refine gx_iload_n C dX4_broken_93 rfl ?_
            refine ml_2 C hK rfl (by omega) dX4_broken_94 ?_
            refine gx_aload_n C dX4_broken_95 rfl ?_
            refine mg_X4_weight C hK hT m473 dX4_broken_96 ?_
            refine gx_iload_n C dX4_broken_99 rfl ?_
            refine gx_if_lt (tgt := 107) C dX4_broken_100 (by decide) (fun c => absurd c (m_n0 (by omega))) (fun c_100 => ?_)
            refine gx_iload_n C dX4_broken_103 rfl ?_
            refine gx_goto (tgt := 108) C dX4_broken_104 (by decide) ?_
            refine ml_2 C hK rfl (by omega) dX4_broken_108 ?_
            refine gx_icmp_le (tgt := 115) C dX4_broken_109 (by decide) (fun c_109 => ?_) (fun c_109 => ?_)
            · refine gx_aload_n C dX4_broken_115 rfl ?_
              refine mg_X4_kind C hK hT m476 dX4_broken_116 ?_
              refine gx_iload_n C dX4_broken_119 rfl ?_
              refine ml_5 C hK rfl (by omega) dX4_broken_120 ?_
              refine gx_iconst (v := 1) C dX4_broken_121 (by decide) ?_
              refine gx_icmp_ne (tgt := 138) C dX4_broken_122 (by decide) (fun c_122 => ?_) (fun c_122 => ?_)
              · refine gx_aload_n C dX4_broken_138 rfl ?_
                refine mg_X4_kind C hK hT m476 dX4_broken_139 ?_
                refine gx_iload_n C dX4_broken_142 rfl ?_
                refine ml_5 C hK rfl (by omega) dX4_broken_143 ?_
                refine gx_iconst (v := 2) C dX4_broken_144 (by decide) ?_
                refine gx_icmp_ne (tgt := 152) C dX4_broken_145 (by decide) (fun c_145 => ?_) (fun c_145 => ?_)
                · refine gx_iconst (v := 0) C dX4_broken_152 (by decide) ?_
                  refine gx_aload_n C dX4_broken_153 rfl ?_
                  refine mg_X4_ground C hK hT m469 dX4_broken_154 ?_
                  refine gx_iload_n C dX4_broken_157 rfl ?_
                  refine ml_11 C hK rfl (by omega) dX4_broken_158 ?_
                  refine gx_iconst (v := 2) C dX4_broken_159 (by decide) ?_
                  refine gx_icmp_ne (tgt := 167) C dX4_broken_160 (by decide) (fun c_160 => ?_) (fun c_160 => ?_)
                  · refine gx_iconst (v := 0) C dX4_broken_167 (by decide) ?_
                    refine gx_icmp_eq (tgt := 176) C dX4_broken_168 (by decide) (fun c_168 => ?_) (fun c => absurd c (by decide))
                    refine gx_iconst (v := 0) C dX4_broken_176 (by decide) ?_
                    exact gx_iret C hRt hlocks dX4_broken_177 (by first | simp [mBr, yGr, c_19, c_48, c_69, c_86, c_109, c_122, c_145, c_160, c_168, bI_f c_80, eq, m_n0 (show q < 2 ^ 31 by omega), nI_clamp (show q < 2 ^ 31 by omega)]) rfl
                  · refine gx_iconst (v := 1) C dX4_broken_163 (by decide) ?_
                    refine gx_goto (tgt := 168) C dX4_broken_164 (by decide) ?_
                    refine gx_icmp_eq (tgt := 176) C dX4_broken_168 (by decide) (fun c => absurd c (by decide)) (fun c_168 => ?_)
                    refine gx_bipush (v := 8) C dX4_broken_171 (by decide) ?_
                    refine gx_goto (tgt := 177) C dX4_broken_173 (by decide) ?_
                    exact gx_iret C hRt hlocks dX4_broken_177 (by first | simp [mBr, yGr, c_19, c_48, c_69, c_86, c_109, c_122, c_145, c_160, c_168, bI_f c_80, eq, m_n0 (show q < 2 ^ 31 by omega), nI_clamp (show q < 2 ^ 31 by omega)]) rfl
                · refine gx_iconst (v := 1) C dX4_broken_148 (by decide) ?_
                  refine gx_goto (tgt := 153) C dX4_broken_149 (by decide) ?_
                  refine gx_aload_n C dX4_broken_153 rfl ?_
                  refine mg_X4_ground C hK hT m469 dX4_broken_154 ?_
                  refine gx_iload_n C dX4_broken_157 rfl ?_
                  refine ml_11 C hK rfl (by omega) dX4_broken_158 ?_
                  refine gx_iconst (v := 2) C dX4_broken_159 (by decide) ?_
                  refine gx_icmp_ne (tgt := 167) C dX4_broken_160 (by decide) (fun c_160 => ?_) (fun c_160 => ?_)
                  · refine gx_iconst (v := 0) C dX4_broken_167 (by decide) ?_
                    refine gx_icmp_eq (tgt := 176) C dX4_broken_168 (by decide) (fun c => absurd c (by decide)) (fun c_168 => ?_)
                    refine gx_bipush (v := 8) C dX4_broken_171 (by decide) ?_
                    refine gx_goto (tgt := 177) C dX4_broken_173 (by decide) ?_
                    exact gx_iret C hRt hlocks dX4_broken_177 (by first | simp [mBr, yGr, c_19, c_48, c_69, c_86, c_109, c_122, c_145, c_160, c_168, bI_f c_80, eq, m_n0 (show q < 2 ^ 31 by omega), nI_clamp (show q < 2 ^ 31 by omega)]) rfl
                  · refine gx_iconst (v := 1) C dX4_broken_163 (by decide) ?_
                    refine gx_goto (tgt := 168) C dX4_broken_164 (by decide) ?_
                    refine gx_icmp_eq (tgt := 176) C dX4_broken_168 (by decide) (fun c_168 => ?_) (fun c => absurd c (by decide))
                    refine gx_iconst (v := 0) C dX4_broken_176 (by decide) ?_
                    exact gx_iret C hRt hlocks dX4_broken_177 (by first | simp [mBr, yGr, c_19, c_48, c_69, c_86, c_109, c_122, c_145, c_160, c_168, bI_f c_80, eq, m_n0 (show q < 2 ^ 31 by omega), nI_clamp (show q < 2 ^ 31 by omega)]) rfl
              · refine gx_aload_n C dX4_broken_125 rfl ?_
                refine mg_X4_ground C hK hT m469 dX4_broken_126 ?_
                refine gx_iload_n C dX4_broken_129 rfl ?_
                refine ml_11 C hK rfl (by omega) dX4_broken_130 ?_
                refine gx_iconst (v := 1) C dX4_broken_131 (by decide) ?_
                refine gx_icmp_eq (tgt := 138) C dX4_broken_132 (by decide) (fun c_132 => ?_) (fun c_132 => ?_)
                · refine gx_aload_n C dX4_broken_138 rfl ?_
                  refine mg_X4_kind C hK hT m476 dX4_broken_139 ?_
                  refine gx_iload_n C dX4_broken_142 rfl ?_
                  refine ml_5 C hK rfl (by omega) dX4_broken_143 ?_
                  refine gx_iconst (v := 2) C dX4_broken_144 (by decide) ?_
                  refine gx_icmp_ne (tgt := 152) C dX4_broken_145 (by decide) (fun c_145 => ?_) (fun c_145 => ?_)
                  · refine gx_iconst (v := 0) C dX4_broken_152 (by decide) ?_
                    refine gx_aload_n C dX4_broken_153 rfl ?_
                    refine mg_X4_ground C hK hT m469 dX4_broken_154 ?_
                    refine gx_iload_n C dX4_broken_157 rfl ?_
                    refine ml_11 C hK rfl (by omega) dX4_broken_158 ?_
                    refine gx_iconst (v := 2) C dX4_broken_159 (by decide) ?_
                    refine gx_icmp_ne (tgt := 167) C dX4_broken_160 (by decide) (fun c_160 => ?_) (fun c_160 => ?_)
                    · refine gx_iconst (v := 0) C dX4_broken_167 (by decide) ?_
                      refine gx_icmp_eq (tgt := 176) C dX4_broken_168 (by decide) (fun c_168 => ?_) (fun c => absurd c (by decide))
                      refine gx_iconst (v := 0) C dX4_broken_176 (by decide) ?_
                      exact gx_iret C hRt hlocks dX4_broken_177 (by first | simp [mBr, yGr, c_19, c_48, c_69, c_86, c_109, c_122, c_132, c_145, c_160, c_168, bI_f c_80, eq, m_n0 (show q < 2 ^ 31 by omega), nI_clamp (show q < 2 ^ 31 by omega)]) rfl
                    · refine gx_iconst (v := 1) C dX4_broken_163 (by decide) ?_
                      refine gx_goto (tgt := 168) C dX4_broken_164 (by decide) ?_
                      refine gx_icmp_eq (tgt := 176) C dX4_broken_168 (by decide) (fun c => absurd c (by decide)) (fun c_168 => ?_)
                      refine gx_bipush (v := 8) C dX4_broken_171 (by decide) ?_
                      refine gx_goto (tgt := 177) C dX4_broken_173 (by decide) ?_
                      exact gx_iret C hRt hlocks dX4_broken_177 (by first | exact absurd (c_132.symm.trans c_160) (by decide) | simp [mBr, yGr, c_19, c_48, c_69, c_86, c_109, c_122, c_132, c_145, c_160, c_168, bI_f c_80, eq, m_n0 (show q < 2 ^ 31 by omega), nI_clamp (show q < 2 ^ 31 by omega)]) rfl
                  · refine gx_iconst (v := 1) C dX4_broken_148 (by decide) ?_
                    refine gx_goto (tgt := 153) C dX4_broken_149 (by decide) ?_
                    refine gx_aload_n C dX4_broken_153 rfl ?_
                    refine mg_X4_ground C hK hT m469 dX4_broken_154 ?_
                    refine gx_iload_n C dX4_broken_157 rfl ?_
                    refine ml_11 C hK rfl (by omega) dX4_broken_158 ?_
                    refine gx_iconst (v := 2) C dX4_broken_159 (by decide) ?_
                    refine gx_icmp_ne (tgt := 167) C dX4_broken_160 (by decide) (fun c_160 => ?_) (fun c_160 => ?_)
                    · refine gx_iconst (v := 0) C dX4_broken_167 (by decide) ?_
                      refine gx_icmp_eq (tgt := 176) C dX4_broken_168 (by decide) (fun c => absurd c (by decide)) (fun c_168 => ?_)
                      refine gx_bipush (v := 8) C dX4_broken_171 (by decide) ?_
                      refine gx_goto (tgt := 177) C dX4_broken_173 (by decide) ?_
                      exact gx_iret C hRt hlocks dX4_broken_177 (by first | exact absurd (c_122.symm.trans c_145) (by decide) | simp [mBr, yGr, c_19, c_48, c_69, c_86, c_109, c_122, c_132, c_145, c_160, c_168, bI_f c_80, eq, m_n0 (show q < 2 ^ 31 by omega), nI_clamp (show q < 2 ^ 31 by omega)]) rfl
                    · refine gx_iconst (v := 1) C dX4_broken_163 (by decide) ?_
                      refine gx_goto (tgt := 168) C dX4_broken_164 (by decide) ?_
                      refine gx_icmp_eq (tgt := 176) C dX4_broken_168 (by decide) (fun c_168 => ?_) (fun c => absurd c (by decide))
                      refine gx_iconst (v := 0) C dX4_broken_176 (by decide) ?_
                      exact gx_iret C hRt hlocks dX4_broken_177 (by first | exact absurd (c_122.symm.trans c_145) (by decide) | exact absurd (c_132.symm.trans c_160) (by decide) | simp [mBr, yGr, c_19, c_48, c_69, c_86, c_109, c_122, c_132, c_145, c_160, c_168, bI_f c_80, eq, m_n0 (show q < 2 ^ 31 by omega), nI_clamp (show q < 2 ^ 31 by omega)]) rfl
                · refine gx_bipush (v := 7) C dX4_broken_135 (by decide) ?_
                  exact gx_iret C hRt hlocks dX4_broken_137 (by first | simp [mBr, yGr, c_19, c_48, c_69, c_86, c_109, c_122, c_132, bI_f c_80, eq, m_n0 (show q < 2 ^ 31 by omega), nI_clamp (show q < 2 ^ 31 by omega)]) rfl
            · refine gx_bipush (v := 6) C dX4_broken_112 (by decide) ?_
              exact gx_iret C hRt hlocks dX4_broken_114 (by first | simp [mBr, yGr, c_19, c_48, c_69, c_86, c_109, bI_f c_80, eq, m_n0 (show q < 2 ^ 31 by omega), nI_clamp (show q < 2 ^ 31 by omega)]) rfl
        · refine gx_iconst (v := 5) C dX4_broken_83 (by decide) ?_
          exact gx_iret C hRt hlocks dX4_broken_84 (by first | simp [mBr, yGr, c_19, c_48, c_69, bI_t c_80]) rfl
      · refine gx_iconst (v := 4) C dX4_broken_72 (by decide) ?_
        exact gx_iret C hRt hlocks dX4_broken_73 (by first | simp [mBr, yGr, c_19, c_48, c_69]) rfl
    · refine gx_iconst (v := 3) C dX4_broken_51 (by decide) ?_
      exact gx_iret C hRt hlocks dX4_broken_52 (by first | simp [mBr, yGr, c_19, c_48]) rfl
  · refine gx_aload_n C dX4_broken_22 rfl ?_
    refine mg_X4_reserved C hK hT m470 dX4_broken_23 ?_
    refine gx_iload_n C dX4_broken_26 rfl ?_
    refine ml_12 C hK rfl (by omega) dX4_broken_27 ?_
    refine gx_aload_n C dX4_broken_28 rfl ?_
    refine mg_X4_ship C hK hT m475 dX4_broken_29 ?_
    refine gx_iload_n C dX4_broken_32 rfl ?_
    refine ml_4 C hK rfl (by omega) dX4_broken_33 ?_
    refine gx_icmp_eq (tgt := 39) C dX4_broken_34 (by decide) (fun c_34 => ?_) (fun c_34 => ?_)
    · refine gx_aload_n C dX4_broken_39 rfl ?_
      refine gx_iload_n C dX4_broken_40 rfl ?_
      refine gx_cVi (n := 1) (q0 := 0) C hK (c_X4_heightOf (l := l) (D := D) (cI := cI) (cG := cG) (cL := cL) (ad := ad) (n := n) (t := t) (B := B) (v := v) (a := nI r) hT6 e0) mW_fst (bgV hT m543 m545 slX4_heightOf m7 m546) rfl rfl rfl (by decide +kernel) ⟨Nat.le_of_ble_eq_true rfl, Nat.le_of_ble_eq_true rfl⟩ rfl rfl rfl rfl (Nat.le_of_ble_eq_true rfl) (Nat.zero_le _) (Nat.zero_le _) dX4_broken_41 ?_
      refine gx_aload_n C dX4_broken_44 rfl ?_
      refine mg_X4_tiers C hK hT m467 dX4_broken_45 ?_
      refine gx_icmp_ne (tgt := 53) C dX4_broken_48 (by decide) (fun c_48 => ?_) (fun c_48 => ?_)
      · refine gx_aload_n C dX4_broken_53 rfl ?_
        refine gx_iload_n C dX4_broken_54 rfl ?_
        refine gx_cVi (n := 1) (q0 := 0) C hK (c_X4_weightOf (l := l) (D := D) (cI := cI) (cG := cG) (cL := cL) (ad := ad) (n := n) (t := t) (B := B) (v := v) (a := nI r) hT6 e0) mW_fst (bgV hT m567 m569 slX4_weightOf m7 m570) rfl rfl rfl (by decide +kernel) ⟨Nat.le_of_ble_eq_true rfl, Nat.le_of_ble_eq_true rfl⟩ rfl rfl rfl rfl (Nat.le_of_ble_eq_true rfl) (Nat.zero_le _) (Nat.zero_le _) dX4_broken_55 ?_
        refine gx_aload_n C dX4_broken_58 rfl ?_
        refine mg_X4_weight C hK hT m473 dX4_broken_59 ?_
        refine gx_iload_n C dX4_broken_62 rfl ?_
        refine ml_2 C hK rfl (by omega) dX4_broken_63 ?_
        refine gx_iadd C dX4_broken_64 ?_
        refine gx_aload_n C dX4_broken_65 rfl ?_
        refine mg_X4_bears C hK hT m468 dX4_broken_66 ?_
        refine gx_icmp_le (tgt := 74) C dX4_broken_69 (by decide) (fun c_69 => ?_) (fun c_69 => ?_)
        · refine gx_aload_n C dX4_broken_74 rfl ?_
          refine gx_iload_n C dX4_broken_75 rfl ?_
          refine gx_iload_n C dX4_broken_76 rfl ?_
          refine gx_cVi (n := 2) (q0 := 0) C hK (c_X4_hasOtherSize (l := l) (D := D) (cI := cI) (cG := cG) (cL := cL) (ad := ad) (n := n) (t := t) (B := B) (v := v) (a := nI r) hT6 e0 hb) mW_fst (bgV hT m571 m573 slX4_hasOtherSize m7 m574) rfl rfl rfl (by decide +kernel) ⟨Nat.le_of_ble_eq_true rfl, Nat.le_of_ble_eq_true rfl⟩ rfl rfl rfl rfl (Nat.le_of_ble_eq_true rfl) (Nat.zero_le _) (Nat.zero_le _) dX4_broken_77 ?_
          refine gx_if_eq (tgt := 85) C dX4_broken_80 (by decide) (fun c_80 => ?_) (fun c_80 => ?_)
          · refine gx_iload_n C dX4_broken_85 rfl ?_
            refine gx_if_lt (tgt := 115) C dX4_broken_86 (by decide) (fun c_86 => ?_) (fun c_86 => ?_)
            · refine gx_aload_n C dX4_broken_115 rfl ?_
              refine mg_X4_kind C hK hT m476 dX4_broken_116 ?_
              refine gx_iload_n C dX4_broken_119 rfl ?_
              refine ml_5 C hK rfl (by omega) dX4_broken_120 ?_
              refine gx_iconst (v := 1) C dX4_broken_121 (by decide) ?_
              refine gx_icmp_ne (tgt := 138) C dX4_broken_122 (by decide) (fun c_122 => ?_) (fun c_122 => ?_)
              · refine gx_aload_n C dX4_broken_138 rfl ?_
                refine mg_X4_kind C hK hT m476 dX4_broken_139 ?_
                refine gx_iload_n C dX4_broken_142 rfl ?_
                refine ml_5 C hK rfl (by omega) dX4_broken_143 ?_
                refine gx_iconst (v := 2) C dX4_broken_144 (by decide) ?_
                refine gx_icmp_ne (tgt := 152) C dX4_broken_145 (by decide) (fun c_145 => ?_) (fun c_145 => ?_)
                · refine gx_iconst (v := 0) C dX4_broken_152 (by decide) ?_
                  refine gx_aload_n C dX4_broken_153 rfl ?_
                  refine mg_X4_ground C hK hT m469 dX4_broken_154 ?_
                  refine gx_iload_n C dX4_broken_157 rfl ?_
                  refine ml_11 C hK rfl (by omega) dX4_broken_158 ?_
                  refine gx_iconst (v := 2) C dX4_broken_159 (by decide) ?_
                  refine gx_icmp_ne (tgt := 167) C dX4_broken_160 (by decide) (fun c_160 => ?_) (fun c_160 => ?_)
                  · refine gx_iconst (v := 0) C dX4_broken_167 (by decide) ?_
                    refine gx_icmp_eq (tgt := 176) C dX4_broken_168 (by decide) (fun c_168 => ?_) (fun c => absurd c (by decide))
                    refine gx_iconst (v := 0) C dX4_broken_176 (by decide) ?_
                    exact gx_iret C hRt hlocks dX4_broken_177 (by first | simp [mBr, yGr, c_19, c_34, c_48, c_69, c_86, c_122, c_145, c_160, c_168, bI_f c_80]) rfl
                  · refine gx_iconst (v := 1) C dX4_broken_163 (by decide) ?_
                    refine gx_goto (tgt := 168) C dX4_broken_164 (by decide) ?_
                    refine gx_icmp_eq (tgt := 176) C dX4_broken_168 (by decide) (fun c => absurd c (by decide)) (fun c_168 => ?_)
                    refine gx_bipush (v := 8) C dX4_broken_171 (by decide) ?_
                    refine gx_goto (tgt := 177) C dX4_broken_173 (by decide) ?_
                    exact gx_iret C hRt hlocks dX4_broken_177 (by first | simp [mBr, yGr, c_19, c_34, c_48, c_69, c_86, c_122, c_145, c_160, c_168, bI_f c_80]) rfl
                · refine gx_iconst (v := 1) C dX4_broken_148 (by decide) ?_
                  refine gx_goto (tgt := 153) C dX4_broken_149 (by decide) ?_
                  refine gx_aload_n C dX4_broken_153 rfl ?_
                  refine mg_X4_ground C hK hT m469 dX4_broken_154 ?_
                  refine gx_iload_n C dX4_broken_157 rfl ?_
                  refine ml_11 C hK rfl (by omega) dX4_broken_158 ?_
                  refine gx_iconst (v := 2) C dX4_broken_159 (by decide) ?_
                  refine gx_icmp_ne (tgt := 167) C dX4_broken_160 (by decide) (fun c_160 => ?_) (fun c_160 => ?_)
                  · refine gx_iconst (v := 0) C dX4_broken_167 (by decide) ?_
                    refine gx_icmp_eq (tgt := 176) C dX4_broken_168 (by decide) (fun c => absurd c (by decide)) (fun c_168 => ?_)
                    refine gx_bipush (v := 8) C dX4_broken_171 (by decide) ?_
                    refine gx_goto (tgt := 177) C dX4_broken_173 (by decide) ?_
                    exact gx_iret C hRt hlocks dX4_broken_177 (by first | simp [mBr, yGr, c_19, c_34, c_48, c_69, c_86, c_122, c_145, c_160, c_168, bI_f c_80]) rfl
                  · refine gx_iconst (v := 1) C dX4_broken_163 (by decide) ?_
                    refine gx_goto (tgt := 168) C dX4_broken_164 (by decide) ?_
                    refine gx_icmp_eq (tgt := 176) C dX4_broken_168 (by decide) (fun c_168 => ?_) (fun c => absurd c (by decide))
                    refine gx_iconst (v := 0) C dX4_broken_176 (by decide) ?_
                    exact gx_iret C hRt hlocks dX4_broken_177 (by first | simp [mBr, yGr, c_19, c_34, c_48, c_69, c_86, c_122, c_145, c_160, c_168, bI_f c_80]) rfl
              · refine gx_aload_n C dX4_broken_125 rfl ?_
                refine mg_X4_ground C hK hT m469 dX4_broken_126 ?_
                refine gx_iload_n C dX4_broken_129 rfl ?_
                refine ml_11 C hK rfl (by omega) dX4_broken_130 ?_
                refine gx_iconst (v := 1) C dX4_broken_131 (by decide) ?_
                refine gx_icmp_eq (tgt := 138) C dX4_broken_132 (by decide) (fun c_132 => ?_) (fun c_132 => ?_)
                · refine gx_aload_n C dX4_broken_138 rfl ?_
                  refine mg_X4_kind C hK hT m476 dX4_broken_139 ?_
                  refine gx_iload_n C dX4_broken_142 rfl ?_
                  refine ml_5 C hK rfl (by omega) dX4_broken_143 ?_
                  refine gx_iconst (v := 2) C dX4_broken_144 (by decide) ?_
                  refine gx_icmp_ne (tgt := 152) C dX4_broken_145 (by decide) (fun c_145 => ?_) (fun c_145 => ?_)
                  · refine gx_iconst (v := 0) C dX4_broken_152 (by decide) ?_
                    refine gx_aload_n C dX4_broken_153 rfl ?_
                    refine mg_X4_ground C hK hT m469 dX4_broken_154 ?_
                    refine gx_iload_n C dX4_broken_157 rfl ?_
                    refine ml_11 C hK rfl (by omega) dX4_broken_158 ?_
                    refine gx_iconst (v := 2) C dX4_broken_159 (by decide) ?_
                    refine gx_icmp_ne (tgt := 167) C dX4_broken_160 (by decide) (fun c_160 => ?_) (fun c_160 => ?_)
                    · refine gx_iconst (v := 0) C dX4_broken_167 (by decide) ?_
                      refine gx_icmp_eq (tgt := 176) C dX4_broken_168 (by decide) (fun c_168 => ?_) (fun c => absurd c (by decide))
                      refine gx_iconst (v := 0) C dX4_broken_176 (by decide) ?_
                      exact gx_iret C hRt hlocks dX4_broken_177 (by first | simp [mBr, yGr, c_19, c_34, c_48, c_69, c_86, c_122, c_132, c_145, c_160, c_168, bI_f c_80]) rfl
                    · refine gx_iconst (v := 1) C dX4_broken_163 (by decide) ?_
                      refine gx_goto (tgt := 168) C dX4_broken_164 (by decide) ?_
                      refine gx_icmp_eq (tgt := 176) C dX4_broken_168 (by decide) (fun c => absurd c (by decide)) (fun c_168 => ?_)
                      refine gx_bipush (v := 8) C dX4_broken_171 (by decide) ?_
                      refine gx_goto (tgt := 177) C dX4_broken_173 (by decide) ?_
                      exact gx_iret C hRt hlocks dX4_broken_177 (by first | exact absurd (c_132.symm.trans c_160) (by decide) | simp [mBr, yGr, c_19, c_34, c_48, c_69, c_86, c_122, c_132, c_145, c_160, c_168, bI_f c_80]) rfl
                  · refine gx_iconst (v := 1) C dX4_broken_148 (by decide) ?_
                    refine gx_goto (tgt := 153) C dX4_broken_149 (by decide) ?_
                    refine gx_aload_n C dX4_broken_153 rfl ?_
                    refine mg_X4_ground C hK hT m469 dX4_broken_154 ?_
                    refine gx_iload_n C dX4_broken_157 rfl ?_
                    refine ml_11 C hK rfl (by omega) dX4_broken_158 ?_
                    refine gx_iconst (v := 2) C dX4_broken_159 (by decide) ?_
                    refine gx_icmp_ne (tgt := 167) C dX4_broken_160 (by decide) (fun c_160 => ?_) (fun c_160 => ?_)
                    · refine gx_iconst (v := 0) C dX4_broken_167 (by decide) ?_
                      refine gx_icmp_eq (tgt := 176) C dX4_broken_168 (by decide) (fun c => absurd c (by decide)) (fun c_168 => ?_)
                      refine gx_bipush (v := 8) C dX4_broken_171 (by decide) ?_
                      refine gx_goto (tgt := 177) C dX4_broken_173 (by decide) ?_
                      exact gx_iret C hRt hlocks dX4_broken_177 (by first | exact absurd (c_122.symm.trans c_145) (by decide) | simp [mBr, yGr, c_19, c_34, c_48, c_69, c_86, c_122, c_132, c_145, c_160, c_168, bI_f c_80]) rfl
                    · refine gx_iconst (v := 1) C dX4_broken_163 (by decide) ?_
                      refine gx_goto (tgt := 168) C dX4_broken_164 (by decide) ?_
                      refine gx_icmp_eq (tgt := 176) C dX4_broken_168 (by decide) (fun c_168 => ?_) (fun c => absurd c (by decide))
                      refine gx_iconst (v := 0) C dX4_broken_176 (by decide) ?_
                      exact gx_iret C hRt hlocks dX4_broken_177 (by first | exact absurd (c_122.symm.trans c_145) (by decide) | exact absurd (c_132.symm.trans c_160) (by decide) | simp [mBr, yGr, c_19, c_34, c_48, c_69, c_86, c_122, c_132, c_145, c_160, c_168, bI_f c_80]) rfl
                · refine gx_bipush (v := 7) C dX4_broken_135 (by decide) ?_
                  exact gx_iret C hRt hlocks dX4_broken_137 (by first | simp [mBr, yGr, c_19, c_34, c_48, c_69, c_86, c_122, c_132, bI_f c_80]) rfl
            · obtain ⟨q, hq, eq⟩ := mAt_some c_86
              rw [eq]
              refine gx_aload_n C dX4_broken_89 rfl ?_
              refine mg_X4_weight C hK hT m473 dX4_broken_90 ?_
              refine gx_iload_n C dX4_broken_93 rfl ?_
              refine ml_2 C hK rfl (by omega) dX4_broken_94 ?_
              refine gx_aload_n C dX4_broken_95 rfl ?_
              refine mg_X4_weight C hK hT m473 dX4_broken_96 ?_
              refine gx_iload_n C dX4_broken_99 rfl ?_
              refine gx_if_lt (tgt := 107) C dX4_broken_100 (by decide) (fun c => absurd c (m_n0 (by omega))) (fun c_100 => ?_)
              refine gx_iload_n C dX4_broken_103 rfl ?_
              refine gx_goto (tgt := 108) C dX4_broken_104 (by decide) ?_
              refine ml_2 C hK rfl (by omega) dX4_broken_108 ?_
              refine gx_icmp_le (tgt := 115) C dX4_broken_109 (by decide) (fun c_109 => ?_) (fun c_109 => ?_)
              · refine gx_aload_n C dX4_broken_115 rfl ?_
                refine mg_X4_kind C hK hT m476 dX4_broken_116 ?_
                refine gx_iload_n C dX4_broken_119 rfl ?_
                refine ml_5 C hK rfl (by omega) dX4_broken_120 ?_
                refine gx_iconst (v := 1) C dX4_broken_121 (by decide) ?_
                refine gx_icmp_ne (tgt := 138) C dX4_broken_122 (by decide) (fun c_122 => ?_) (fun c_122 => ?_)
                · refine gx_aload_n C dX4_broken_138 rfl ?_
                  refine mg_X4_kind C hK hT m476 dX4_broken_139 ?_
                  refine gx_iload_n C dX4_broken_142 rfl ?_
                  refine ml_5 C hK rfl (by omega) dX4_broken_143 ?_
                  refine gx_iconst (v := 2) C dX4_broken_144 (by decide) ?_
                  refine gx_icmp_ne (tgt := 152) C dX4_broken_145 (by decide) (fun c_145 => ?_) (fun c_145 => ?_)
                  · refine gx_iconst (v := 0) C dX4_broken_152 (by decide) ?_
                    refine gx_aload_n C dX4_broken_153 rfl ?_
                    refine mg_X4_ground C hK hT m469 dX4_broken_154 ?_
                    refine gx_iload_n C dX4_broken_157 rfl ?_
                    refine ml_11 C hK rfl (by omega) dX4_broken_158 ?_
                    refine gx_iconst (v := 2) C dX4_broken_159 (by decide) ?_
                    refine gx_icmp_ne (tgt := 167) C dX4_broken_160 (by decide) (fun c_160 => ?_) (fun c_160 => ?_)
                    · refine gx_iconst (v := 0) C dX4_broken_167 (by decide) ?_
                      refine gx_icmp_eq (tgt := 176) C dX4_broken_168 (by decide) (fun c_168 => ?_) (fun c => absurd c (by decide))
                      refine gx_iconst (v := 0) C dX4_broken_176 (by decide) ?_
                      exact gx_iret C hRt hlocks dX4_broken_177 (by first | simp [mBr, yGr, c_19, c_34, c_48, c_69, c_86, c_109, c_122, c_145, c_160, c_168, bI_f c_80, eq, m_n0 (show q < 2 ^ 31 by omega), nI_clamp (show q < 2 ^ 31 by omega)]) rfl
                    · refine gx_iconst (v := 1) C dX4_broken_163 (by decide) ?_
                      refine gx_goto (tgt := 168) C dX4_broken_164 (by decide) ?_
                      refine gx_icmp_eq (tgt := 176) C dX4_broken_168 (by decide) (fun c => absurd c (by decide)) (fun c_168 => ?_)
                      refine gx_bipush (v := 8) C dX4_broken_171 (by decide) ?_
                      refine gx_goto (tgt := 177) C dX4_broken_173 (by decide) ?_
                      exact gx_iret C hRt hlocks dX4_broken_177 (by first | simp [mBr, yGr, c_19, c_34, c_48, c_69, c_86, c_109, c_122, c_145, c_160, c_168, bI_f c_80, eq, m_n0 (show q < 2 ^ 31 by omega), nI_clamp (show q < 2 ^ 31 by omega)]) rfl
                  · refine gx_iconst (v := 1) C dX4_broken_148 (by decide) ?_
                    refine gx_goto (tgt := 153) C dX4_broken_149 (by decide) ?_
                    refine gx_aload_n C dX4_broken_153 rfl ?_
                    refine mg_X4_ground C hK hT m469 dX4_broken_154 ?_
                    refine gx_iload_n C dX4_broken_157 rfl ?_
                    refine ml_11 C hK rfl (by omega) dX4_broken_158 ?_
                    refine gx_iconst (v := 2) C dX4_broken_159 (by decide) ?_
                    refine gx_icmp_ne (tgt := 167) C dX4_broken_160 (by decide) (fun c_160 => ?_) (fun c_160 => ?_)
                    · refine gx_iconst (v := 0) C dX4_broken_167 (by decide) ?_
                      refine gx_icmp_eq (tgt := 176) C dX4_broken_168 (by decide) (fun c => absurd c (by decide)) (fun c_168 => ?_)
                      refine gx_bipush (v := 8) C dX4_broken_171 (by decide) ?_
                      refine gx_goto (tgt := 177) C dX4_broken_173 (by decide) ?_
                      exact gx_iret C hRt hlocks dX4_broken_177 (by first | simp [mBr, yGr, c_19, c_34, c_48, c_69, c_86, c_109, c_122, c_145, c_160, c_168, bI_f c_80, eq, m_n0 (show q < 2 ^ 31 by omega), nI_clamp (show q < 2 ^ 31 by omega)]) rfl
                    · refine gx_iconst (v := 1) C dX4_broken_163 (by decide) ?_
                      refine gx_goto (tgt := 168) C dX4_broken_164 (by decide) ?_
                      refine gx_icmp_eq (tgt := 176) C dX4_broken_168 (by decide) (fun c_168 => ?_) (fun c => absurd c (by decide))
                      refine gx_iconst (v := 0) C dX4_broken_176 (by decide) ?_
                      exact gx_iret C hRt hlocks dX4_broken_177 (by first | simp [mBr, yGr, c_19, c_34, c_48, c_69, c_86, c_109, c_122, c_145, c_160, c_168, bI_f c_80, eq, m_n0 (show q < 2 ^ 31 by omega), nI_clamp (show q < 2 ^ 31 by omega)]) rfl
                · refine gx_aload_n C dX4_broken_125 rfl ?_
                  refine mg_X4_ground C hK hT m469 dX4_broken_126 ?_
                  refine gx_iload_n C dX4_broken_129 rfl ?_
                  refine ml_11 C hK rfl (by omega) dX4_broken_130 ?_
                  refine gx_iconst (v := 1) C dX4_broken_131 (by decide) ?_
                  refine gx_icmp_eq (tgt := 138) C dX4_broken_132 (by decide) (fun c_132 => ?_) (fun c_132 => ?_)
                  · refine gx_aload_n C dX4_broken_138 rfl ?_
                    refine mg_X4_kind C hK hT m476 dX4_broken_139 ?_
                    refine gx_iload_n C dX4_broken_142 rfl ?_
                    refine ml_5 C hK rfl (by omega) dX4_broken_143 ?_
                    refine gx_iconst (v := 2) C dX4_broken_144 (by decide) ?_
                    refine gx_icmp_ne (tgt := 152) C dX4_broken_145 (by decide) (fun c_145 => ?_) (fun c_145 => ?_)
                    · refine gx_iconst (v := 0) C dX4_broken_152 (by decide) ?_
                      refine gx_aload_n C dX4_broken_153 rfl ?_
                      refine mg_X4_ground C hK hT m469 dX4_broken_154 ?_
                      refine gx_iload_n C dX4_broken_157 rfl ?_
                      refine ml_11 C hK rfl (by omega) dX4_broken_158 ?_
                      refine gx_iconst (v := 2) C dX4_broken_159 (by decide) ?_
                      refine gx_icmp_ne (tgt := 167) C dX4_broken_160 (by decide) (fun c_160 => ?_) (fun c_160 => ?_)
                      · refine gx_iconst (v := 0) C dX4_broken_167 (by decide) ?_
                        refine gx_icmp_eq (tgt := 176) C dX4_broken_168 (by decide) (fun c_168 => ?_) (fun c => absurd c (by decide))
                        refine gx_iconst (v := 0) C dX4_broken_176 (by decide) ?_
                        exact gx_iret C hRt hlocks dX4_broken_177 (by first | simp [mBr, yGr, c_19, c_34, c_48, c_69, c_86, c_109, c_122, c_132, c_145, c_160, c_168, bI_f c_80, eq, m_n0 (show q < 2 ^ 31 by omega), nI_clamp (show q < 2 ^ 31 by omega)]) rfl
                      · refine gx_iconst (v := 1) C dX4_broken_163 (by decide) ?_
                        refine gx_goto (tgt := 168) C dX4_broken_164 (by decide) ?_
                        refine gx_icmp_eq (tgt := 176) C dX4_broken_168 (by decide) (fun c => absurd c (by decide)) (fun c_168 => ?_)
                        refine gx_bipush (v := 8) C dX4_broken_171 (by decide) ?_
                        refine gx_goto (tgt := 177) C dX4_broken_173 (by decide) ?_
                        exact gx_iret C hRt hlocks dX4_broken_177 (by first | exact absurd (c_132.symm.trans c_160) (by decide) | simp [mBr, yGr, c_19, c_34, c_48, c_69, c_86, c_109, c_122, c_132, c_145, c_160, c_168, bI_f c_80, eq, m_n0 (show q < 2 ^ 31 by omega), nI_clamp (show q < 2 ^ 31 by omega)]) rfl
                    · refine gx_iconst (v := 1) C dX4_broken_148 (by decide) ?_
                      refine gx_goto (tgt := 153) C dX4_broken_149 (by decide) ?_
                      refine gx_aload_n C dX4_broken_153 rfl ?_
                      refine mg_X4_ground C hK hT m469 dX4_broken_154 ?_
                      refine gx_iload_n C dX4_broken_157 rfl ?_
                      refine ml_11 C hK rfl (by omega) dX4_broken_158 ?_
                      refine gx_iconst (v := 2) C dX4_broken_159 (by decide) ?_
                      refine gx_icmp_ne (tgt := 167) C dX4_broken_160 (by decide) (fun c_160 => ?_) (fun c_160 => ?_)
                      · refine gx_iconst (v := 0) C dX4_broken_167 (by decide) ?_
                        refine gx_icmp_eq (tgt := 176) C dX4_broken_168 (by decide) (fun c => absurd c (by decide)) (fun c_168 => ?_)
                        refine gx_bipush (v := 8) C dX4_broken_171 (by decide) ?_
                        refine gx_goto (tgt := 177) C dX4_broken_173 (by decide) ?_
                        exact gx_iret C hRt hlocks dX4_broken_177 (by first | exact absurd (c_122.symm.trans c_145) (by decide) | simp [mBr, yGr, c_19, c_34, c_48, c_69, c_86, c_109, c_122, c_132, c_145, c_160, c_168, bI_f c_80, eq, m_n0 (show q < 2 ^ 31 by omega), nI_clamp (show q < 2 ^ 31 by omega)]) rfl
                      · refine gx_iconst (v := 1) C dX4_broken_163 (by decide) ?_
                        refine gx_goto (tgt := 168) C dX4_broken_164 (by decide) ?_
                        refine gx_icmp_eq (tgt := 176) C dX4_broken_168 (by decide) (fun c_168 => ?_) (fun c => absurd c (by decide))
                        refine gx_iconst (v := 0) C dX4_broken_176 (by decide) ?_
                        exact gx_iret C hRt hlocks dX4_broken_177 (by first | exact absurd (c_122.symm.trans c_145) (by decide) | exact absurd (c_132.symm.trans c_160) (by decide) | simp [mBr, yGr, c_19, c_34, c_48, c_69, c_86, c_109, c_122, c_132, c_145, c_160, c_168, bI_f c_80, eq, m_n0 (show q < 2 ^ 31 by omega), nI_clamp (show q < 2 ^ 31 by omega)]) rfl
                  · refine gx_bipush (v := 7) C dX4_broken_135 (by decide) ?_
                    exact gx_iret C hRt hlocks dX4_broken_137 (by first | simp [mBr, yGr, c_19, c_34, c_48, c_69, c_86, c_109, c_122, c_132, bI_f c_80, eq, m_n0 (show q < 2 ^ 31 by omega), nI_clamp (show q < 2 ^ 31 by omega)]) rfl
              · refine gx_bipush (v := 6) C dX4_broken_112 (by decide) ?_
                exact gx_iret C hRt hlocks dX4_broken_114 (by first | simp [mBr, yGr, c_19, c_34, c_48, c_69, c_86, c_109, bI_f c_80, eq, m_n0 (show q < 2 ^ 31 by omega), nI_clamp (show q < 2 ^ 31 by omega)]) rfl
          · refine gx_iconst (v := 5) C dX4_broken_83 (by decide) ?_
            exact gx_iret C hRt hlocks dX4_broken_84 (by first | simp [mBr, yGr, c_19, c_34, c_48, c_69, bI_t c_80]) rfl
        · refine gx_iconst (v := 4) C dX4_broken_72 (by decide) ?_
          exact gx_iret C hRt hlocks dX4_broken_73 (by first | simp [mBr, yGr, c_19, c_34, c_48, c_69]) rfl
      · refine gx_iconst (v := 3) C dX4_broken_51 (by decide) ?_
        exact gx_iret C hRt hlocks dX4_broken_52 (by first | simp [mBr, yGr, c_19, c_34, c_48]) rfl
    · refine gx_iconst (v := 2) C dX4_broken_37 (by decide) ?_
      exact gx_iret C hRt hlocks dX4_broken_38 (by first | simp [mBr, yGr, c_19, c_34]) rfl
set_option maxHeartbeats 4000000 in
set_option maxRecDepth 100000 in
theorem c_X4_scoreOf {l : Launch} {D : va_G} {cI cG cL : ClassId} {ad : Nat → Nat} {n t : Nat} {B : Int32} {v : Nat → Nat → Int32} {b r T : Nat} (hT6 : T ≤ 60) (e0 : v 0 0 = nI T) (hb : b < 60) (hr : r < 16) (ht0 : mHt v (nI r) T = 0 ∨ ∃ q, q < 60 ∧ mAt v (nI r) (nI (mHt v (nI r) T) - 1) T = nI q) : gx_M l yX4_scoreOf wsX4_scoreOf ({ frames := 1, cells := 0, slots := 0, locals := 25 }) D vwCl (gT cI cG cL) [.ref (ad 0), .int (nI b), .int (nI r)] (mW cI ad n t B v) (mW cI ad n t B v) (some (.int (mSc v T b r))) := by
  refine gx_ofG (cc := cX4_scoreOf) (maxL := 7) (ret := (some .int)) [some (.ref (ad 0)), some (.int (nI b)), some (.int (nI r)), none, none, none, none] (by decide) rfl rfl (Nat.le_of_ble_eq_true rfl) rfl ?_
  intro p e s m args below meth c C hRt hlocks hK
  have C : CallFix p m c cX4_scoreOf 7 s args (wsX4_scoreOf) RX4 := C
  have hT : ∀ w ∈ bigW, w ∈ wsX4_scoreOf := bgT
  refine gx_aload_n C dX4_scoreOf_0 rfl ?_
  refine gx_iload_n C dX4_scoreOf_1 rfl ?_
  refine gx_cVi (n := 1) (q0 := 0) C hK (c_X4_heightOf (l := l) (D := D) (cI := cI) (cG := cG) (cL := cL) (ad := ad) (n := n) (t := t) (B := B) (v := v) (a := nI r) hT6 e0) mW_fst (bgV hT m543 m545 slX4_heightOf m7 m546) rfl rfl rfl (by decide +kernel) ⟨Nat.le_of_ble_eq_true rfl, Nat.le_of_ble_eq_true rfl⟩ rfl rfl rfl rfl (Nat.le_of_ble_eq_true rfl) (Nat.zero_le _) (Nat.zero_le _) dX4_scoreOf_2 ?_
  refine gx_istore_n (lv2 := [some _, some _, some _, some _, none, none, none]) C dX4_scoreOf_5 (by decide) rfl ?_
  refine gx_aload_n C dX4_scoreOf_6 rfl ?_
  refine mg_X4_reserved C hK hT m470 dX4_scoreOf_7 ?_
  refine gx_iload_n C dX4_scoreOf_10 rfl ?_
  refine ml_12 C hK rfl (by omega) dX4_scoreOf_11 ?_
  refine gx_if_le (tgt := 20) C dX4_scoreOf_12 (by decide) (fun c_12 => ?_) (fun c_12 => ?_)
  · refine gx_iconst (v := 0) C dX4_scoreOf_20 (by decide) ?_
    refine gx_istore (lv2 := [some _, some _, some _, some _, some _, none, none]) C dX4_scoreOf_21 (by decide) rfl ?_
    refine gx_iload_n C dX4_scoreOf_23 rfl ?_
    refine gx_if_ne (tgt := 33) C dX4_scoreOf_24 (by decide) (fun c_24 => ?_) (fun c_24 => ?_)
    · obtain ⟨q, hq, eq⟩ := ht0.resolve_left (fun q => c_24 (by rw [q]; rfl))
      refine gx_aload_n C dX4_scoreOf_33 rfl ?_
      refine gx_iload_n C dX4_scoreOf_34 rfl ?_
      refine gx_iload_n C dX4_scoreOf_35 rfl ?_
      refine gx_iconst (v := 1) C dX4_scoreOf_36 (by decide) ?_
      refine gx_isub C dX4_scoreOf_37 ?_
      refine gx_cVi (n := 2) (q0 := 0) C hK (c_X4_boxAt (l := l) (D := D) (cI := cI) (cG := cG) (cL := cL) (ad := ad) (n := n) (t := t) (B := B) (v := v) (a := nI r) (y := nI (mHt v (nI r) T) - 1) hT6 e0) mW_fst (bgV hT m563 m565 slX4_boxAt m7 m566) rfl rfl rfl (by decide +kernel) ⟨Nat.le_of_ble_eq_true rfl, Nat.le_of_ble_eq_true rfl⟩ rfl rfl rfl rfl (Nat.le_of_ble_eq_true rfl) (Nat.zero_le _) (Nat.zero_le _) dX4_scoreOf_38 ?_
      rw [eq]
      refine gx_istore (lv2 := [some _, some _, some _, some _, some _, some _, none]) C dX4_scoreOf_41 (by decide) rfl ?_
      refine gx_iconst (v := 3) C dX4_scoreOf_43 (by decide) ?_
      refine gx_aload_n C dX4_scoreOf_44 rfl ?_
      refine mg_X4_weight C hK hT m473 dX4_scoreOf_45 ?_
      refine gx_iload C dX4_scoreOf_48 rfl ?_
      refine ml_2 C hK rfl (by omega) dX4_scoreOf_50 ?_
      refine gx_aload_n C dX4_scoreOf_51 rfl ?_
      refine mg_X4_weight C hK hT m473 dX4_scoreOf_52 ?_
      refine gx_iload_n C dX4_scoreOf_55 rfl ?_
      refine ml_2 C hK rfl (by omega) dX4_scoreOf_56 ?_
      refine gx_isub C dX4_scoreOf_57 ?_
      refine gx_imul C dX4_scoreOf_58 ?_
      refine gx_istore (lv2 := [some _, some _, some _, some _, some _, some _, some _]) C dX4_scoreOf_59 (by decide) rfl ?_
      refine gx_iload C dX4_scoreOf_61 rfl ?_
      refine gx_bipush (v := 40) C dX4_scoreOf_63 (by decide) ?_
      refine gx_iadd C dX4_scoreOf_65 ?_
      refine gx_bipush (v := 15) C dX4_scoreOf_66 (by decide) ?_
      refine gx_aload_n C dX4_scoreOf_68 rfl ?_
      refine gx_iload_n C dX4_scoreOf_69 rfl ?_
      refine gx_iload_n C dX4_scoreOf_70 rfl ?_
      refine gx_iload_n C dX4_scoreOf_71 rfl ?_
      refine gx_cVi (n := 3) (q0 := 0) C hK (c_X4_sooner (l := l) (D := D) (cI := cI) (cG := cG) (cL := cL) (ad := ad) (n := n) (t := t) (B := B) (v := v) (a := nI r) (y := nI (mHt v (nI r) T)) hT6 e0 hb) mW_fst (bgV hT m603 m605 slX4_sooner m7 m606) rfl rfl rfl (by decide +kernel) ⟨Nat.le_of_ble_eq_true rfl, Nat.le_of_ble_eq_true rfl⟩ rfl rfl rfl rfl (Nat.le_of_ble_eq_true rfl) (Nat.zero_le _) (Nat.zero_le _) dX4_scoreOf_72 ?_
      refine gx_imul C dX4_scoreOf_75 ?_
      refine gx_isub C dX4_scoreOf_76 ?_
      refine gx_aload_n C dX4_scoreOf_77 rfl ?_
      refine mg_X4_ship C hK hT m475 dX4_scoreOf_78 ?_
      refine gx_iload C dX4_scoreOf_81 rfl ?_
      refine ml_4 C hK rfl (by omega) dX4_scoreOf_83 ?_
      refine gx_aload_n C dX4_scoreOf_84 rfl ?_
      refine mg_X4_ship C hK hT m475 dX4_scoreOf_85 ?_
      refine gx_iload_n C dX4_scoreOf_88 rfl ?_
      refine ml_4 C hK rfl (by omega) dX4_scoreOf_89 ?_
      refine gx_icmp_ne (tgt := 98) C dX4_scoreOf_90 (by decide) (fun c_90 => ?_) (fun c_90 => ?_)
      · refine gx_iconst (v := 0) C dX4_scoreOf_98 (by decide) ?_
        refine gx_iadd C dX4_scoreOf_99 ?_
        refine gx_iload C dX4_scoreOf_100 rfl ?_
        refine gx_bipush (v := 24) C dX4_scoreOf_102 (by decide) ?_
        refine gx_icmp_le (tgt := 112) C dX4_scoreOf_104 (by decide) (fun c_104 => ?_) (fun c_104 => ?_)
        · refine gx_iload C dX4_scoreOf_112 rfl ?_
          refine gx_isub C dX4_scoreOf_114 ?_
          exact gx_iret C hRt hlocks dX4_scoreOf_115 (by simp [mSc, c_12, c_24, c_90, c_104, eq, nI_clamp (show q < 2 ^ 31 by omega)]) rfl
        · refine gx_bipush (v := 24) C dX4_scoreOf_107 (by decide) ?_
          refine gx_goto (tgt := 114) C dX4_scoreOf_109 (by decide) ?_
          refine gx_isub C dX4_scoreOf_114 ?_
          exact gx_iret C hRt hlocks dX4_scoreOf_115 (by simp [mSc, c_12, c_24, c_90, c_104, eq, nI_clamp (show q < 2 ^ 31 by omega)]) rfl
      · refine gx_bipush (v := 12) C dX4_scoreOf_93 (by decide) ?_
        refine gx_goto (tgt := 99) C dX4_scoreOf_95 (by decide) ?_
        refine gx_iadd C dX4_scoreOf_99 ?_
        refine gx_iload C dX4_scoreOf_100 rfl ?_
        refine gx_bipush (v := 24) C dX4_scoreOf_102 (by decide) ?_
        refine gx_icmp_le (tgt := 112) C dX4_scoreOf_104 (by decide) (fun c_104 => ?_) (fun c_104 => ?_)
        · refine gx_iload C dX4_scoreOf_112 rfl ?_
          refine gx_isub C dX4_scoreOf_114 ?_
          exact gx_iret C hRt hlocks dX4_scoreOf_115 (by simp [mSc, c_12, c_24, c_90, c_104, eq, nI_clamp (show q < 2 ^ 31 by omega)]) rfl
        · refine gx_bipush (v := 24) C dX4_scoreOf_107 (by decide) ?_
          refine gx_goto (tgt := 114) C dX4_scoreOf_109 (by decide) ?_
          refine gx_isub C dX4_scoreOf_114 ?_
          exact gx_iret C hRt hlocks dX4_scoreOf_115 (by simp [mSc, c_12, c_24, c_90, c_104, eq, nI_clamp (show q < 2 ^ 31 by omega)]) rfl
    · refine gx_iload C dX4_scoreOf_27 rfl ?_
      refine gx_bipush (v := 20) C dX4_scoreOf_29 (by decide) ?_
      refine gx_iadd C dX4_scoreOf_31 ?_
      exact gx_iret C hRt hlocks dX4_scoreOf_32 (by simp [mSc, c_12, c_24]) rfl
  · refine gx_bipush (v := 30) C dX4_scoreOf_15 (by decide) ?_
    refine gx_goto (tgt := 21) C dX4_scoreOf_17 (by decide) ?_
    refine gx_istore (lv2 := [some _, some _, some _, some _, some _, none, none]) C dX4_scoreOf_21 (by decide) rfl ?_
    refine gx_iload_n C dX4_scoreOf_23 rfl ?_
    refine gx_if_ne (tgt := 33) C dX4_scoreOf_24 (by decide) (fun c_24 => ?_) (fun c_24 => ?_)
    · obtain ⟨q, hq, eq⟩ := ht0.resolve_left (fun q => c_24 (by rw [q]; rfl))
      refine gx_aload_n C dX4_scoreOf_33 rfl ?_
      refine gx_iload_n C dX4_scoreOf_34 rfl ?_
      refine gx_iload_n C dX4_scoreOf_35 rfl ?_
      refine gx_iconst (v := 1) C dX4_scoreOf_36 (by decide) ?_
      refine gx_isub C dX4_scoreOf_37 ?_
      refine gx_cVi (n := 2) (q0 := 0) C hK (c_X4_boxAt (l := l) (D := D) (cI := cI) (cG := cG) (cL := cL) (ad := ad) (n := n) (t := t) (B := B) (v := v) (a := nI r) (y := nI (mHt v (nI r) T) - 1) hT6 e0) mW_fst (bgV hT m563 m565 slX4_boxAt m7 m566) rfl rfl rfl (by decide +kernel) ⟨Nat.le_of_ble_eq_true rfl, Nat.le_of_ble_eq_true rfl⟩ rfl rfl rfl rfl (Nat.le_of_ble_eq_true rfl) (Nat.zero_le _) (Nat.zero_le _) dX4_scoreOf_38 ?_
      rw [eq]
      refine gx_istore (lv2 := [some _, some _, some _, some _, some _, some _, none]) C dX4_scoreOf_41 (by decide) rfl ?_
      refine gx_iconst (v := 3) C dX4_scoreOf_43 (by decide) ?_
      refine gx_aload_n C dX4_scoreOf_44 rfl ?_
      refine mg_X4_weight C hK hT m473 dX4_scoreOf_45 ?_
      refine gx_iload C dX4_scoreOf_48 rfl ?_
      refine ml_2 C hK rfl (by omega) dX4_scoreOf_50 ?_
      refine gx_aload_n C dX4_scoreOf_51 rfl ?_
      refine mg_X4_weight C hK hT m473 dX4_scoreOf_52 ?_
      refine gx_iload_n C dX4_scoreOf_55 rfl ?_
      refine ml_2 C hK rfl (by omega) dX4_scoreOf_56 ?_
      refine gx_isub C dX4_scoreOf_57 ?_
      refine gx_imul C dX4_scoreOf_58 ?_
      refine gx_istore (lv2 := [some _, some _, some _, some _, some _, some _, some _]) C dX4_scoreOf_59 (by decide) rfl ?_
      refine gx_iload C dX4_scoreOf_61 rfl ?_
      refine gx_bipush (v := 40) C dX4_scoreOf_63 (by decide) ?_
      refine gx_iadd C dX4_scoreOf_65 ?_
      refine gx_bipush (v := 15) C dX4_scoreOf_66 (by decide) ?_
      refine gx_aload_n C dX4_scoreOf_68 rfl ?_
      refine gx_iload_n C dX4_scoreOf_69 rfl ?_
      refine gx_iload_n C dX4_scoreOf_70 rfl ?_
      refine gx_iload_n C dX4_scoreOf_71 rfl ?_
      refine gx_cVi (n := 3) (q0 := 0) C hK (c_X4_sooner (l := l) (D := D) (cI := cI) (cG := cG) (cL := cL) (ad := ad) (n := n) (t := t) (B := B) (v := v) (a := nI r) (y := nI (mHt v (nI r) T)) hT6 e0 hb) mW_fst (bgV hT m603 m605 slX4_sooner m7 m606) rfl rfl rfl (by decide +kernel) ⟨Nat.le_of_ble_eq_true rfl, Nat.le_of_ble_eq_true rfl⟩ rfl rfl rfl rfl (Nat.le_of_ble_eq_true rfl) (Nat.zero_le _) (Nat.zero_le _) dX4_scoreOf_72 ?_
      refine gx_imul C dX4_scoreOf_75 ?_
      refine gx_isub C dX4_scoreOf_76 ?_
      refine gx_aload_n C dX4_scoreOf_77 rfl ?_
      refine mg_X4_ship C hK hT m475 dX4_scoreOf_78 ?_
      refine gx_iload C dX4_scoreOf_81 rfl ?_
      refine ml_4 C hK rfl (by omega) dX4_scoreOf_83 ?_
      refine gx_aload_n C dX4_scoreOf_84 rfl ?_
      refine mg_X4_ship C hK hT m475 dX4_scoreOf_85 ?_
      refine gx_iload_n C dX4_scoreOf_88 rfl ?_
      refine ml_4 C hK rfl (by omega) dX4_scoreOf_89 ?_
      refine gx_icmp_ne (tgt := 98) C dX4_scoreOf_90 (by decide) (fun c_90 => ?_) (fun c_90 => ?_)
      · refine gx_iconst (v := 0) C dX4_scoreOf_98 (by decide) ?_
        refine gx_iadd C dX4_scoreOf_99 ?_
        refine gx_iload C dX4_scoreOf_100 rfl ?_
        refine gx_bipush (v := 24) C dX4_scoreOf_102 (by decide) ?_
        refine gx_icmp_le (tgt := 112) C dX4_scoreOf_104 (by decide) (fun c_104 => ?_) (fun c_104 => ?_)
        · refine gx_iload C dX4_scoreOf_112 rfl ?_
          refine gx_isub C dX4_scoreOf_114 ?_
          exact gx_iret C hRt hlocks dX4_scoreOf_115 (by simp [mSc, c_12, c_24, c_90, c_104, eq, nI_clamp (show q < 2 ^ 31 by omega)]) rfl
        · refine gx_bipush (v := 24) C dX4_scoreOf_107 (by decide) ?_
          refine gx_goto (tgt := 114) C dX4_scoreOf_109 (by decide) ?_
          refine gx_isub C dX4_scoreOf_114 ?_
          exact gx_iret C hRt hlocks dX4_scoreOf_115 (by simp [mSc, c_12, c_24, c_90, c_104, eq, nI_clamp (show q < 2 ^ 31 by omega)]) rfl
      · refine gx_bipush (v := 12) C dX4_scoreOf_93 (by decide) ?_
        refine gx_goto (tgt := 99) C dX4_scoreOf_95 (by decide) ?_
        refine gx_iadd C dX4_scoreOf_99 ?_
        refine gx_iload C dX4_scoreOf_100 rfl ?_
        refine gx_bipush (v := 24) C dX4_scoreOf_102 (by decide) ?_
        refine gx_icmp_le (tgt := 112) C dX4_scoreOf_104 (by decide) (fun c_104 => ?_) (fun c_104 => ?_)
        · refine gx_iload C dX4_scoreOf_112 rfl ?_
          refine gx_isub C dX4_scoreOf_114 ?_
          exact gx_iret C hRt hlocks dX4_scoreOf_115 (by simp [mSc, c_12, c_24, c_90, c_104, eq, nI_clamp (show q < 2 ^ 31 by omega)]) rfl
        · refine gx_bipush (v := 24) C dX4_scoreOf_107 (by decide) ?_
          refine gx_goto (tgt := 114) C dX4_scoreOf_109 (by decide) ?_
          refine gx_isub C dX4_scoreOf_114 ?_
          exact gx_iret C hRt hlocks dX4_scoreOf_115 (by simp [mSc, c_12, c_24, c_90, c_104, eq, nI_clamp (show q < 2 ^ 31 by omega)]) rfl
    · refine gx_iload C dX4_scoreOf_27 rfl ?_
      refine gx_bipush (v := 20) C dX4_scoreOf_29 (by decide) ?_
      refine gx_iadd C dX4_scoreOf_31 ?_
      exact gx_iret C hRt hlocks dX4_scoreOf_32 (by simp [mSc, c_12, c_24]) rfl
set_option maxHeartbeats 4000000 in
set_option maxRecDepth 100000 in
theorem c_X4_goes {l : Launch} {D : va_G} {cI cG cL : ClassId} {ad : Nat → Nat} {n t : Nat} {B : Int32} {v : Nat → Nat → Int32} {x : Int32} {b T : Nat} (hT6 : T ≤ 60) (e0 : v 0 0 = nI T) (hb : b < 60) : gx_M l yX4_goes wsX4_goes ({ frames := 1, cells := 0, slots := 0, locals := 23 }) D vwCl (gT cI cG cL) [.ref (ad 0), .int (nI b), .int x] (mW cI ad n t B v) (mW cI ad n t B (mGoes v T b x)) none := by
  refine gx_ofG (cc := cX4_goes) (maxL := 3) (ret := none) [some (.ref (ad 0)), some (.int (nI b)), some (.int x)] (by decide) rfl rfl (Nat.le_of_ble_eq_true rfl) rfl ?_
  intro p e s m args below meth c C hRt hlocks hK
  have C : CallFix p m c cX4_goes 3 s args (wsX4_goes) RX4 := C
  have hT : ∀ w ∈ bigW, w ∈ wsX4_goes := bgT
  refine gx_aload_n C dX4_goes_0 rfl ?_
  refine mg_X4_tierOf C hK hT m478 dX4_goes_1 ?_
  refine gx_iload_n C dX4_goes_4 rfl ?_
  refine gx_iload_n C dX4_goes_5 rfl ?_
  refine gx_if_ge (tgt := 13) C dX4_goes_6 (by decide) (fun c_6 => ?_) (fun c_6 => ?_)
  · refine gx_aload_n C dX4_goes_13 rfl ?_
    refine gx_iload_n C dX4_goes_14 rfl ?_
    refine gx_cVi (n := 1) (q0 := 0) C hK (c_X4_heightOf (l := l) (D := D) (cI := cI) (cG := cG) (cL := cL) (ad := ad) (n := n) (t := t) (B := B) (v := v) (a := x) hT6 e0) mW_fst (bgV hT m543 m545 slX4_heightOf m7 m546) rfl rfl rfl (by decide +kernel) ⟨Nat.le_of_ble_eq_true rfl, Nat.le_of_ble_eq_true rfl⟩ rfl rfl rfl rfl (Nat.le_of_ble_eq_true rfl) (Nat.zero_le _) (Nat.zero_le _) dX4_goes_15 ?_
    refine ms_8 C hK rfl (by omega) dX4_goes_18 ?_
    refine gx_aload_n C dX4_goes_19 rfl ?_
    refine mg_X4_rowOf C hK hT m477 dX4_goes_20 ?_
    refine gx_iload_n C dX4_goes_23 rfl ?_
    refine gx_iload_n C dX4_goes_24 rfl ?_
    refine ms_7 C hK rfl (by omega) dX4_goes_25 ?_
    exact gx_vret C hRt hlocks dX4_goes_26 (by first | rw [mGoes, if_pos c_6] | rw [mGoes, if_neg c_6])
  · refine gx_iconst (v := (-1)) C dX4_goes_9 (by decide) ?_
    refine gx_goto (tgt := 18) C dX4_goes_10 (by decide) ?_
    refine ms_8 C hK rfl (by omega) dX4_goes_18 ?_
    refine gx_aload_n C dX4_goes_19 rfl ?_
    refine mg_X4_rowOf C hK hT m477 dX4_goes_20 ?_
    refine gx_iload_n C dX4_goes_23 rfl ?_
    refine gx_iload_n C dX4_goes_24 rfl ?_
    refine ms_7 C hK rfl (by omega) dX4_goes_25 ?_
    exact gx_vret C hRt hlocks dX4_goes_26 (by first | rw [mGoes, if_pos c_6] | rw [mGoes, if_neg c_6])
set_option maxHeartbeats 4000000 in
set_option maxRecDepth 100000 in
theorem c_X4_moves {l : Launch} {D : va_G} {cI cG cL : ClassId} {ad : Nat → Nat} {n t : Nat} {B : Int32} {v : Nat → Nat → Int32} {x : Int32} {b T k : Nat} (hT6 : T ≤ 60) (e0 : v 0 0 = nI T) (hb : b < 60) (hk : k < 100) (ek : v 0 2 = nI k) : gx_M l yX4_moves wsX4_moves ({ frames := 2, cells := 0, slots := 0, locals := 45 }) D vwCl (gT cI cG cL) [.ref (ad 0), .int (nI b), .int x] (mW cI ad n t B v) (mW cI ad n t B (mGoes (mPush v k b) T b x)) none := by
  refine gx_ofG (cc := cX4_moves) (maxL := 4) (ret := none) [some (.ref (ad 0)), some (.int (nI b)), some (.int x), none] (by decide) rfl rfl (Nat.le_of_ble_eq_true rfl) rfl ?_
  intro p e s m args below meth c C hRt hlocks hK
  have C : CallFix p m c cX4_moves 4 s args (wsX4_moves) RX4 := C
  have hT : ∀ w ∈ bigW, w ∈ wsX4_moves := bgT
  refine gx_aload_n C dX4_moves_0 rfl ?_
  refine mg_X4_kept C hK hT m480 dX4_moves_1 ?_
  refine gx_bipush (v := 100) C dX4_moves_4 (by decide) ?_
  rw [ek]
  refine gx_icmp_ne (tgt := 61) C dX4_moves_6 (by decide) (fun c_6 => ?_) (fun c => absurd ((nI_eq (b := 100) (by omega) (by decide)).mp c) (by omega))
  refine gx_aload_n C dX4_moves_61 rfl ?_
  refine mg_X4_moved C hK hT m481 dX4_moves_62 ?_
  refine gx_aload_n C dX4_moves_65 rfl ?_
  refine mg_X4_kept C hK hT m480 dX4_moves_66 ?_
  rw [ek]
  refine gx_iload_n C dX4_moves_69 rfl ?_
  refine ms_9 C hK rfl (by omega) dX4_moves_70 ?_
  refine gx_aload_n C dX4_moves_71 rfl ?_
  refine mg_X4_was C hK hT m482 dX4_moves_72 ?_
  refine gx_aload_n C dX4_moves_75 rfl ?_
  refine mg_X4_kept C hK hT m480 dX4_moves_76 ?_
  rw [show mu v 9 k (nI b) 0 2 = nI k from ek]
  refine gx_aload_n C dX4_moves_79 rfl ?_
  refine mg_X4_rowOf C hK hT m477 dX4_moves_80 ?_
  refine gx_iload_n C dX4_moves_83 rfl ?_
  refine ml_7 C hK rfl (by omega) dX4_moves_84 ?_
  refine ms_10 C hK rfl (by omega) dX4_moves_85 ?_
  refine gx_aload_n C dX4_moves_86 rfl ?_
  refine gx_dup C dX4_moves_87 rfl ?_
  refine mg_X4_kept C hK hT m480 dX4_moves_88 ?_
  refine gx_iconst (v := 1) C dX4_moves_91 (by decide) ?_
  refine gx_iadd C dX4_moves_92 ?_
  refine mp_X4_kept C hK hT m480 dX4_moves_93 ?_
  refine gx_aload_n C dX4_moves_96 rfl ?_
  refine gx_dup C dX4_moves_97 rfl ?_
  refine mg_X4_made C hK hT m479 dX4_moves_98 ?_
  refine gx_iconst (v := 1) C dX4_moves_101 (by decide) ?_
  refine gx_iadd C dX4_moves_102 ?_
  refine mp_X4_made C hK hT m479 dX4_moves_103 ?_
  refine gx_aload_n C dX4_moves_106 rfl ?_
  refine gx_iload_n C dX4_moves_107 rfl ?_
  refine gx_iload_n C dX4_moves_108 rfl ?_
  refine gx_cVv (n := 2) (q0 := 0) C hK (c_X4_goes (l := l) (D := D) (cI := cI) (cG := cG) (cL := cL) (ad := ad) (n := n) (t := t) (B := B) (v := mPush v k b) (x := x) hT6 e0 hb) mW_fst (bgV hT m579 m581 slX4_goes m7 m582) rfl rfl rfl (by decide +kernel) ⟨Nat.le_of_ble_eq_true rfl, Nat.le_of_ble_eq_true rfl⟩ rfl rfl rfl rfl (Nat.le_of_ble_eq_true rfl) (Nat.zero_le _) (Nat.zero_le _) dX4_moves_109 ?_
  exact gx_vret C hRt hlocks dX4_moves_112 rfl
set_option maxHeartbeats 4000000 in
set_option maxRecDepth 100000 in
theorem lp_X4_moves_full {l : Launch} {D : va_G} {cI cG cL : ClassId} {ad : Nat → Nat} {n t : Nat} {B : Int32} {v : Nat → Nat → Int32} {x : Int32} {b T : Nat} {p : Program} {e : Env} {s : State} {m : MethodId} {args : Array Value} {below : List Frame} {meth : Method} {c : Code} (C : CallFix p m c cX4_moves 4 s args wsX4_moves RX4) (hT : ∀ w ∈ bigW, w ∈ wsX4_moves) (hRt : meth.sig.returnType = none) (hlocks : meth.locks = false) (hK : va_K D vwCl (gT cI cG cL) s) (hT6 : T ≤ 60) (e0 : v 0 0 = nI T) (hb : b < 60) (ek : v 0 2 = 100) : ∀ (d j : Nat), j + d = 99 → gx_G p l e (headSpec wsX4_moves ({ frames := 2, cells := 0, slots := 0, locals := 45 })).room s m args below meth c D vwCl (gx_in (mW cI ad n t B v)) 4 0 0 (gx_Qm D vwCl below args s (mW cI ad n t B v) (mW cI ad n t B (mGoes (mPush (mu (mSh v 100) 0 2 (v 0 2 - 1)) 99 b) T b x)) none) (mW cI ad n t B (mSh v (j + 1))) 11 [some (.ref (ad 0)), some (.int (nI b)), some (.int x), some (.int (nI (j + 1)))] [] := by
  intro d
  induction d with
  | zero =>
    intro j hj
    refine gx_iload_n C dX4_moves_11 rfl ?_
    refine gx_bipush (v := 100) C dX4_moves_12 (by decide) ?_
    refine gx_icmp_ge (tgt := 51) C dX4_moves_14 (by decide) (fun c_14 => ?_) (fun c => absurd (nI_le (a := 100) (by omega) (by omega)) c)
    obtain rfl : j = 99 := by omega
    refine gx_aload_n C dX4_moves_51 rfl ?_
    refine gx_dup C dX4_moves_52 rfl ?_
    refine mg_X4_kept C hK hT m480 dX4_moves_53 ?_
    refine gx_iconst (v := 1) C dX4_moves_56 (by decide) ?_
    refine gx_isub C dX4_moves_57 ?_
    refine mp_X4_kept C hK hT m480 dX4_moves_58 ?_
    refine gx_aload_n C dX4_moves_61 rfl ?_
    refine mg_X4_moved C hK hT m481 dX4_moves_62 ?_
    refine gx_aload_n C dX4_moves_65 rfl ?_
    refine mg_X4_kept C hK hT m480 dX4_moves_66 ?_
    rw [show mu (mSh v 100) 0 2 (mSh v 100 0 2 - 1) 0 2 = nI 99 by show v 0 2 - 1 = nI 99; rw [ek]; rfl]
    refine gx_iload_n C dX4_moves_69 rfl ?_
    refine ms_9 C hK rfl (by omega) dX4_moves_70 ?_
    refine gx_aload_n C dX4_moves_71 rfl ?_
    refine mg_X4_was C hK hT m482 dX4_moves_72 ?_
    refine gx_aload_n C dX4_moves_75 rfl ?_
    refine mg_X4_kept C hK hT m480 dX4_moves_76 ?_
    rw [show mu (mu (mSh v 100) 0 2 (mSh v 100 0 2 - 1)) 9 99 (nI b) 0 2 = nI 99 by show v 0 2 - 1 = nI 99; rw [ek]; rfl]
    refine gx_aload_n C dX4_moves_79 rfl ?_
    refine mg_X4_rowOf C hK hT m477 dX4_moves_80 ?_
    refine gx_iload_n C dX4_moves_83 rfl ?_
    refine ml_7 C hK rfl (by omega) dX4_moves_84 ?_
    refine ms_10 C hK rfl (by omega) dX4_moves_85 ?_
    refine gx_aload_n C dX4_moves_86 rfl ?_
    refine gx_dup C dX4_moves_87 rfl ?_
    refine mg_X4_kept C hK hT m480 dX4_moves_88 ?_
    refine gx_iconst (v := 1) C dX4_moves_91 (by decide) ?_
    refine gx_iadd C dX4_moves_92 ?_
    refine mp_X4_kept C hK hT m480 dX4_moves_93 ?_
    refine gx_aload_n C dX4_moves_96 rfl ?_
    refine gx_dup C dX4_moves_97 rfl ?_
    refine mg_X4_made C hK hT m479 dX4_moves_98 ?_
    refine gx_iconst (v := 1) C dX4_moves_101 (by decide) ?_
    refine gx_iadd C dX4_moves_102 ?_
    refine mp_X4_made C hK hT m479 dX4_moves_103 ?_
    refine gx_aload_n C dX4_moves_106 rfl ?_
    refine gx_iload_n C dX4_moves_107 rfl ?_
    refine gx_iload_n C dX4_moves_108 rfl ?_
    refine gx_cVv (n := 2) (q0 := 0) C hK (c_X4_goes (l := l) (D := D) (cI := cI) (cG := cG) (cL := cL) (ad := ad) (n := n) (t := t) (B := B) (v := mPush (mu (mSh v 100) 0 2 (v 0 2 - 1)) 99 b) (x := x) hT6 e0 hb) mW_fst (bgV hT m579 m581 slX4_goes m7 m582) rfl rfl rfl (by decide +kernel) ⟨Nat.le_of_ble_eq_true rfl, Nat.le_of_ble_eq_true rfl⟩ rfl rfl rfl rfl (Nat.le_of_ble_eq_true rfl) (Nat.zero_le _) (Nat.zero_le _) dX4_moves_109 ?_
    exact gx_vret C hRt hlocks dX4_moves_112 rfl
  | succ d ih =>
    intro j hj
    refine gx_iload_n C dX4_moves_11 rfl ?_
    refine gx_bipush (v := 100) C dX4_moves_12 (by decide) ?_
    refine gx_icmp_ge (tgt := 51) C dX4_moves_14 (by decide) (fun c => absurd c (nI_ge (b := 100) (by omega) (by omega))) (fun c_14 => ?_)
    refine gx_aload_n C dX4_moves_17 rfl ?_
    refine mg_X4_moved C hK hT m481 dX4_moves_18 ?_
    refine gx_iload_n C dX4_moves_21 rfl ?_
    refine gx_iconst (v := 1) C dX4_moves_22 (by decide) ?_
    refine gx_isub C dX4_moves_23 ?_
    rw [nI_pred]
    refine gx_aload_n C dX4_moves_24 rfl ?_
    refine mg_X4_moved C hK hT m481 dX4_moves_25 ?_
    refine gx_iload_n C dX4_moves_28 rfl ?_
    refine ml_9 C hK rfl (by omega) dX4_moves_29 ?_
    refine ms_9 C hK rfl (by omega) dX4_moves_30 ?_
    refine gx_aload_n C dX4_moves_31 rfl ?_
    refine mg_X4_was C hK hT m482 dX4_moves_32 ?_
    refine gx_iload_n C dX4_moves_35 rfl ?_
    refine gx_iconst (v := 1) C dX4_moves_36 (by decide) ?_
    refine gx_isub C dX4_moves_37 ?_
    rw [nI_pred]
    refine gx_aload_n C dX4_moves_38 rfl ?_
    refine mg_X4_was C hK hT m482 dX4_moves_39 ?_
    refine gx_iload_n C dX4_moves_42 rfl ?_
    refine ml_10 C hK rfl (by omega) dX4_moves_43 ?_
    refine ms_10 C hK rfl (by omega) dX4_moves_44 ?_
    refine gx_iincN (lv2 := [some _, some _, some _, some _]) C dX4_moves_45 rfl (by decide) rfl ?_
    refine gx_goto (tgt := 11) C dX4_moves_48 (by decide) ?_
    rw [mSh_step (show j < 99 by omega)]
    exact ih (j + 1) (by omega)
set_option maxHeartbeats 4000000 in
set_option maxRecDepth 100000 in
theorem c_X4_moves_full {l : Launch} {D : va_G} {cI cG cL : ClassId} {ad : Nat → Nat} {n t : Nat} {B : Int32} {v : Nat → Nat → Int32} {x : Int32} {b T : Nat} (hT6 : T ≤ 60) (e0 : v 0 0 = nI T) (hb : b < 60) (ek : v 0 2 = 100) : gx_M l yX4_moves wsX4_moves ({ frames := 2, cells := 0, slots := 0, locals := 45 }) D vwCl (gT cI cG cL) [.ref (ad 0), .int (nI b), .int x] (mW cI ad n t B v) (mW cI ad n t B (mGoes (mPush (mu (mSh v 100) 0 2 (v 0 2 - 1)) 99 b) T b x)) none := by
  refine gx_ofG (cc := cX4_moves) (maxL := 4) (ret := none) [some (.ref (ad 0)), some (.int (nI b)), some (.int x), none] (by decide) rfl rfl (Nat.le_of_ble_eq_true rfl) rfl ?_
  intro p e s m args below meth c C hRt hlocks hK
  have C : CallFix p m c cX4_moves 4 s args (wsX4_moves) RX4 := C
  have hT : ∀ w ∈ bigW, w ∈ wsX4_moves := bgT
  refine gx_aload_n C dX4_moves_0 rfl ?_
  refine mg_X4_kept C hK hT m480 dX4_moves_1 ?_
  refine gx_bipush (v := 100) C dX4_moves_4 (by decide) ?_
  refine gx_icmp_ne (tgt := 61) C dX4_moves_6 (by decide) (fun c => absurd (by rw [ek]) c) (fun c_6 => ?_)
  refine gx_iconst (v := 1) C dX4_moves_9 (by decide) ?_
  refine gx_istore_n (lv2 := [some _, some _, some _, some _]) C dX4_moves_10 (by decide) rfl ?_
  rw [show mW cI ad n t B v = mW cI ad n t B (mSh v 1) by rw [mSh_1]]
  exact lp_X4_moves_full C hT hRt hlocks hK hT6 e0 hb ek 99 0 (by omega)

theorem yIn_ex {y : Int32} {K : Nat} (hK : K ≤ 10000) (h : yIn y 0 (nI K) = true) : ∃ k, k ≤ K ∧ y = nI k := by
  obtain ⟨h1, h2⟩ := of_decide_eq_true h
  obtain ⟨j, hj, rfl⟩ := nI_of (Int32.not_lt.mpr h1)
  exact ⟨j, (nI_leI hj (by omega)).mp h2, rfl⟩
theorem yIn_out {y : Int32} {K : Nat} (hK : K ≤ 10000) (h : yIn y 0 (nI K) = false) : y.toInt < 0 ∨ (K : Int) < y.toInt := by
  have h1 := of_decide_eq_false h
  by_cases a : y.toInt < 0
  · exact Or.inl a
  · refine Or.inr ?_
    by_cases b : (K : Int) < y.toInt
    · exact b
    · exfalso
      apply h1
      refine ⟨Int32.le_iff_toInt_le.mpr ?_, Int32.le_iff_toInt_le.mpr ?_⟩
      · rw [show (0 : Int32).toInt = 0 from by decide]; omega
      · rw [nI_toInt (by omega)]; omega
section STEP2
variable {l : Launch} {D : va_G} {cI cG cL : ClassId} {ad am : Nat → Nat} {ao n t : Nat} {B : Int32} {u g v : Nat → Nat → Int32} {T mk k : Nat} {f : Nat → Int64}
/-- where -/
theorem st_where (htr : l.stackTraces = false) (h : rlm n t u g v T mk k) (x y : Int32) : sN l D cI cG cL ad am ao n t B yL_where wsL_where yX4_where wsX4_where [.int x, .int y] f u g v mk := by
  have hr0 := h.r
  have ok := hr0.ok
  have h6 := hr0.T6
  rcases bcase (yHas u x) with hx | hx
  · exact ⟨1, 0, f, u, g, mu v 0 3 1, T, mk, k, _, n_L_where_IB (x_X3_where_nobox htr hx) (rx_ok (by decide) (by decide)), c_X4_where_bad (Or.inl (by rw [hr0.has]; exact hx)), rm_ok (by decide) (by decide), rfl, fun q => absurd q (by decide), h.thr 1, by omega⟩
  · rcases bcase (yIn y 0 8) with hy | hy
    · exact ⟨1, 0, f, u, g, mu v 0 3 1, T, mk, k, _, n_L_where_IB (x_X3_where_out htr hx (yIn_out (K := 8) (by decide) hy)) (rx_ok (by decide) (by decide)), c_X4_where_bad (Or.inr hy), rm_ok (by decide) (by decide), rfl, fun q => absurd q (by decide), h.thr 1, by omega⟩
    · obtain ⟨b, hb, rfl⟩ := yHas_ex h6 hr0.u0 hx
      obtain ⟨j, hj, rfl⟩ := yIn_ex (K := 8) (by decide) hy
      have h2 := h.thr 0
      refine ⟨0, yWhere u g b j, _, u, g, mu v 0 3 0, T, mk, k, _, n_L_where (c_X3_where ok (by omega) hx (by omega)) (rm_ok (by decide) (by decide)), ?_, rm_ok (a := 1) (b := 25) (by decide) (by decide), rfl, fun _ => updL0, h2, by omega⟩
      have := c_X4_where (l := l) (D := D) (cI := cI) (cG := cG) (cL := cL) (ad := am) (n := n) (t := t) (B := B) (v := v) (b := b) (k := j) h6 hr0.v0 (by omega) (hr0.hasB hb) (by omega)
      rw [h2.r.wh hb (by omega)] at this
      exact this
/-- at -/
theorem st_at (htr : l.stackTraces = false) (ht0 : 0 < t) (h : rlm n t u g v T mk k) (x y : Int32) : sN l D cI cG cL ad am ao n t B yL_at wsL_at yX4_at wsX4_at [.int x, .int y] f u g v mk := by
  have hr0 := h.r
  have ok := hr0.ok
  have hn := ok.hn
  have ht := ok.ht
  have h6 := hr0.T6
  rcases bcase (yRow n x) with hx | hx
  · exact ⟨1, 0, f, u, g, mu v 0 3 1, T, mk, k, _, n_L_at_IB (x_X3_at_norow htr hx) (rx_ok (by decide) (by decide)), c_X4_at_bad (Or.inl hx), rm_ok (by decide) (by decide), rfl, fun q => absurd q (by decide), h.thr 1, by omega⟩
  · obtain ⟨r, hr, rfl⟩ := yRow_ex hn hx
    rcases bcase (yIn y 0 (nI t - 1)) with hy | hy
    · exact ⟨1, 0, f, u, g, mu v 0 3 1, T, mk, k, _, n_L_at_IB (x_X3_at_out htr ok hr hy) (rx_ok (by decide) (by decide)), c_X4_at_bad (Or.inr hy), rm_ok (by decide) (by decide), rfl, fun q => absurd q (by decide), h.thr 1, by omega⟩
    · have hy2 := hy
      rw [show nI t - 1 = nI (t - 1) from pk_sub (b := 1) (by omega)] at hy2
      obtain ⟨j, hj, rfl⟩ := yIn_ex (by omega) hy2
      have h2 := h.thr 0
      refine ⟨0, g r j, _, u, g, mu v 0 3 0, T, mk, k, _, n_L_at (c_X3_at ok hr (by omega)) (rm_ok (by decide) (by decide)), ?_, rm_ok (a := 1) (b := 24) (by decide) (by decide), rfl, fun _ => updL0, h2, by omega⟩
      have := c_X4_at (l := l) (D := D) (cI := cI) (cG := cG) (cL := cL) (ad := am) (n := n) (t := t) (B := B) (v := v) (y := nI j) (r := r) h6 hr0.v0 hn hr hy
      rw [h2.r.at2 hr (by omega)] at this
      exact this
/-- box -/
theorem st_box (htr : l.stackTraces = false) (h : rlm n t u g v T mk k) (x1 x2 x3 x4 x5 : Int32) : sN l D cI cG cL ad am ao n t B yL_box wsL_box yX4_box wsX4_box [.int x1, .int x2, .int x3, .int x4, .int x5] f u g v mk := by
  have hr0 := h.r
  have h6 := hr0.T6
  by_cases hx : yIn x1 1 3 = true ∧ yIn x2 1 40 = true ∧ yIn x3 0 1000 = true ∧ yIn x4 1 9 = true ∧ yIn x5 0 2 = true
  · obtain ⟨a1, a2, a3, a4, a5⟩ := hx
    by_cases hT : T = 60
    · have e1 : u 0 0 = 60 := by rw [hr0.u0, hT]; rfl
      have e2 : v 0 0 = 60 := by rw [hr0.v0, hT]; rfl
      exact ⟨2, 0, f, u, g, mu v 0 3 2, T, mk, k, _, n_L_box_IS (x_X3_box_full htr a1 a2 a3 a4 a5 e1) (rx_ok (by decide) (by decide)), c_X4_box_full a1 a2 a3 a4 a5 e2, rm_ok (by decide) (by decide), rfl, fun q => absurd q (by decide), h.thr 2, by omega⟩
    · exact ⟨0, nI T, _, _, g, _, T + 1, mk, k, _, n_L_box (c_X3_box a1 a2 a3 a4 a5 (by omega) hr0.u0) (rm_ok (by decide) (by decide)), c_X4_box a1 a2 a3 a4 a5 (by omega) hr0.v0, rm_ok (by decide) (by decide), rfl, fun _ => updL0, h.tell (by omega), by omega⟩
  · exact ⟨1, 0, f, u, g, mu v 0 3 1, T, mk, k, _, n_L_box_IA (x_X3_box_bad htr hx) (rx_ok (by decide) (by decide)), c_X4_box_bad hx, rm_ok (by decide) (by decide), rfl, fun q => absurd q (by decide), h.thr 1, by omega⟩
/-- ground -/
theorem st_ground (h : rlm n t u g v T mk k) (y x : Int32) : sD l D cI cG cL ad am n t B yX3_ground wsX3_ground yX4_ground wsX4_ground [.int y, .int x] u g v mk := by
  have hr0 := h.r
  have ok := hr0.ok
  have hn := ok.hn
  have h6 := hr0.T6
  have h2 := h.thr 0
  by_cases hc : ∃ r, r < n ∧ y = nI r ∧ yIn x 0 2 = true ∧ yH u r = 0
  · obtain ⟨r, hr, rfl, hx, h0⟩ := hc
    exact ⟨1, _, g, _, T, mk, k, _, _, c_X3_ground hn hr hx (by rw [ok.h6 hr, h0]; rfl), rm_ok (by decide) (by decide), c_X4_ground h6 hr0.v0 hn hr hx (by rw [h2.r.ht hr]; exact h0), rm_ok (by decide) (by decide), h2.gnd, by omega⟩
  · refine ⟨0, u, g, mu v 0 3 0, T, mk, k, _, _, c_X3_ground_no ok (fun r hr ey hx => ?_), rm_ok (by decide) (by decide), c_X4_ground_no h6 hr0.v0 (fun hy hx => ?_), rm_ok (by decide) (by decide), h2, by omega⟩
    · have hh := ok.hh hr
      have ht := ok.ht
      rw [ok.h6 hr, y_le0 (by omega)]
      exact fun q => hc ⟨r, hr, ey, hx, q⟩
    · obtain ⟨r, hr, ey⟩ := yRow_ex hn hy
      have hh := ok.hh hr
      have ht := ok.ht
      rw [ey, h2.r.ht hr, y_le0 (by omega)]
      exact fun q => hc ⟨r, hr, ey, hx, q⟩
/-- reserve -/
theorem st_reserve (h : rlm n t u g v T mk k) (y x : Int32) : sD l D cI cG cL ad am n t B yX3_reserve wsX3_reserve yX4_reserve wsX4_reserve [.int y, .int x] u g v mk := by
  have hr0 := h.r
  have ok := hr0.ok
  have hn := ok.hn
  have h6 := hr0.T6
  have h2 := h.thr 0
  rcases bcase (yRow n y) with hy | hy
  · exact ⟨0, u, g, mu v 0 3 0, T, mk, k, _, _, c_X3_reserve_no ok (fun r hr ey _ => by rw [ey, yRow_of hn hr] at hy; cases hy), rm_ok (by decide) (by decide), c_X4_reserve_bad (Or.inl hy), rm_ok (by decide) (by decide), h2, by omega⟩
  · obtain ⟨r, hr, rfl⟩ := yRow_ex hn hy
    rcases bcase (yIn x 0 9) with hx | hx
    · exact ⟨0, u, g, mu v 0 3 0, T, mk, k, _, _, c_X3_reserve_no ok (fun _ _ _ q => by rw [hx] at q; cases q), rm_ok (by decide) (by decide), c_X4_reserve_bad (Or.inr hx), rm_ok (by decide) (by decide), h2, by omega⟩
    · have hx0 : 0 ≤ x := (of_decide_eq_true hx).1
      have ex : x ≤ 0 ↔ x = 0 := y_pos12 hx0
      by_cases hc : x = 0 ∨ yOther u g r x = false
      · exact ⟨1, _, g, _, T, mk, k, _, _, c_X3_reserve ok hr hx hc, rm_ok (by decide) (by decide), c_X4_reserve h6 hr0.v0 hn hr hx (hc.elim (fun q => Or.inl (ex.mpr q)) (fun q => Or.inr (by rw [hr0.oth hr]; exact q))), rm_ok (by decide) (by decide), h2.res hx0, by omega⟩
      · have c1 : ¬ x = 0 := fun q => hc (Or.inl q)
        have c2 : yOther u g r x = true := by
          cases e : yOther u g r x
          · exact absurd (Or.inr e) hc
          · rfl
        refine ⟨0, u, g, mu v 0 3 0, T, mk, k, _, _, c_X3_reserve_no ok (fun r2 hr2 e2 _ => ?_), rm_ok (by decide) (by decide), c_X4_reserve_no h6 hr0.v0 hn hr hx (fun q => c1 (ex.mp q)) (by rw [hr0.oth hr]; exact c2), rm_ok (by decide) (by decide), h2, by omega⟩
        have : r = r2 := (nI_eq (by omega) (by omega)).mp e2
        rw [← this]
        exact ⟨c1, c2⟩
/-- undo -/
theorem st_undo (h : rlm n t u g v T mk k) (hm : mk < 2 ^ 29) : sD l D cI cG cL ad am n t B yX3_undo wsX3_undo yX4_undo wsX4_undo [] u g v mk := by
  have hr0 := h.r
  have ok := hr0.ok
  have hn := ok.hn
  have h6 := hr0.T6
  have hk := h.2.1
  have hkm := h.2.2.1
  have e1 := h.2.2.2.1
  have e2 := h.2.2.2.2.2.1
  have e3 := h.2.2.2.2.2.2.1
  match k, mk, h, hm, hk, hkm, e1, e2, e3 with
  | 0, mk, h, hm, hk, hkm, e1, e2, e3 => exact ⟨-1, u, g, mu v 0 3 0, T, mk, 0, _, _, c_X3_undo_no e2, rm_ok (by decide) (by decide), c_X4_undo_no e3, rm_ok (by decide) (by decide), h.thr 0, by omega⟩
  | k + 1, 0, h, hm, hk, hkm, e1, e2, e3 => exact absurd hkm (by omega)
  | k + 1, mk + 1, h, hm, hk, hkm, e1, e2, e3 =>
    obtain ⟨b, hb, q9, w9, q10, hc⟩ := h.undo
    have hne : ¬ u 0 2 = 0 := by rw [e2]; exact nI_ne0 (by omega) (by omega)
    rcases hc with ⟨r, a1, a2, a3, a4, a5⟩ | ⟨r, a1, a2, a3, a4, a5⟩ | ⟨r, r2, a1, a2, a3, a4, a5, a6, a7, a8⟩
    · exact ⟨nI b, _, _, mUn v T b (-1), T, mk, k, _, _, c_X3_undo_lift ok hne (by omega) e1 (by omega) q9 (q10.trans a1) a2 a3 a4, rm_ok (by decide) (by decide), c_X4_undo h6 hr0.v0 (by omega) (by omega) e3 w9 a1, rm_ok (by decide) (by decide), a5, by omega⟩
    · exact ⟨nI b, _, _, mUn v T b (nI r), T, mk, k, _, _, c_X3_undo_lay ok hne (by omega) e1 (by omega) q9 (q10.trans a1) a2 a3 a4, rm_ok (by decide) (by decide), c_X4_undo h6 hr0.v0 (by omega) (by omega) e3 w9 a1, rm_ok (by decide) (by decide), a5, by omega⟩
    · exact ⟨nI b, _, _, mUn v T b (nI r2), T, mk, k, _, _, c_X3_undo_both ok hne (by omega) e1 (by omega) q9 (q10.trans a1) a2 a3 a5 a6 a4 a7, rm_ok (by decide) (by decide), c_X4_undo h6 hr0.v0 (by omega) (by omega) e3 w9 a1, rm_ok (by decide) (by decide), a8, by omega⟩
/-- count -/
theorem st_count (h : rlm n t u g v T mk k) (x : Int32) : sD l D cI cG cL ad am n t B yX3_count wsX3_count yX4_count wsX4_count [.int x] u g v mk := by
  have hr0 := h.r
  have ok := hr0.ok
  have hn := ok.hn
  have h6 := hr0.T6
  have h2 := h.thr 0
  have e20 : (20 : Int32).toInt = 20 := by decide
  rcases bcase (yIn x 0 7) with hx | hx
  · have ho := yIn_out (K := 7) (by decide) hx
    by_cases c1 : x < 20
    · refine ⟨-1, u, g, mu v 0 3 0, T, mk, k, _, _, ?_, rm_ok (a := 2) (b := 45) (by decide) (by decide), c_X4_count_mid h6 hr0.v0 ho c1, rm_ok (by decide) (by decide), h2, by omega⟩
      have := c_X3_count_out (l := l) (D := D) (cI := cI) (cG := cG) (cL := cL) (ad := ad) (n := n) (t := t) (B := B) (u := u) (g := g) (x := x) ok ho
      rw [show yCR n u g x = -1 by rw [yCR, if_pos (Or.inl c1)]] at this
      exact this
    · by_cases c2 : x < 100
      · obtain ⟨j, j1, j2, rfl⟩ := y_20 c1 c2
        refine ⟨yCR n u g (nI j), u, g, mu v 0 3 0, T, mk, k, _, _, c_X3_count_out ok ho, rm_ok (by decide) (by decide), ?_, rm_ok (a := 1) (b := 25) (by decide) (by decide), h2, by omega⟩
        have := c_X4_count_row (l := l) (D := D) (cI := cI) (cG := cG) (cL := cL) (ad := am) (n := n) (t := t) (B := B) (v := v) (k := j) h6 hr0.v0 hn j1 j2
        rw [h2.r.cr j1 j2] at this
        exact this
      · refine ⟨-1, u, g, mu v 0 3 0, T, mk, k, _, _, ?_, rm_ok (a := 2) (b := 45) (by decide) (by decide), c_X4_count_big h6 hr0.v0 c1 (Int32.not_lt.mp c2), rm_ok (by decide) (by decide), h2, by omega⟩
        have := c_X3_count_out (l := l) (D := D) (cI := cI) (cG := cG) (cL := cL) (ad := ad) (n := n) (t := t) (B := B) (u := u) (g := g) (x := x) ok ho
        rw [show yCR n u g x = -1 by rw [yCR, if_pos (Or.inr (Int32.not_lt.mp c2))]] at this
        exact this
  · obtain ⟨j, hj, rfl⟩ := yIn_ex (K := 7) (by decide) hx
    refine ⟨yCountK n t B u g T j, u, g, mu v 0 3 0, T, mk, k, _, _, c_X3_count ok h6 hr0.u0 (by omega), rm_ok (by decide) (by decide), ?_, rm_ok (a := 1) (b := 25) (by decide) (by decide), h2, by omega⟩
    have := c_X4_count_in (l := l) (D := D) (cI := cI) (cG := cG) (cL := cL) (ad := am) (n := n) (t := t) (B := B) (v := v) (k := j) h6 hr0.v0 (by omega)
    rw [h2.r.cntK (B := B) (by rw [h2.2.2.2.2.1, h2.2.2.2.1]) (by rw [h2.2.2.2.2.2.2.1, h2.2.2.2.2.2.1]) (by omega)] at this
    exact this
end STEP2

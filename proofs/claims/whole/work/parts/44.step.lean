theorem rm_ok {a b : Nat} (h1 : a ≤ 7) (h2 : b ≤ 121) : h_rm { frames := a, cells := 0, slots := 0, locals := b } := ⟨rfl, rfl, h1, h2⟩
theorem rx_ok {a b : Nat} (h1 : a ≤ 7) (h2 : b ≤ 121) : h_rx { frames := a, cells := 1, slots := 6, locals := b } := ⟨rfl, rfl, h1, h2⟩
/-- a call of the law's that may throw: the helper over the class, the model's method; the answers agree and so do the memories behind them -/
def sN (l : Launch) (D : va_G) (cI cG cL : ClassId) (ad am : Nat → Nat) (ao n t : Nat) (B : Int32) (yL : MethodName) (wsL : List Cond) (yM : MethodName) (wsM : List Cond) (xs : List Value) (f : Nat → Int64) (u g v : Nat → Nat → Int32) (mk : Nat) : Prop :=
  ∃ (kk b : Int32) (f2 : Nat → Int64) (u2 g2 v2 : Nat → Nat → Int32) (T2 mk2 k2 : Nat) (rm : Room), gx_N l yL wsL rL D vwCl (gT cI cG cL) (.ref (ad 0) :: (xs ++ [.ref ao])) (hW cI cG cL ad ao n t B f u g) (hW cI cG cL ad ao n t B f2 u2 g2) (some (.int kk)) ∧ gx_M l yM wsM rm D vwCl (gT cI cG cL) (.ref (am 0) :: xs) (mW cI am n t B v) (mW cI am n t B v2) (some (.int b)) ∧ h_rm rm ∧ v2 0 3 = kk ∧ (kk = 0 → f2 0 = b.toInt64) ∧ rlm n t u2 g2 v2 T2 mk2 k2 ∧ mk2 ≤ mk + 50
/-- a call that doesn't throw -/
def sD (l : Launch) (D : va_G) (cI cG cL : ClassId) (ad am : Nat → Nat) (n t : Nat) (B : Int32) (yY : MethodName) (wsY : List Cond) (yM : MethodName) (wsM : List Cond) (xs : List Value) (u g v : Nat → Nat → Int32) (mk : Nat) : Prop :=
  ∃ (b : Int32) (u2 g2 v2 : Nat → Nat → Int32) (T2 mk2 k2 : Nat) (rm rm2 : Room), gx_M l yY wsY rm D vwCl (gT cI cG cL) (.ref (ad 0) :: xs) (yW cI cG ad n t B u g) (yW cI cG ad n t B u2 g2) (some (.int b)) ∧ h_rm rm ∧ gx_M l yM wsM rm2 D vwCl (gT cI cG cL) (.ref (am 0) :: xs) (mW cI am n t B v) (mW cI am n t B v2) (some (.int b)) ∧ h_rm rm2 ∧ rlm n t u2 g2 v2 T2 mk2 k2 ∧ mk2 ≤ mk + 50
theorem bcase (q : Bool) : q = false ∨ q = true := by cases q <;> simp
theorem updL0 {f : Nat → Int64} {x : Int64} : vp_updL f 0 x 0 = x := by simp [vp_updL]
section STEP
variable {l : Launch} {D : va_G} {cI cG cL : ClassId} {ad am : Nat → Nat} {ao n t : Nat} {B : Int32} {u g v : Nat → Nat → Int32} {T mk k : Nat} {f : Nat → Int64}
theorem rl.has (h : rl n t u g v T) (x : Int32) : yHas v x = yHas u x := by rw [yHas, yHas, h.v0, h.u0]
theorem rl.hasB (h : rl n t u g v T) {b : Nat} (hb : b < T) : yHas v (nI b) = true := yHas_of h.T6 h.v0 hb
theorem mMv_3 {b : Nat} {x : Int32} : mMv v T k b x 0 3 = v 0 3 := by
  unfold mMv
  split <;> rfl
theorem yGr_pos {a b : Int32} (h : ¬ yGr a b = 0) : ¬ yGr a b ≤ 0 := by
  unfold yGr at h ⊢
  split
  · decide
  · rename_i h1
    rw [if_neg h1] at h
    split
    · decide
    · rename_i h2
      rw [if_neg h2] at h
      exact absurd rfl h
theorem yRule_pos {b r : Nat} (h : ¬ yRule t B u g b r = 0) : ¬ yRule t B u g b r ≤ 0 := by
  unfold yRule at h ⊢
  split
  · decide
  split
  · decide
  split
  · decide
  split
  · decide
  split
  · decide
  rename_i h1 h2 h3 h4 h5
  rw [if_neg h1, if_neg h2, if_neg h3, if_neg h4, if_neg h5] at h
  exact yGr_pos h
theorem yPutR_pos {b r : Nat} (h : ¬ yPutR t B u g b r = 0) : ¬ yPutR t B u g b r ≤ 0 := by
  unfold yPutR at h ⊢
  split
  · rename_i h1
    rw [if_pos h1] at h
    exact yRule_pos h
  · decide
theorem yShR_pos {b r : Nat} (h : ¬ yShR t B u g b r = 0) : ¬ yShR t B u g b r ≤ 0 := by
  unfold yShR at h ⊢
  split
  · decide
  · rename_i h1
    rw [if_neg h1] at h
    exact yRule_pos h
theorem rl.m7 (h : rl n t u g v T) {b : Nat} (hb : b < T) : v 7 b < 0 ↔ u 7 b = -1 := by
  rw [h.v7 hb]
  constructor
  · intro q
    by_cases e : u 7 b = -1
    · exact e
    · have h6 := h.T6
      have hn := h.ok.hn
      obtain ⟨r, k, hr, hk, e7, e8⟩ := h.ok.h7 (show b < 60 by omega) e
      rw [e7] at q
      exact absurd q (m_n0 (by omega))
  · intro q
    rw [q]
    exact y_neg1
theorem rl.whyP (h : rl n t u g v T) {b r : Nat} (hb : b < T) (hr : r < n) : mWhyP t B v T b r = yPutR t B u g b r := by
  unfold mWhyP yPutR
  rw [h.br hr]
  simp only [h.m7 hb]
theorem rl.whyS (h : rl n t u g v T) {b r : Nat} (hb : b < T) (hr : r < n) : mWhyS t B v T b r = yShR t B u g b r := by
  unfold mWhyS yShR
  rw [h.br hr, h.v7 hb]
theorem yPutR_0 {b r : Nat} (h : yPutR t B u g b r = 0) : u 7 b = -1 ∧ yRule t B u g b r = 0 := by
  unfold yPutR at h
  split at h
  · rename_i h1
    exact ⟨h1, h⟩
  · exact absurd h (by decide)
theorem yShR_0 {b r : Nat} (h : yShR t B u g b r = 0) : ¬ u 7 b = nI r ∧ yRule t B u g b r = 0 := by
  unfold yShR at h
  split at h
  · exact absurd h (by decide)
  · rename_i h1
    exact ⟨h1, h⟩
theorem le00 : (0 : Int32) ≤ 0 := by decide
/-- put -/
theorem st_put (htr : l.stackTraces = false) (h : rlm n t u g v T mk k) (hm : mk < 2 ^ 29) (x y : Int32) : sN l D cI cG cL ad am ao n t B yL_put wsL_put yX4_put wsX4_put [.int x, .int y] f u g v mk := by
  have hr0 := h.r
  have ok := hr0.ok
  have hn := ok.hn
  have h6 := hr0.T6
  rcases bcase (yHas u x) with hx | hx
  · exact ⟨1, 0, f, u, g, mu v 0 3 1, T, mk, k, _, n_L_put_IB (x_X3_put_nobox htr hx) (rx_ok (by decide) (by decide)), c_X4_put_bad (Or.inl (by rw [hr0.has]; exact hx)), rm_ok (by decide) (by decide), rfl, fun q => absurd q (by decide), h.thr 1, by omega⟩
  · rcases bcase (yRow n y) with hy | hy
    · exact ⟨1, 0, f, u, g, mu v 0 3 1, T, mk, k, _, n_L_put_IB (x_X3_put_norow htr hx hy) (rx_ok (by decide) (by decide)), c_X4_put_bad (Or.inr hy), rm_ok (by decide) (by decide), rfl, fun q => absurd q (by decide), h.thr 1, by omega⟩
    · obtain ⟨b, hb, rfl⟩ := yHas_ex h6 hr0.u0 hx
      obtain ⟨r, hr, rfl⟩ := yRow_ex hn hy
      have h2 := h.thr 0
      have hB := hr0.hasB hb
      by_cases hz : yPutR t B u g b r = 0
      · obtain ⟨a1, a2⟩ := yPutR_0 hz
        obtain ⟨a3, a4⟩ := hr0.rule0 hr a2
        refine ⟨0, 1, _, _, _, _, T, mk + 1, kMin k, _, n_L_put (c_X3_put ok (by omega) hx hr a1 hz a3 (by omega) h.2.2.2.1) (rm_ok (by decide) (by decide)), c_X4_put h6 hr0.v0 (by omega) hB hn hr ((hr0.m7 hb).mpr a1) (by rw [h2.r.br hr, a2]; exact le00) h.2.1 h.2.2.2.2.2.2.1, rm_ok (by decide) (by decide), mMv_3, fun _ => updL0, h2.put (by omega) hb hr a1 a3 a4, by omega⟩
      · refine ⟨0, -yPutR t B u g b r, _, u, g, mu v 0 3 0, T, mk, k, _, n_L_put (c_X3_put_no ok (by omega) hx hr hz) (rm_ok (by decide) (by decide)), ?_, rm_ok (a := 2) (b := 47) (by decide) (by decide), rfl, fun _ => updL0, h2, by omega⟩
        have e := h2.r.whyP (B := B) hb hr
        have := c_X4_put_no (l := l) (D := D) (cI := cI) (cG := cG) (cL := cL) (ad := am) (n := n) (t := t) (B := B) (v := v) (b := b) (r := r) h6 hr0.v0 (by omega) hB hn hr (by rw [e]; exact yPutR_pos hz)
        rw [e] at this
        exact this
/-- take -/
theorem st_take (htr : l.stackTraces = false) (h : rlm n t u g v T mk k) (hm : mk < 2 ^ 29) (x : Int32) : sN l D cI cG cL ad am ao n t B yL_take wsL_take yX4_take wsX4_take [.int x] f u g v mk := by
  have hr0 := h.r
  have ok := hr0.ok
  have hn := ok.hn
  have h6 := hr0.T6
  rcases bcase (yHas u x) with hx | hx
  · exact ⟨1, 0, f, u, g, mu v 0 3 1, T, mk, k, _, n_L_take_IB (x_X3_take_nobox htr hx) (rx_ok (by decide) (by decide)), c_X4_take_bad (by rw [hr0.has]; exact hx), rm_ok (by decide) (by decide), rfl, fun q => absurd q (by decide), h.thr 1, by omega⟩
  · obtain ⟨b, hb, rfl⟩ := yHas_ex h6 hr0.u0 hx
    have h2 := h.thr 0
    have hB := hr0.hasB hb
    rcases bcase (yOn u b) with ho | ho
    · exact ⟨0, 0, _, u, g, mu v 0 3 0, T, mk, k, _, n_L_take (c_X3_take_no ok (by omega) hx ho) (rm_ok (by decide) (by decide)), c_X4_take_no h6 hr0.v0 (by omega) hB (by rw [h2.r.on hb]; exact ho), rm_ok (by decide) (by decide), rfl, fun _ => updL0, h2, by omega⟩
    · obtain ⟨r, hr, e7, h0, hg, -⟩ := yOn_top ok (by omega) ho
      exact ⟨0, 1, _, _, _, _, T, mk + 1, kMin k, _, n_L_take (c_X3_take ok (by omega) hx ho hr e7 h0 (by omega) h.2.2.2.1) (rm_ok (by decide) (by decide)), c_X4_take h6 hr0.v0 (by omega) hB (by rw [h2.r.on hb]; exact ho) h.2.1 h.2.2.2.2.2.2.1, rm_ok (by decide) (by decide), mMv_3, fun _ => updL0, h2.take (by omega) hb hr e7 h0 hg, by omega⟩
/-- shift -/
theorem st_shift (htr : l.stackTraces = false) (h : rlm n t u g v T mk k) (hm : mk < 2 ^ 29) (x y : Int32) : sN l D cI cG cL ad am ao n t B yL_shift wsL_shift yX4_shift wsX4_shift [.int x, .int y] f u g v mk := by
  have hr0 := h.r
  have ok := hr0.ok
  have hn := ok.hn
  have h6 := hr0.T6
  rcases bcase (yHas u x) with hx | hx
  · exact ⟨1, 0, f, u, g, mu v 0 3 1, T, mk, k, _, n_L_shift_IB (x_X3_shift_nobox htr hx) (rx_ok (by decide) (by decide)), c_X4_shift_bad (Or.inl (by rw [hr0.has]; exact hx)), rm_ok (by decide) (by decide), rfl, fun q => absurd q (by decide), h.thr 1, by omega⟩
  · rcases bcase (yRow n y) with hy | hy
    · exact ⟨1, 0, f, u, g, mu v 0 3 1, T, mk, k, _, n_L_shift_IB (x_X3_shift_norow htr hx hy) (rx_ok (by decide) (by decide)), c_X4_shift_bad (Or.inr hy), rm_ok (by decide) (by decide), rfl, fun q => absurd q (by decide), h.thr 1, by omega⟩
    · obtain ⟨b, hb, rfl⟩ := yHas_ex h6 hr0.u0 hx
      obtain ⟨r2, hr2, rfl⟩ := yRow_ex hn hy
      have h2 := h.thr 0
      have hB := hr0.hasB hb
      rcases bcase (yOn u b) with ho | ho
      · exact ⟨0, 0, _, u, g, mu v 0 3 0, T, mk, k, _, n_L_shift (c_X3_shift_off ok (by omega) hx ho hr2) (rm_ok (by decide) (by decide)), c_X4_shift_off h6 hr0.v0 (by omega) hB hn hr2 (by rw [h2.r.on hb]; exact ho), rm_ok (by decide) (by decide), rfl, fun _ => updL0, h2, by omega⟩
      · obtain ⟨r, hr, e7, h0, hg, -⟩ := yOn_top ok (by omega) ho
        by_cases hz : yShR t B u g b r2 = 0
        · obtain ⟨a1, a2⟩ := yShR_0 hz
          obtain ⟨a3, a4⟩ := hr0.rule0 hr2 a2
          have hne : r2 ≠ r := fun q => a1 (by rw [q]; exact e7)
          exact ⟨0, 1, _, _, _, _, T, mk + 1, kMin k, _, n_L_shift (c_X3_shift ok (by omega) hx ho hr hr2 e7 h0 hne a3 hz (by omega) h.2.2.2.1) (rm_ok (by decide) (by decide)), c_X4_shift h6 hr0.v0 (by omega) hB hn hr2 (by rw [h2.r.on hb]; exact ho) (by rw [hr0.v7 hb]; exact a1) (by rw [h2.r.br hr2, a2]; exact le00) h.2.1 h.2.2.2.2.2.2.1, rm_ok (by decide) (by decide), mMv_3, fun _ => updL0, h2.shift (by omega) hb hr hr2 hne e7 h0 hg a3 a4, by omega⟩
        · refine ⟨0, -yShR t B u g b r2, _, u, g, mu v 0 3 0, T, mk, k, _, n_L_shift (c_X3_shift_no ok (by omega) hx ho hr2 hz) (rm_ok (by decide) (by decide)), ?_, rm_ok (a := 2) (b := 47) (by decide) (by decide), rfl, fun _ => updL0, h2, by omega⟩
          have e := h2.r.whyS (B := B) hb hr2
          have := c_X4_shift_no (l := l) (D := D) (cI := cI) (cG := cG) (cL := cL) (ad := am) (n := n) (t := t) (B := B) (v := v) (b := b) (r := r2) h6 hr0.v0 (by omega) hB hn hr2 (by rw [h2.r.on hb]; exact ho) (by rw [e]; exact yShR_pos hz)
          rw [e] at this
          exact this
/-- choose -/
theorem st_choose (htr : l.stackTraces = false) (h : rlm n t u g v T mk k) (hm : mk < 2 ^ 29) (x : Int32) : sN l D cI cG cL ad am ao n t B yL_choose wsL_choose yX4_choose wsX4_choose [.int x] f u g v mk := by
  have hr0 := h.r
  have ok := hr0.ok
  have hn := ok.hn
  have h6 := hr0.T6
  rcases bcase (yHas u x) with hx | hx
  · exact ⟨1, 0, f, u, g, mu v 0 3 1, T, mk, k, _, n_L_choose_IB (x_X3_choose_nobox htr hx) (rx_ok (by decide) (by decide)), c_X4_choose_bad (by rw [hr0.has]; exact hx), rm_ok (by decide) (by decide), rfl, fun q => absurd q (by decide), h.thr 1, by omega⟩
  · obtain ⟨b, hb, rfl⟩ := yHas_ex h6 hr0.u0 hx
    have h2 := h.thr 0
    have hB := hr0.hasB hb
    by_cases hs : u 7 b = -1
    · refine ⟨0, (yBest t B u g b false n).1, _, u, g, mu v 0 3 0, T, mk, k, _, n_L_choose (c_X3_choose ok (by omega) hx) (rm_ok (by decide) (by decide)), ?_, rm_ok (a := 2) (b := 51) (by decide) (by decide), rfl, fun _ => by rw [updL0, if_pos hs], h2, by omega⟩
      have := c_X4_choose (l := l) (D := D) (cI := cI) (cG := cG) (cL := cL) (ad := am) (n := n) (t := t) (B := B) (v := v) (b := b) h6 hr0.v0 (by omega) hB hn ((hr0.m7 hb).mpr hs) h2.r.hsc
      rw [h2.r.choose hs] at this
      exact this
    · exact ⟨0, -1, _, u, g, mu v 0 3 0, T, mk, k, _, n_L_choose (c_X3_choose ok (by omega) hx) (rm_ok (by decide) (by decide)), c_X4_choose_st h6 hr0.v0 (by omega) hB hn (fun q => hs ((hr0.m7 hb).mp q)), rm_ok (by decide) (by decide), rfl, fun _ => by rw [updL0, if_neg hs], h2, by omega⟩
/-- score -/
theorem st_score (htr : l.stackTraces = false) (h : rlm n t u g v T mk k) (hm : mk < 2 ^ 29) (x y : Int32) : sN l D cI cG cL ad am ao n t B yL_score wsL_score yX4_score wsX4_score [.int x, .int y] f u g v mk := by
  have hr0 := h.r
  have ok := hr0.ok
  have hn := ok.hn
  have h6 := hr0.T6
  rcases bcase (yHas u x) with hx | hx
  · exact ⟨1, 0, f, u, g, mu v 0 3 1, T, mk, k, _, n_L_score_IB (x_X3_score_nobox htr hx) (rx_ok (by decide) (by decide)), c_X4_score_bad (Or.inl (by rw [hr0.has]; exact hx)), rm_ok (by decide) (by decide), rfl, fun q => absurd q (by decide), h.thr 1, by omega⟩
  · rcases bcase (yRow n y) with hy | hy
    · exact ⟨1, 0, f, u, g, mu v 0 3 1, T, mk, k, _, n_L_score_IB (x_X3_score_norow htr hx hy) (rx_ok (by decide) (by decide)), c_X4_score_bad (Or.inr hy), rm_ok (by decide) (by decide), rfl, fun q => absurd q (by decide), h.thr 1, by omega⟩
    · obtain ⟨b, hb, rfl⟩ := yHas_ex h6 hr0.u0 hx
      obtain ⟨r, hr, rfl⟩ := yRow_ex hn hy
      have h2 := h.thr 0
      have hB := hr0.hasB hb
      by_cases hz : yPutR t B u g b r = 0
      · obtain ⟨a1, a2⟩ := yPutR_0 hz
        refine ⟨0, yScore u g b r, _, u, g, mu v 0 3 0, T, mk, k, _, n_L_score (c_X3_score ok (by omega) hx hr hz) (rm_ok (by decide) (by decide)), ?_, rm_ok (a := 2) (b := 51) (by decide) (by decide), rfl, fun _ => updL0, h2, by omega⟩
        have := c_X4_score (l := l) (D := D) (cI := cI) (cG := cG) (cL := cL) (ad := am) (n := n) (t := t) (B := B) (v := v) (b := b) (r := r) h6 hr0.v0 (by omega) hB hn hr ((hr0.m7 hb).mpr a1) (by rw [hr0.br hr, a2]; exact le00) (h2.r.hsc r hr)
        rw [h2.r.sc hr] at this
        exact this
      · refine ⟨2, 0, f, u, g, mu v 0 3 2, T, mk, k, _, n_L_score_IS (x_X3_score_no htr ok (by omega) hx hr hz) (rx_ok (by decide) (by decide)), c_X4_score_no h6 hr0.v0 (by omega) hB hn hr ?_, rm_ok (by decide) (by decide), rfl, fun q => absurd q (by decide), h.thr 2, by omega⟩
        by_cases hs : u 7 b = -1
        · refine Or.inr ?_
          rw [hr0.br hr]
          rw [yPutR, if_pos hs] at hz
          exact yRule_pos hz
        · exact Or.inl (fun q => hs ((hr0.m7 hb).mp q))
end STEP

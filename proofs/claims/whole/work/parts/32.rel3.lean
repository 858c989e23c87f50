section REL3
variable {n t : Nat} {u g v : Nat → Nat → Int32} {T : Nat} {B : Int32}
theorem rl.thr (h : rl n t u g v T) (x : Int32) : rl n t u g (mu v 0 3 x) T := by
  obtain ⟨h1, h2, h3, h4, h5, h6, h7, h8, h9⟩ := h
  refine ⟨h1, h2, h3, h4, h5, h6, fun i b q1 q2 => ?_, h8, h9⟩
  rw [mu_ne _ _ _ (by omega)]
  exact h7 i b q1 q2
theorem rl.hsc (h : rl n t u g v T) : ∀ r, r < n → mHt v (nI r) T = 0 ∨ ∃ q, q < 60 ∧ mAt v (nI r) (nI (mHt v (nI r) T) - 1) T = nI q := by
  intro r hr
  rw [h.top hr, h.ht hr]
  by_cases hz : yTop u g r = -1
  · exact Or.inl ((h.topN hr).mp hz)
  · obtain ⟨h0, hq, eq⟩ := yTop_some h.ok hr hz
    exact Or.inr ⟨_, hq, eq⟩
theorem y_sub0 {x y : Int32} : x - y = 0 ↔ x = y := by
  constructor
  · intro h
    grind
  · intro h
    grind
theorem rl.on (h : rl n t u g v T) {b : Nat} (hb : b < T) : mTop v T b = yOn u b := by
  have hn := h.ok.hn
  have h6 := h.T6
  unfold mTop yOn yAb
  rw [h.v7 hb, h.v8 hb]
  by_cases hs : u 7 b = -1
  · simp [hs, y_neg1]
  · obtain ⟨r, k, hr, hk, e7, e8⟩ := h.ok.h7 (show b < 60 by omega) hs
    have h9 : ¬ u 7 b < 0 := by rw [e7]; exact m_n0 (by omega)
    rw [if_neg hs, e7, h.ht hr, nI_clamp (by omega), h.ok.h6 hr]
    rw [e7] at h9 hs
    have e : (u 8 b = nI (yH u r) - 1) ↔ (nI (yH u r) - 1 - u 8 b = 0) := ⟨fun q => y_sub0.mpr q.symm, fun q => (y_sub0.mp q).symm⟩
    simp only [h9, hs, e]
theorem rl.ways (h : rl n t u g v T) {b : Nat} (hb : b < T) : (¬ v 7 b < 0 ∧ ¬ nI (mSo v b (v 7 b) (v 8 b) T) ≤ 0) ↔ yWay u g b = true := by
  have hn := h.ok.hn
  have h6 := h.T6
  have ht := h.ok.ht
  rw [yWay, decide_eq_true_eq, h.v7 hb, h.v8 hb]
  by_cases hs : u 7 b = -1
  · simp [hs, y_neg1]
  · obtain ⟨r, k, hr, hk, e7, e8⟩ := h.ok.h7 (show b < 60 by omega) hs
    have hh := h.ok.hh hr
    have hso : ySo u g b r k ≤ k := yCnt_le _
    rw [e7, e8, h.so hr (Nat.le_of_lt hk), nI_clamp (by omega), nI_clamp (by omega), y_le0 (by omega)]
    have h9 : ¬ nI r < 0 := m_n0 (by omega)
    have h10 : ¬ nI r = -1 := y_m1 (by omega)
    simp [h9, h10]
theorem rl.wh (h : rl n t u g v T) {b k : Nat} (hb : b < T) (hk : k < 9) : mWhere v T b k = yWhere u g b k := by
  have hn := h.ok.hn
  have h6 := h.T6
  rcases (show k = 0 ∨ k = 1 ∨ k = 2 ∨ k = 3 ∨ k = 4 ∨ k = 5 ∨ k = 6 ∨ k = 7 ∨ k = 8 by omega) with rfl | rfl | rfl | rfl | rfl | rfl | rfl | rfl | rfl
  · exact h.v7 hb
  · exact h.v8 hb
  · show (if v 7 b < 0 then 0 else nI (mHt v (v 7 b) T) - 1 - v 8 b) = yAb u b
    rw [h.v7 hb, h.v8 hb, yAb]
    by_cases hs : u 7 b = -1
    · rw [if_pos (by rw [hs]; exact y_neg1), if_pos hs]
    · obtain ⟨r, k, hr, hk, e7, e8⟩ := h.ok.h7 (show b < 60 by omega) hs
      rw [if_neg (by rw [e7]; exact m_n0 (by omega)), if_neg hs, e7, h.ht hr, nI_clamp (by omega), h.ok.h6 hr]
  · show (if ¬ v 7 b < 0 ∧ ¬ nI (mSo v b (v 7 b) (v 8 b) T) ≤ 0 then 1 else 0) = bI (yWay u g b)
    by_cases hw : yWay u g b = true
    · rw [if_pos ((h.ways hb).mpr hw), hw]; rfl
    · rw [if_neg (fun q => hw ((h.ways hb).mp q)), Bool.eq_false_iff.mpr hw]; rfl
  · exact h.va (i := 1) (by decide) (by decide)
  · exact h.va (i := 2) (by decide) (by decide)
  · exact h.va (i := 3) (by decide) (by decide)
  · exact h.va (i := 4) (by decide) (by decide)
  · exact h.va (i := 5) (by decide) (by decide)
theorem rl.std (h : rl n t u g v T) : ∀ m, m ≤ n → ySum (fun r => u 6 r) m = nI (yCnt (fun b => decide (¬ v 7 b < 0 ∧ v 7 b < nI m)) T)
  | 0, _ => by
    rw [cnt_none (fun b _ => decide_eq_false (fun q => q.1 q.2))]
    rfl
  | m + 1, hm => by
    have hn := h.ok.hn
    rw [ySum, rl.std h m (by omega), h.ok.h6 (show m < n by omega), ← h.ht (show m < n by omega), nI_add, mHt]
    congr 1
    symm
    refine cnt_split (fun b hb => ?_)
    by_cases hs : u 7 b = -1
    · have : v 7 b = -1 := (h.v7 hb).trans hs
      have h10 : ¬ (-1 : Int32) = nI m := fun q => y_m1 (show m < 2 ^ 31 by omega) q.symm
      simp [this, y_neg1, h10]
    · have h6 := h.T6
      obtain ⟨r, k, hr, hk, e7, e8⟩ := h.ok.h7 (show b < 60 by omega) hs
      have e : v 7 b = nI r := (h.v7 hb).trans e7
      have h9 : ¬ nI r < 0 := m_n0 (by omega)
      simp only [e, h9, not_false_iff, true_and, nI_ltI (show r < 2 ^ 31 by omega) (show m + 1 < 2 ^ 31 by omega), nI_ltI (show r < 2 ^ 31 by omega) (show m < 2 ^ 31 by omega), nI_eq (show r < 2 ^ 31 by omega) (show m < 2 ^ 31 by omega)]
      by_cases q1 : r = m
      · subst q1; simp
      · by_cases q2 : r < m
        · simp [q1, q2, show r < m + 1 by omega]
        · simp [q1, q2, show ¬ r < m + 1 by omega]
theorem rl.stand (h : rl n t u g v T) : nI (mStd v T) = ySum (fun r => u 6 r) n := by
  rw [h.std n (Nat.le_refl _), mStd]
  congr 1
  refine cnt_congr (fun b hb => ?_)
  have hn := h.ok.hn
  have h6 := h.T6
  by_cases hs : u 7 b = -1
  · simp [h.v7 hb, hs, y_neg1]
  · obtain ⟨r, k, hr, hk, e7, e8⟩ := h.ok.h7 (show b < 60 by omega) hs
    have : nI r < nI n := (nI_ltI (by omega) (by omega)).mpr hr
    simp [h.v7 hb, e7, this]
theorem rl.cntK (h : rl n t u g v T) (h1 : v 0 1 = u 0 1) (h2 : v 0 2 = u 0 2) {k : Nat} (hk : k < 8) : mCountK n t B v T k = yCountK n t B u g T k := by
  rcases (show k = 0 ∨ k = 1 ∨ k = 2 ∨ k = 3 ∨ k = 4 ∨ k = 5 ∨ k = 6 ∨ k = 7 by omega) with rfl | rfl | rfl | rfl | rfl | rfl | rfl | rfl
  · rfl
  · rfl
  · rfl
  · exact h.v0.trans h.u0.symm
  · exact h.stand
  · exact h1
  · show nI (mWays v T) = nI (yCnt (fun b => yWay u g b) T)
    rw [mWays]
    congr 1
    refine cnt_congr (fun b hb => ?_)
    by_cases hw : yWay u g b = true
    · rw [hw]; exact decide_eq_true ((h.ways hb).mpr hw)
    · rw [Bool.eq_false_iff.mpr hw]; exact decide_eq_false (fun q => hw ((h.ways hb).mp q))
  · exact h2
theorem rl.cr (h : rl n t u g v T) {k : Nat} (h1 : 20 ≤ k) (h2 : k < 100) : mCRK n v T k = yCR n u g (nI k) := by
  by_cases hr : k % 20 < n
  · rw [yCR_some h1 h2 hr, mCRK, if_pos hr, h.ht hr, h.wt hr, h.v11 hr, h.v12 hr, h.ok.h6 hr]
    by_cases q1 : k < 40
    · rw [if_pos q1, if_pos (by omega)]
    · by_cases q2 : k < 60
      · rw [if_neg q1, if_pos q2, if_neg (by omega), if_pos (by omega)]
      · by_cases q3 : k < 80
        · rw [if_neg q1, if_neg q2, if_pos q3, if_neg (by omega), if_neg (by omega), if_pos (by omega)]
        · rw [if_neg q1, if_neg q2, if_neg q3, if_neg (by omega), if_neg (by omega), if_neg (by omega)]
  · rw [yCR_none h1 h2 hr, mCRK, if_neg hr]
/-- which box a night moves next -/
theorem rl.pick (h : rl n t u g v T) : ∀ r, r ≤ n → mWo n t B v T r = ((yPick n t B u g r).1, (yPick n t B u g r).2.2) ∧ ((yPick n t B u g r).1 = -1 ∨ ∃ r0, r0 < n ∧ 0 < yH u r0 ∧ (yPick n t B u g r).1 = nI (yB g r0 (yH u r0 - 1)) ∧ (yPick n t B u g r).2.1 = (yBest t B u g (yB g r0 (yH u r0 - 1)) true n).1 ∧ ¬ (yPick n t B u g r).2.1 = -1)
  | 0, _ => ⟨rfl, Or.inl rfl⟩
  | r + 1, hm => by
    have hr : r < n := by omega
    have hn := h.ok.hn
    have h6 := h.T6
    obtain ⟨ih1, ih2⟩ := rl.pick h r (by omega)
    rw [mWo, yPick, h.top hr]
    by_cases hz : yTop u g r = -1
    · rw [if_pos ((h.topLt hr).mpr hz), if_pos hz]
      exact ⟨ih1, ih2⟩
    · obtain ⟨h0, hq, eq⟩ := yTop_some h.ok hr hz
      have hqT := h.qT hr (show yH u r - 1 < yH u r by omega)
      rw [if_neg (fun q => hz ((h.topLt hr).mp q)), if_neg hz, eq, nI_clamp (by omega), h.v8 hqT, h.ok.hb8 hr (by omega), h.so hr (show yH u r - 1 ≤ yH u r by omega), h.aside hqT, ih1]
      have hb := yBest_best (t := t) (B := B) (u := u) (g := g) (b := yB g r (yH u r - 1)) (k := true) (show n < 2 ^ 31 by omega)
      have e : (yBest t B u g (yB g r (yH u r - 1)) true n).1 < 0 ↔ (yBest t B u g (yB g r (yH u r - 1)) true n).1 = -1 := by
        rcases hb with ⟨q, -⟩ | ⟨q, -, q2, q3, -⟩
        · rw [q]; exact ⟨fun _ => rfl, fun _ => y_neg1⟩
        · rw [q3]; exact ⟨fun w => absurd w (m_n0 (by omega)), fun w => absurd w (y_m1 (by omega))⟩
      simp only [e]
      by_cases hc : ¬ nI (ySo u g (yB g r (yH u r - 1)) r (yH u r - 1)) ≤ (yPick n t B u g r).2.2 ∧ ¬ (yBest t B u g (yB g r (yH u r - 1)) true n).1 = -1
      · rw [if_pos hc, if_pos hc]
        exact ⟨rfl, Or.inr ⟨r, hr, h0, rfl, rfl, hc.2⟩⟩
      · rw [if_neg hc, if_neg hc]
        exact ⟨rfl, ih2⟩
end REL3

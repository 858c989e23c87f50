section REL2
variable {n t : Nat} {u g v : Nat → Nat → Int32} {T : Nat} {B : Int32}
theorem y_neg1 : (-1 : Int32) < 0 := by decide
theorem rl.topN (h : rl n t u g v T) {r : Nat} (hr : r < n) : yTop u g r = -1 ↔ yH u r = 0 := by
  have hh := h.ok.hh hr
  have ht := h.ok.ht
  have h6 := h.ok.h6 hr
  constructor
  · intro q
    rcases Nat.eq_zero_or_pos (yH u r) with z | z
    · exact z
    · rw [yTop, if_neg (by rw [h6]; exact nI_ne0 (by omega) (by omega)), h.ok.hg hr (by omega)] at q
      have := h.ok.hb hr (show yH u r - 1 < yH u r by omega)
      exact absurd q (y_m1 (by omega))
  · intro q
    rw [yTop, if_pos (by rw [h6, q]; rfl)]
theorem rl.topLt (h : rl n t u g v T) {r : Nat} (hr : r < n) : yTop u g r < 0 ↔ yTop u g r = -1 := by
  constructor
  · intro q
    by_cases e : yTop u g r = -1
    · exact e
    · obtain ⟨h0, hq, eq⟩ := yTop_some h.ok hr e
      rw [eq] at q
      exact absurd q (m_n0 (by omega))
  · intro q
    rw [q]
    exact y_neg1
theorem rl.os (h : rl n t u g v T) {r b : Nat} (hr : r < n) : mOS v b (nI r) T = true ↔ ¬ yTop u g r = -1 ∧ ¬ u 1 (yTop u g r).toNatClampNeg = u 1 b := by
  have hh := h.ok.hh hr
  have ht := h.ok.ht
  rw [mOS, yAny_iff]
  constructor
  · rintro ⟨k, hk, hp⟩
    obtain ⟨h1, h2⟩ := of_decide_eq_true hp
    obtain ⟨j, h3, h4, h5⟩ := h.att hr hk h1
    have hne : ¬ yTop u g r = -1 := by rw [h.topN hr]; omega
    obtain ⟨h0, hq, eq⟩ := yTop_some h.ok hr hne
    refine ⟨hne, ?_⟩
    rw [eq, nI_clamp (by omega), h.un hr (show yH u r - 1 < yH u r by omega) h3, ← h5]
    rw [h.va (i := 1) (by decide) (by decide), h.va (i := 1) (by decide) (by decide)] at h2
    exact h2
  · rintro ⟨hne, h2⟩
    obtain ⟨h0, hq, eq⟩ := yTop_some h.ok hr hne
    rw [eq, nI_clamp (by omega)] at h2
    have hqT := h.qT hr (show yH u r - 1 < yH u r by omega)
    refine ⟨_, hqT, decide_eq_true ⟨(h.v7 hqT).trans (h.ok.hb7 hr (by omega)), ?_⟩⟩
    rw [h.va (i := 1) (by decide) (by decide), h.va (i := 1) (by decide) (by decide)]
    exact h2
theorem y_pos12 {x : Int32} (h : 0 ≤ x) : x ≤ 0 ↔ x = 0 := ⟨fun q => Int32.le_antisymm q h, fun q => by rw [q]; exact Int32.le_refl 0⟩
theorem rl.br (h : rl n t u g v T) {r b : Nat} (hr : r < n) : mBr t B v T b r = yRule t B u g b r := by
  have hh := h.ok.hh hr
  have ht := h.ok.ht
  have h6 := h.ok.h6 hr
  have e2 : (nI (yH u r) = nI t) ↔ ¬ u 6 r < nI t := by
    rw [h6, nI_eq (by omega) (by omega), nI_ltI (by omega) (by omega)]
    omega
  unfold mBr yRule
  rw [h.top hr, h.ht hr, h.wt hr, h.v12 hr, h.v11 hr, h.va (i := 4) (by decide) (by decide), h.va (i := 2) (by decide) (by decide), h.va (i := 2) (by decide) (by decide), h.va (i := 5) (by decide) (by decide)]
  simp only [y_pos12 (h.p12 hr), e2, h.os hr, h.topLt hr]
theorem rl.sc (h : rl n t u g v T) {r b : Nat} (hr : r < n) : mSc v T b r = yScore u g b r := by
  have hh := h.ok.hh hr
  have ht := h.ok.ht
  have e1 : nI (yH u r) = 0 ↔ yTop u g r = -1 := by rw [y_z (by omega), h.topN hr]
  unfold mSc yScore yMin
  rw [h.top hr, h.ht hr, h.v12 hr, h.so hr (Nat.le_refl _), h.va (i := 4) (by decide) (by decide), h.va (i := 4) (by decide) (by decide), h.va (i := 2) (by decide) (by decide), h.va (i := 2) (by decide) (by decide)]
  simp only [y_pos12 (h.p12 hr), e1]
  generalize (if u 12 r = 0 then (0 : Int32) else 30) = R
  by_cases hz : yTop u g r = -1
  · rw [if_pos hz, if_pos hz, Int32.add_comm]
  · rw [if_neg hz, if_neg hz]
    generalize 3 * (u 2 (yTop u g r).toNatClampNeg - u 2 b) = L
    generalize (if u 4 (yTop u g r).toNatClampNeg = u 4 b then (12 : Int32) else 0) = S
    generalize 15 * nI (ySo u g b r (yH u r)) = W
    have e2 : (if L ≤ 24 then L else 24) = (if 24 < L then 24 else L) := by
      by_cases q : L ≤ 24
      · rw [if_pos q, if_neg (Int32.not_lt.mpr q)]
      · rw [if_neg q, if_pos (Int32.not_le.mp q)]
    rw [e2]
    generalize (if 24 < L then (24 : Int32) else L) = K
    grind
/-- the best of the rows that are good: the greatest score, of such the least row; -1 without -/
def isBest (P : Nat → Bool) (sc : Nat → Int32) (a n : Nat) (x : Int32) : Prop :=
  (x = -1 ∧ ∀ r, a ≤ r → r < n → P r = false) ∨ ∃ r, a ≤ r ∧ r < n ∧ x = nI r ∧ P r = true ∧ ∀ r2, a ≤ r2 → r2 < n → P r2 = true → sc r2 < sc r ∨ (sc r2 = sc r ∧ r ≤ r2)
theorem isBest_uniq {P : Nat → Bool} {sc : Nat → Int32} {a n : Nat} {x y : Int32} (hx : isBest P sc a n x) (hy : isBest P sc a n y) : x = y := by
  rcases hx with ⟨h1, h2⟩ | ⟨r, ha, h1, h2, h3, h4⟩
  · rcases hy with ⟨g1, g2⟩ | ⟨q, gb, g1, g2, g3, g4⟩
    · rw [h1, g1]
    · exact absurd g3 (by rw [h2 q gb g1]; decide)
  · rcases hy with ⟨g1, g2⟩ | ⟨q, gb, g1, g2, g3, g4⟩
    · exact absurd h3 (by rw [g2 r ha h1]; decide)
    · rw [h2, g2]
      rcases h4 q gb g1 g3 with e | ⟨e, l⟩
      · rcases g4 r ha h1 h3 with e2 | ⟨e2, l2⟩
        · exact absurd e (Int32.not_lt.mpr (Int32.le_of_lt e2))
        · rw [e2] at e
          exact (Int32.lt_irrefl e).elim
      · rcases g4 r ha h1 h3 with e2 | ⟨e2, l2⟩
        · rw [e] at e2
          exact (Int32.lt_irrefl e2).elim
        · rw [Nat.le_antisymm l l2]
theorem mDn_best {P : Nat → Bool} {sc : Nat → Int32} (hn : n < 2 ^ 31) : ∀ d, d ≤ n → isBest P sc (n - d) n (mDn P sc n d)
  | 0, _ => Or.inl ⟨rfl, fun r h1 h2 => absurd h2 (by omega)⟩
  | d + 1, hd => by
    have ih := mDn_best (P := P) (sc := sc) hn d (by omega)
    rw [mDn]
    by_cases hP : P (n - 1 - d) = true
    · rcases ih with ⟨h1, h2⟩ | ⟨r, ha, h1, h2, h3, h4⟩
      · rw [if_pos ⟨hP, Or.inl (by rw [h1]; exact y_neg1)⟩]
        refine Or.inr ⟨n - 1 - d, by omega, by omega, rfl, hP, fun r2 g1 g2 g3 => ?_⟩
        by_cases e : r2 = n - 1 - d
        · exact Or.inr ⟨by rw [e], by omega⟩
        · exact absurd g3 (by rw [h2 r2 (by omega) g2]; decide)
      · rw [h2, nI_clamp (by omega)]
        by_cases hs : sc (n - 1 - d) < sc r
        · rw [if_neg (fun q => q.2.elim (fun q => m_n0 (by omega) q) (fun q => q hs))]
          refine Or.inr ⟨r, by omega, h1, rfl, h3, fun r2 g1 g2 g3 => ?_⟩
          by_cases e : r2 = n - 1 - d
          · exact Or.inl (by rw [e]; exact hs)
          · exact h4 r2 (by omega) g2 g3
        · rw [if_pos ⟨hP, Or.inr hs⟩]
          refine Or.inr ⟨n - 1 - d, by omega, by omega, rfl, hP, fun r2 g1 g2 g3 => ?_⟩
          by_cases e : r2 = n - 1 - d
          · exact Or.inr ⟨by rw [e], by omega⟩
          · rcases h4 r2 (by omega) g2 g3 with q | ⟨q, -⟩
            · rcases Int32.lt_or_eq_of_le (Int32.not_lt.mp hs) with w | w
              · exact Or.inl (Int32.lt_trans q w)
              · exact Or.inl (by rw [← w]; exact q)
            · rcases Int32.lt_or_eq_of_le (Int32.not_lt.mp hs) with w | w
              · exact Or.inl (by rw [q]; exact w)
              · exact Or.inr ⟨by rw [q, w], by omega⟩
    · rw [if_neg (fun q => hP q.1)]
      rcases ih with ⟨h1, h2⟩ | ⟨r, ha, h1, h2, h3, h4⟩
      · refine Or.inl ⟨h1, fun r g1 g2 => ?_⟩
        by_cases e : r = n - 1 - d
        · rw [e]; exact Bool.eq_false_iff.mpr hP
        · exact h2 r (by omega) g2
      · refine Or.inr ⟨r, by omega, h1, h2, h3, fun r2 g1 g2 g3 => ?_⟩
        by_cases e : r2 = n - 1 - d
        · rw [e] at g3; exact absurd g3 hP
        · exact h4 r2 (by omega) g2 g3
def yGood (t : Nat) (B : Int32) (u g : Nat → Nat → Int32) (b : Nat) (k : Bool) (r : Nat) : Bool := decide (¬ (¬ yShR t B u g b r = 0 ∨ (k = true ∧ yWould u g b r = true)))
theorem yBest_inv {b : Nat} {k : Bool} : ∀ m, m < 2 ^ 31 → ((yBest t B u g b k m).1 = -1 ∧ ∀ r, r < m → yGood t B u g b k r = false) ∨ ∃ r, r < m ∧ (yBest t B u g b k m).1 = nI r ∧ (yBest t B u g b k m).2 = yScore u g b r ∧ yGood t B u g b k r = true ∧ ∀ r2, r2 < m → yGood t B u g b k r2 = true → yScore u g b r2 < yScore u g b r ∨ (yScore u g b r2 = yScore u g b r ∧ r ≤ r2)
  | 0, _ => Or.inl ⟨rfl, fun r h => absurd h (Nat.not_lt_zero _)⟩
  | m + 1, hm => by
    have ih := yBest_inv (b := b) (k := k) m (by omega)
    rw [yBest]
    by_cases hbad : ¬ yShR t B u g b m = 0 ∨ (k = true ∧ yWould u g b m = true)
    · rw [if_pos hbad]
      have hg : yGood t B u g b k m = false := decide_eq_false (fun q => q hbad)
      rcases ih with ⟨h1, h2⟩ | ⟨r, h1, h2, h3, h4, h5⟩
      · exact Or.inl ⟨h1, fun r hr => by
          by_cases e : r = m
          · rw [e]; exact hg
          · exact h2 r (by omega)⟩
      · exact Or.inr ⟨r, by omega, h2, h3, h4, fun r2 g2 g3 => by
          by_cases e : r2 = m
          · rw [e, hg] at g3; cases g3
          · exact h5 r2 (by omega) g3⟩
    · rw [if_neg hbad]
      have hg : yGood t B u g b k m = true := decide_eq_true hbad
      rcases ih with ⟨h1, h2⟩ | ⟨r, h1, h2, h3, h4, h5⟩
      · rw [if_pos (Or.inl h1)]
        exact Or.inr ⟨m, by omega, rfl, rfl, hg, fun r2 g2 g3 => by
          by_cases e : r2 = m
          · exact Or.inr ⟨by rw [e], by omega⟩
          · rw [h2 r2 (by omega)] at g3; cases g3⟩
      · by_cases hs : yScore u g b m ≤ (yBest t B u g b k m).2
        · rw [if_neg (fun q => q.elim (fun q => y_m1 (by omega) (h2.symm.trans q)) (fun q => q hs))]
          refine Or.inr ⟨r, by omega, h2, h3, h4, fun r2 g2 g3 => ?_⟩
          by_cases e : r2 = m
          · rw [h3] at hs
            rw [e]
            rcases Int32.lt_or_eq_of_le hs with w | w
            · exact Or.inl w
            · exact Or.inr ⟨w, by omega⟩
          · exact h5 r2 (by omega) g3
        · rw [if_pos (Or.inr hs)]
          rw [h3] at hs
          have hs := Int32.not_le.mp hs
          refine Or.inr ⟨m, by omega, rfl, rfl, hg, fun r2 g2 g3 => ?_⟩
          by_cases e : r2 = m
          · exact Or.inr ⟨by rw [e], by omega⟩
          · rcases h5 r2 (by omega) g3 with q | ⟨q, -⟩
            · exact Or.inl (Int32.lt_trans q hs)
            · exact Or.inl (by rw [q]; exact hs)
theorem isBest_congr {P P2 : Nat → Bool} {sc sc2 : Nat → Int32} {a m : Nat} {x : Int32} (hP : ∀ r, a ≤ r → r < m → P r = P2 r) (hs : ∀ r, a ≤ r → r < m → sc r = sc2 r) (h : isBest P sc a m x) : isBest P2 sc2 a m x := by
  rcases h with ⟨h1, h2⟩ | ⟨r, ha, h1, h2, h3, h4⟩
  · exact Or.inl ⟨h1, fun r g1 g2 => by rw [← hP r g1 g2]; exact h2 r g1 g2⟩
  · exact Or.inr ⟨r, ha, h1, h2, by rw [← hP r ha h1]; exact h3, fun r2 g1 g2 g3 => by
      rw [← hs r2 g1 g2, ← hs r ha h1]
      exact h4 r2 g1 g2 (by rw [hP r2 g1 g2]; exact g3)⟩
theorem yBest_best {b : Nat} {k : Bool} (hn : n < 2 ^ 31) : isBest (yGood t B u g b k) (fun r => yScore u g b r) 0 n (yBest t B u g b k n).1 := by
  rcases yBest_inv (t := t) (B := B) (u := u) (g := g) (b := b) (k := k) n hn with ⟨h1, h2⟩ | ⟨r, h1, h2, h3, h4, h5⟩
  · exact Or.inl ⟨h1, fun r _ hr => h2 r hr⟩
  · exact Or.inr ⟨r, Nat.zero_le _, h1, h2, h4, fun r2 _ g2 g3 => h5 r2 g2 g3⟩
theorem rl.choose (h : rl n t u g v T) {b : Nat} (hs : u 7 b = -1) : mDn (fun r => decide (mBr t B v T b r = 0)) (fun r => mSc v T b r) n n = (yBest t B u g b false n).1 := by
  have hn := h.ok.hn
  have h1 := mDn_best (P := fun r => decide (mBr t B v T b r = 0)) (sc := fun r => mSc v T b r) (show n < 2 ^ 31 by omega) n (Nat.le_refl _)
  rw [Nat.sub_self] at h1
  refine isBest_uniq (isBest_congr (fun r _ hr => ?_) (fun r _ hr => h.sc hr) h1) (yBest_best (by omega))
  have e : yShR t B u g b r = yRule t B u g b r := by rw [yShR, if_neg (by rw [hs]; exact fun q => y_m1 (show r < 2 ^ 31 by omega) q.symm)]
  rw [yGood, e, h.br hr]
  simp
theorem rl.aside (h : rl n t u g v T) {b : Nat} (hb : b < T) : mAsd n t B v T b = (yBest t B u g b true n).1 := by
  have hn := h.ok.hn
  have ht := h.ok.ht
  have h1 := mDn_best (P := fun r => decide (¬ nI r = v 7 b ∧ mBr t B v T b r = 0 ∧ nI (mSo v b (nI r) (nI t) T) = 0)) (sc := fun r => mSc v T b r) (show n < 2 ^ 31 by omega) n (Nat.le_refl _)
  rw [Nat.sub_self] at h1
  refine isBest_uniq (isBest_congr (fun r _ hr => ?_) (fun r _ hr => h.sc hr) h1) (yBest_best (by omega))
  have hh := h.ok.hh hr
  have hso : ySo u g b r (yH u r) ≤ yH u r := yCnt_le _
  rw [yGood, h.br hr, h.soF hr hh (by omega), h.v7 hb, yShR, yWould]
  have ez : nI (ySo u g b r (yH u r)) = 0 ↔ ySo u g b r (yH u r) = 0 := y_z (by omega)
  by_cases e : u 7 b = nI r
  · rw [if_pos e]
    simp [e]
  · rw [if_neg e]
    have e2 : ¬ nI r = u 7 b := fun q => e q.symm
    simp [e2, ez]
end REL2

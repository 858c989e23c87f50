/-! counting -/
theorem cnt_congr {P Q : Nat → Bool} : ∀ {T : Nat}, (∀ b, b < T → P b = Q b) → yCnt P T = yCnt Q T
  | 0, _ => rfl
  | T + 1, h => by rw [yCnt, yCnt, cnt_congr (fun b hb => h b (by omega)), h T (by omega)]
theorem cnt_split {P P1 P2 : Nat → Bool} : ∀ {T : Nat}, (∀ b, b < T → P b = (P1 b || P2 b) ∧ ¬ (P1 b = true ∧ P2 b = true)) → yCnt P T = yCnt P1 T + yCnt P2 T
  | 0, _ => rfl
  | T + 1, h => by
    rw [yCnt, yCnt, yCnt, cnt_split (fun b hb => h b (by omega))]
    obtain ⟨h1, h2⟩ := h T (by omega)
    rw [h1]
    cases ha : P1 T <;> cases hb : P2 T <;> simp_all <;> omega
theorem cnt_none {P : Nat → Bool} : ∀ {T : Nat}, (∀ b, b < T → P b = false) → yCnt P T = 0
  | 0, _ => rfl
  | T + 1, h => by rw [yCnt, cnt_none (fun b hb => h b (by omega)), h T (by omega)]; rfl
theorem cnt_single {P : Nat → Bool} {c : Nat} : ∀ {T : Nat}, c < T → (∀ b, b < T → b ≠ c → P b = false) → yCnt P T = if P c = true then 1 else 0
  | 0, h, _ => absurd h (Nat.not_lt_zero _)
  | T + 1, h, hP => by
    rw [yCnt]
    by_cases e : c = T
    · subst e
      rw [cnt_none (fun b hb => hP b (by omega) (by omega)), Nat.zero_add]
    · rw [cnt_single (show c < T by omega) (fun b hb hc => hP b (by omega) hc), hP T (by omega) (fun q => e q.symm)]
      rfl
theorem sum_congr {f f2 : Nat → Int32} : ∀ {T : Nat}, (∀ b, b < T → f b = f2 b) → ySum f T = ySum f2 T
  | 0, _ => rfl
  | T + 1, h => by rw [ySum, ySum, sum_congr (fun b hb => h b (by omega)), h T (by omega)]
theorem sum_split {f f1 f2 : Nat → Int32} : ∀ {T : Nat}, (∀ b, b < T → f b = f1 b + f2 b) → ySum f T = ySum f1 T + ySum f2 T
  | 0, _ => rfl
  | T + 1, h => by
    rw [ySum, ySum, ySum, sum_split (fun b hb => h b (by omega)), h T (by omega)]
    grind
theorem sum_none {f : Nat → Int32} : ∀ {T : Nat}, (∀ b, b < T → f b = 0) → ySum f T = 0
  | 0, _ => rfl
  | T + 1, h => by rw [ySum, sum_none (fun b hb => h b (by omega)), h T (by omega)]; rfl
theorem sum_single {f : Nat → Int32} {c : Nat} : ∀ {T : Nat}, c < T → (∀ b, b < T → b ≠ c → f b = 0) → ySum f T = f c
  | 0, h, _ => absurd h (Nat.not_lt_zero _)
  | T + 1, h, hP => by
    rw [ySum]
    by_cases e : c = T
    · subst e
      rw [sum_none (fun b hb => hP b (by omega) (by omega)), Int32.zero_add]
    · rw [sum_single (show c < T by omega) (fun b hb hc => hP b (by omega) hc), hP T (by omega) (fun q => e q.symm), Int32.add_zero]
/-- the class's and the model's memories say the same of the boxes, of where they stand, of the rows -/
def rl (n t : Nat) (u g v : Nat → Nat → Int32) (T : Nat) : Prop :=
  yOK n t u g ∧ 0 < n ∧ T ≤ 60 ∧ u 0 0 = nI T ∧ v 0 0 = nI T ∧ (∀ b, b < T → v 7 b = u 7 b ∧ v 8 b = u 8 b) ∧ (∀ i b, 1 ≤ i → i ≤ 5 → v i b = u i b) ∧ (∀ r, r < n → v 11 r = u 11 r ∧ v 12 r = u 12 r ∧ 0 ≤ u 12 r) ∧ (∀ r i j, r < n → i < yH u r → j < yH u r → u 1 (yB g r i) = u 1 (yB g r j))
section REL
variable {n t : Nat} {u g v : Nat → Nat → Int32} {T : Nat}
theorem rl.ok (h : rl n t u g v T) : yOK n t u g := h.1
theorem rl.n0 (h : rl n t u g v T) : 0 < n := h.2.1
theorem rl.T6 (h : rl n t u g v T) : T ≤ 60 := h.2.2.1
theorem rl.u0 (h : rl n t u g v T) : u 0 0 = nI T := h.2.2.2.1
theorem rl.v0 (h : rl n t u g v T) : v 0 0 = nI T := h.2.2.2.2.1
theorem rl.v7 (h : rl n t u g v T) {b : Nat} (hb : b < T) : v 7 b = u 7 b := (h.2.2.2.2.2.1 b hb).1
theorem rl.v8 (h : rl n t u g v T) {b : Nat} (hb : b < T) : v 8 b = u 8 b := (h.2.2.2.2.2.1 b hb).2
theorem rl.va (h : rl n t u g v T) {i b : Nat} (h1 : 1 ≤ i) (h2 : i ≤ 5) : v i b = u i b := h.2.2.2.2.2.2.1 i b h1 h2
theorem rl.v11 (h : rl n t u g v T) {r : Nat} (hr : r < n) : v 11 r = u 11 r := (h.2.2.2.2.2.2.2.1 r hr).1
theorem rl.v12 (h : rl n t u g v T) {r : Nat} (hr : r < n) : v 12 r = u 12 r := (h.2.2.2.2.2.2.2.1 r hr).2.1
theorem rl.p12 (h : rl n t u g v T) {r : Nat} (hr : r < n) : 0 ≤ u 12 r := (h.2.2.2.2.2.2.2.1 r hr).2.2
theorem rl.un (h : rl n t u g v T) {r i j : Nat} (hr : r < n) (hi : i < yH u r) (hj : j < yH u r) : u 1 (yB g r i) = u 1 (yB g r j) := h.2.2.2.2.2.2.2.2 r i j hr hi hj
theorem rl.st (h : rl n t u g v T) {b : Nat} (hb : b < 60) (hs : ¬ u 7 b = -1) : b < T := by
  obtain ⟨T2, h1, h2, h3⟩ := h.ok.hT
  have e : nI T2 = nI T := h2.symm.trans h.u0
  have h6 := h.T6
  have e2 : T2 = T := (nI_eq (by omega) (by omega)).mp e
  rw [← e2]
  exact h3 b hb hs
theorem rl.qT (h : rl n t u g v T) {r j : Nat} (hr : r < n) (hj : j < yH u r) : yB g r j < T := by
  have hn := h.ok.hn
  exact h.st (h.ok.hb hr hj) (by rw [h.ok.hb7 hr hj]; exact y_m1 (by omega))
/-- a box of row r, tier j, is the one that the grid has there -/
theorem rl.att (h : rl n t u g v T) {r b : Nat} (hr : r < n) (hb : b < T) (hv : v 7 b = nI r) : ∃ j, j < yH u r ∧ v 8 b = nI j ∧ b = yB g r j := by
  have hn := h.ok.hn
  have h6 := h.T6
  have ht := h.ok.ht
  have hv' : u 7 b = nI r := (h.v7 hb).symm.trans hv
  obtain ⟨r2, k, h1, h2, h3, h4, h5⟩ := h.ok.h7g (show b < 60 by omega) (by rw [hv']; exact y_m1 (by omega))
  have e : r2 = r := (nI_eq (by omega) (by omega)).mp (h3.symm.trans hv')
  subst e
  refine ⟨k, h2, (h.v8 hb).trans h4, ?_⟩
  rw [yB, h5, nI_clamp (by omega)]
/-- the boxes of row r below tier k, counted over all boxes or over the tiers -/
theorem rl.cnt (h : rl n t u g v T) {r : Nat} (hr : r < n) (F : Nat → Bool) : ∀ k, k ≤ yH u r → yCnt (fun b => decide (v 7 b = nI r ∧ v 8 b < nI k) && F b) T = yCnt (fun j => F (yB g r j)) k
  | 0, _ => by
    refine cnt_none (fun b hb => ?_)
    have : ¬ (v 7 b = nI r ∧ v 8 b < nI 0) := by
      rintro ⟨h1, h2⟩
      obtain ⟨j, h3, h4, -⟩ := h.att hr hb h1
      have hh := h.ok.hh hr
      have ht := h.ok.ht
      rw [h4, nI_ltI (by omega) (by omega)] at h2
      omega
    simp [this]
  | k + 1, hk => by
    have hh := h.ok.hh hr
    have ht := h.ok.ht
    have hn := h.ok.hn
    have hq := h.qT hr (show k < yH u r by omega)
    rw [yCnt, ← rl.cnt h hr F k (by omega)]
    rw [cnt_split (P1 := fun b => decide (v 7 b = nI r ∧ v 8 b < nI k) && F b) (P2 := fun b => decide (b = yB g r k) && F b)]
    · congr 1
      rw [cnt_single hq]
      · simp
      · intro b hb hc
        simp [hc]
    · intro b hb
      by_cases hv : v 7 b = nI r
      · obtain ⟨j, h3, h4, h5⟩ := h.att hr hb hv
        have e1 : v 8 b < nI (k + 1) ↔ j < k + 1 := by rw [h4, nI_ltI (by omega) (by omega)]
        have e2 : v 8 b < nI k ↔ j < k := by rw [h4, nI_ltI (by omega) (by omega)]
        have e3 : b = yB g r k ↔ j = k := by
          constructor
          · intro q
            have a1 := h.ok.hb8 hr h3
            have a2 := h.ok.hb8 hr (show k < yH u r by omega)
            rw [← h5, q, a2] at a1
            exact ((nI_eq (by omega) (by omega)).mp a1).symm
          · rintro rfl
            exact h5
        cases hF : F b
        · simp
        · simp only [hv, e1, e2, e3, true_and, Bool.and_true]
          by_cases q : j = k
          · subst q; simp
          · by_cases q2 : j < k
            · simp [q, q2, show j < k + 1 by omega]
            · simp [q, q2, show ¬ j < k + 1 by omega]
      · have e3 : ¬ b = yB g r k := by
          intro q
          apply hv
          rw [h.v7 hb, q]
          exact h.ok.hb7 hr (by omega)
        simp [hv, e3]
theorem rl.sum (h : rl n t u g v T) {r : Nat} (hr : r < n) (f : Nat → Int32) : ∀ k, k ≤ yH u r → ySum (fun b => if v 7 b = nI r ∧ v 8 b < nI k then f b else 0) T = ySum (fun j => f (yB g r j)) k
  | 0, _ => by
    refine sum_none (fun b hb => ?_)
    have : ¬ (v 7 b = nI r ∧ v 8 b < nI 0) := by
      rintro ⟨h1, h2⟩
      obtain ⟨j, h3, h4, -⟩ := h.att hr hb h1
      have hh := h.ok.hh hr
      have ht := h.ok.ht
      rw [h4, nI_ltI (by omega) (by omega)] at h2
      omega
    exact if_neg this
  | k + 1, hk => by
    have hh := h.ok.hh hr
    have ht := h.ok.ht
    have hn := h.ok.hn
    have hq := h.qT hr (show k < yH u r by omega)
    rw [ySum, ← rl.sum h hr f k (by omega)]
    rw [sum_split (f1 := fun b => if v 7 b = nI r ∧ v 8 b < nI k then f b else 0) (f2 := fun b => if b = yB g r k then f b else 0)]
    · congr 1
      rw [sum_single hq]
      · exact if_pos rfl
      · intro b hb hc
        exact if_neg hc
    · intro b hb
      by_cases hv : v 7 b = nI r
      · obtain ⟨j, h3, h4, h5⟩ := h.att hr hb hv
        have e1 : v 8 b < nI (k + 1) ↔ j < k + 1 := by rw [h4, nI_ltI (by omega) (by omega)]
        have e2 : v 8 b < nI k ↔ j < k := by rw [h4, nI_ltI (by omega) (by omega)]
        have e3 : b = yB g r k ↔ j = k := by
          constructor
          · intro q
            have a1 := h.ok.hb8 hr h3
            have a2 := h.ok.hb8 hr (show k < yH u r by omega)
            rw [← h5, q, a2] at a1
            exact ((nI_eq (by omega) (by omega)).mp a1).symm
          · rintro rfl
            exact h5
        simp only [hv, e1, e2, e3, true_and]
        by_cases q : j = k
        · subst q; simp
        · by_cases q2 : j < k
          · simp [q, q2, show j < k + 1 by omega]
          · simp [q, q2, show ¬ j < k + 1 by omega]
      · have e3 : ¬ b = yB g r k := by
          intro q
          apply hv
          rw [h.v7 hb, q]
          exact h.ok.hb7 hr (by omega)
        simp [hv, e3]
theorem rl.lt (h : rl n t u g v T) {r b k : Nat} (hr : r < n) (hb : b < T) (hk : yH u r ≤ k) (hk2 : k < 2 ^ 31) (hv : v 7 b = nI r) : v 8 b < nI k := by
  obtain ⟨j, h3, h4, -⟩ := h.att hr hb hv
  rw [h4, nI_ltI (by omega) hk2]
  omega
theorem rl.ht (h : rl n t u g v T) {r : Nat} (hr : r < n) : mHt v (nI r) T = yH u r := by
  have hh := h.ok.hh hr
  have ht := h.ok.ht
  have e := h.cnt hr (fun _ => true) (yH u r) (Nat.le_refl _)
  have e2 : ∀ k, yCnt (fun _ => true) k = k := fun k => by
    induction k with
    | zero => rfl
    | succ k ih => rw [yCnt, ih]; rfl
  rw [e2] at e
  rw [← e, mHt]
  refine cnt_congr (fun b hb => ?_)
  by_cases hv : v 7 b = nI r
  · have := h.lt hr hb (Nat.le_refl _) (by omega) hv
    simp [hv, this]
  · simp [hv]
theorem rl.wt (h : rl n t u g v T) {r : Nat} (hr : r < n) : mWt v (nI r) T = yWt u g r := by
  have hh := h.ok.hh hr
  have ht := h.ok.ht
  have e := h.sum hr (fun b => u 2 b) (yH u r) (Nat.le_refl _)
  rw [yWt, ← e, mWt]
  refine sum_congr (fun b hb => ?_)
  by_cases hv : v 7 b = nI r
  · have := h.lt hr hb (Nat.le_refl _) (by omega) hv
    simp [hv, this, h.va (i := 2) (b := b) (by decide) (by decide)]
  · simp [hv]
theorem rl.so (h : rl n t u g v T) {r k b : Nat} (hr : r < n) (hk : k ≤ yH u r) : mSo v b (nI r) (nI k) T = ySo u g b r k := by
  have e := h.cnt hr (fun c => decide (u 3 c < u 3 b)) k hk
  rw [ySo, ← e, mSo]
  refine cnt_congr (fun c hc => ?_)
  rw [h.va (i := 3) (by decide) (by decide), h.va (i := 3) (by decide) (by decide)]
  by_cases h1 : v 7 c = nI r <;> by_cases h2 : v 8 c < nI k <;> by_cases h3 : u 3 c < u 3 b <;> simp [h1, h2, h3]
theorem rl.soF (h : rl n t u g v T) {r b k : Nat} (hr : r < n) (hk : yH u r ≤ k) (hk2 : k < 2 ^ 31) : mSo v b (nI r) (nI k) T = ySo u g b r (yH u r) := by
  have hh := h.ok.hh hr
  have ht := h.ok.ht
  rw [← h.so hr (Nat.le_refl _), mSo, mSo]
  refine cnt_congr (fun c hc => ?_)
  by_cases h1 : v 7 c = nI r
  · have a := h.lt hr hc (Nat.le_refl _) (by omega) h1
    have b := h.lt hr hc hk hk2 h1
    simp [a, b]
  · simp [h1]
theorem mAt_uniq {a y : Int32} {c : Nat} : ∀ {T : Nat}, c < T → v 7 c = a → v 8 c = y → (∀ b, b < T → v 7 b = a → v 8 b = y → b = c) → mAt v a y T = nI c
  | 0, h, _, _, _ => absurd h (Nat.not_lt_zero _)
  | T + 1, h, h1, h2, hu => by
    rw [mAt]
    by_cases e : v 7 T = a ∧ v 8 T = y
    · rw [if_pos e, hu T (by omega) e.1 e.2]
    · rw [if_neg e]
      have hc : c ≠ T := fun q => e ⟨q ▸ h1, q ▸ h2⟩
      exact mAt_uniq (by omega) h1 h2 (fun b hb => hu b (by omega))
theorem mAt_none {a y : Int32} : ∀ {T : Nat}, (∀ b, b < T → ¬ (v 7 b = a ∧ v 8 b = y)) → mAt v a y T = -1
  | 0, _ => rfl
  | T + 1, hu => by rw [mAt, if_neg (hu T (by omega))]; exact mAt_none (fun b hb => hu b (by omega))
theorem rl.box (h : rl n t u g v T) {r j : Nat} (hr : r < n) (hj : j < yH u r) : mAt v (nI r) (nI j) T = g r j := by
  have hh := h.ok.hh hr
  have ht := h.ok.ht
  have hq := h.qT hr hj
  rw [h.ok.hg hr hj]
  refine mAt_uniq hq ((h.v7 hq).trans (h.ok.hb7 hr hj)) ((h.v8 hq).trans (h.ok.hb8 hr hj)) (fun b hb h1 h2 => ?_)
  obtain ⟨k, h3, h4, h5⟩ := h.att hr hb h1
  have : k = j := (nI_eq (by omega) (by omega)).mp (h4.symm.trans h2)
  rw [h5, this]
theorem rl.boxN (h : rl n t u g v T) {r : Nat} {y : Int32} (hr : r < n) (hy : ∀ j, j < yH u r → ¬ y = nI j) : mAt v (nI r) y T = -1 := by
  refine mAt_none (fun b hb q => ?_)
  obtain ⟨k, h3, h4, -⟩ := h.att hr hb q.1
  exact hy k h3 (q.2.symm.trans h4)
theorem rl.at2 (h : rl n t u g v T) {r j : Nat} (hr : r < n) (hj : j < t) : mAt v (nI r) (nI j) T = g r j := by
  have hh := h.ok.hh hr
  have ht := h.ok.ht
  by_cases hl : j < yH u r
  · exact h.box hr hl
  · rw [h.ok.hno hr (by omega) hj]
    exact h.boxN hr (fun k hk q => by
      have := (nI_eq (by omega) (by omega)).mp q
      omega)
theorem rl.top (h : rl n t u g v T) {r : Nat} (hr : r < n) : mAt v (nI r) (nI (mHt v (nI r) T) - 1) T = yTop u g r := by
  have hh := h.ok.hh hr
  have ht := h.ok.ht
  have h6 := h.ok.h6 hr
  rw [h.ht hr]
  by_cases hz : yH u r = 0
  · rw [yTop, if_pos (by rw [h6, hz]; rfl), hz]
    exact h.boxN hr (fun j hj => absurd hj (by omega))
  · rw [yTop, if_neg (by rw [h6]; exact nI_ne0 (by omega) (by omega)), show nI (yH u r) - 1 = nI (yH u r - 1) from pk_sub (b := 1) (by omega)]
    exact h.box hr (by omega)
end REL

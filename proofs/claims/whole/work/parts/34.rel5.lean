section REL5
variable {n t : Nat} {u g v : Nat → Nat → Int32} {T mk k : Nat} {B : Int32}
/-- the two memories, with their moves: mk were made, k are kept -/
def rlm (n t : Nat) (u g v : Nat → Nat → Int32) (T mk k : Nat) : Prop :=
  rl n t u g v T ∧ k ≤ 100 ∧ k ≤ mk ∧ u 0 1 = nI mk ∧ v 0 1 = nI mk ∧ u 0 2 = nI k ∧ v 0 2 = nI k ∧ (∀ i, i < k → u 9 ((mk - 1 - i) % 100) = v 9 (k - 1 - i) ∧ u 10 ((mk - 1 - i) % 100) = v 10 (k - 1 - i)) ∧ hV n t T (u 1) (v 9) (v 10) k u g
theorem rlm.r (h : rlm n t u g v T mk k) : rl n t u g v T := h.1
theorem rl.unn (h : rl n t u g v T) : uni n T (u 1) u g := fun r i hr hi => ⟨h.qT hr hi, fun j hj => h.un hr hi hj⟩
theorem rlm.thr (h : rlm n t u g v T mk k) (x : Int32) : rlm n t u g (mu v 0 3 x) T mk k := by
  obtain ⟨h1, h2, h3, h4, h5, h6, h7, h8, h9⟩ := h
  exact ⟨h1.thr x, h2, h3, h4, h5, h6, h7, h8, h9⟩
theorem rl.mk2 {u2 g2 v2 : Nat → Nat → Int32} (h : rl n t u g v T) (hok : yOK n t u2 g2) (hu0 : u2 0 0 = u 0 0) (hu : ∀ i, i ≠ 0 → i ≠ 6 → i ≠ 7 → i ≠ 8 → i ≠ 9 → i ≠ 10 → u2 i = u i) (hv0 : v2 0 0 = v 0 0) (hv : ∀ i, i ≠ 0 → i ≠ 6 → i ≠ 7 → i ≠ 8 → i ≠ 9 → i ≠ 10 → v2 i = v i) (h78 : ∀ b, b < T → v2 7 b = u2 7 b ∧ v2 8 b = u2 8 b) (hun : uni n T (u 1) u2 g2) : rl n t u2 g2 v2 T := by
  refine ⟨hok, h.n0, h.T6, hu0.trans h.u0, hv0.trans h.v0, h78, fun i b q1 q2 => ?_, fun r hr => ?_, fun r i j hr hi hj => ?_⟩
  · rw [hu i (by omega) (by omega) (by omega) (by omega) (by omega) (by omega), hv i (by omega) (by omega) (by omega) (by omega) (by omega) (by omega)]
    exact h.va q1 q2
  · rw [hu 11 (by decide) (by decide) (by decide) (by decide) (by decide) (by decide), hv 11 (by decide) (by decide) (by decide) (by decide) (by decide) (by decide), hu 12 (by decide) (by decide) (by decide) (by decide) (by decide) (by decide), hv 12 (by decide) (by decide) (by decide) (by decide) (by decide) (by decide)]
    exact ⟨h.v11 hr, h.v12 hr, h.p12 hr⟩
  · rw [hu 1 (by decide) (by decide) (by decide) (by decide) (by decide) (by decide)]
    exact (hun r i hr hi).2 j hj
theorem mMv_7 {b : Nat} {x : Int32} : mMv v T k b x 7 = upd (v 7) b x := by
  unfold mMv
  split <;> rfl
theorem mMv_8 {b : Nat} {x : Int32} : mMv v T k b x 8 = upd (v 8) b (if 0 ≤ x then nI (mHt v x T) else -1) := by
  unfold mMv
  split <;> rfl
theorem mMv_a {b : Nat} {x : Int32} {i : Nat} (h0 : i ≠ 0) (h7 : i ≠ 7) (h8 : i ≠ 8) (h9 : i ≠ 9) (h10 : i ≠ 10) : mMv v T k b x i = v i := by
  unfold mMv
  split
  · rw [mGoes, mu_ne _ _ _ h7, mu_ne _ _ _ h8, mPush, mu_ne _ _ _ h0, mu_ne _ _ _ h0, mu_ne _ _ _ h10, mu_ne _ _ _ h9, mu_ne _ _ _ h0]
    simp [mSh, h9, h10]
  · rw [mGoes, mu_ne _ _ _ h7, mu_ne _ _ _ h8, mPush, mu_ne _ _ _ h0, mu_ne _ _ _ h0, mu_ne _ _ _ h10, mu_ne _ _ _ h9]
theorem mMv_0 {b : Nat} {x : Int32} : mMv v T k b x 0 0 = v 0 0 := by
  unfold mMv
  split <;> rfl
theorem mMv_1 {b : Nat} {x : Int32} : mMv v T k b x 0 1 = v 0 1 + 1 := by
  unfold mMv
  split <;> rfl
theorem yLay_ne {b r i : Nat} (h6 : i ≠ 6) (h7 : i ≠ 7) (h8 : i ≠ 8) : yLayU u b r i = u i := by
  rw [yLayU, mu_ne _ _ _ h6, mu_ne _ _ _ h8, mu_ne _ _ _ h7]
theorem yLift_ne {b r i : Nat} (h6 : i ≠ 6) (h7 : i ≠ 7) (h8 : i ≠ 8) : yLiftU u b r i = u i := by
  rw [yLiftU, mu_ne _ _ _ h8, mu_ne _ _ _ h7, mu_ne _ _ _ h6]
theorem yKeep_ne {b q i : Nat} {x : Int32} (h0 : i ≠ 0) (h9 : i ≠ 9) (h10 : i ≠ 10) : yKeepU u q b x i = u i := by
  rw [yKeepU, mu_ne _ _ _ h0, mu_ne _ _ _ h0, mu_ne _ _ _ h10, mu_ne _ _ _ h9]
def kMin (k : Nat) : Nat := if k = 100 then 100 else k + 1
/-- a move is made -/
theorem rlm.push {u2 g2 : Nat → Nat → Int32} {b : Nat} {x : Int32} (h : rlm n t u g v T mk k) (hm : mk < 2 ^ 30) (hb : b < T) (hok : yOK n t u2 g2) (hu : ∀ i, i ≠ 6 → i ≠ 7 → i ≠ 8 → u2 i = yKeepU u (mk % 100) b (u 7 b) i)
    (h78 : ∀ c, c < T → mMv v T k b x 7 c = u2 7 c ∧ mMv v T k b x 8 c = u2 8 c) (hun : uni n T (u 1) u2 g2)
    (hh : ∀ P : (Nat → Nat → Int32) → (Nat → Nat → Int32) → Prop, (∀ U, U 6 = u 6 → U 7 = u 7 → U 8 = u 8 → P U g) → hM n t T (u 1) P b (u 7 b) u2 g2) : rlm n t u2 g2 (mMv v T k b x) T (mk + 1) (kMin k) := by
  obtain ⟨h1, h2, h3, h4, h5, h6, h7, h8, h9⟩ := h
  have u0 : u2 0 = yKeepU u (mk % 100) b (u 7 b) 0 := hu 0 (by decide) (by decide) (by decide)
  have u9 : u2 9 = upd (u 9) (mk % 100) (nI b) := hu 9 (by decide) (by decide) (by decide)
  have u10 : u2 10 = upd (u 10) (mk % 100) (u 7 b) := hu 10 (by decide) (by decide) (by decide)
  have u1 : u2 1 = u 1 := hu 1 (by decide) (by decide) (by decide)
  have hrl : rl n t u2 g2 (mMv v T k b x) T := by
    refine h1.mk2 hok (by rw [u0]; rfl) (fun i a0 a6 a7 a8 a9 a10 => (hu i a6 a7 a8).trans (yKeep_ne a0 a9 a10)) mMv_0 (fun i a0 a6 a7 a8 a9 a10 => mMv_a a0 a7 a8 a9 a10) h78 hun
  have e1 : u2 0 1 = nI (mk + 1) := by rw [u0, ← nI_1, ← h4]; rfl
  have e2 : mMv v T k b x 0 1 = nI (mk + 1) := by rw [mMv_1, h5, nI_1]
  have hv7 := h1.v7 hb
  by_cases hk : k = 100
  · subst hk
    have q9 : mMv v T 100 b x 9 = upd (mSh v 100 9) 99 (nI b) := by unfold mMv; rw [if_pos rfl]; rfl
    have q10 : mMv v T 100 b x 10 = upd (mSh v 100 10) 99 (v 7 b) := by unfold mMv; rw [if_pos rfl]; rfl
    have a9 : ∀ i, i < 99 → mMv v T 100 b x 9 i = v 9 (i + 1) := fun i hi => by
      rw [q9, pk_un (by omega)]
      simp [mSh, show i + 1 < 100 by omega]
    have a10 : ∀ i, i < 99 → mMv v T 100 b x 10 i = v 10 (i + 1) := fun i hi => by
      rw [q10, pk_un (by omega)]
      simp [mSh, show i + 1 < 100 by omega]
    have b9 : mMv v T 100 b x 9 99 = nI b := by rw [q9, pk_us]
    have b10 : mMv v T 100 b x 10 99 = u 7 b := by rw [q10, pk_us, hv7]
    refine ⟨hrl, Nat.le_refl _, (show 100 ≤ mk + 1 by omega), e1, e2, ?_, ?_, ?_, ?_⟩
    · rw [u0]
      show (if 100 < u 0 2 + 1 then 100 else u 0 2 + 1) = nI 100
      rw [h6]
      rfl
    · unfold mMv
      rw [if_pos rfl]
      show (v 0 2 - 1) + 1 = nI 100
      rw [h7]
      rfl
    · intro i hi
      have hi : i < 100 := hi
      show u2 9 ((mk + 1 - 1 - i) % 100) = mMv v T 100 b x 9 (100 - 1 - i) ∧ u2 10 ((mk + 1 - 1 - i) % 100) = mMv v T 100 b x 10 (100 - 1 - i)
      by_cases q : i = 0
      · subst q
        rw [u9, u10]
        rw [show mk + 1 - 1 - 0 = mk by omega, pk_us, pk_us]
        exact ⟨b9.symm, b10.symm⟩
      · have w := h8 (i - 1) (by omega)
        rw [show mk - 1 - (i - 1) = mk - i by omega, show 100 - 1 - (i - 1) = 100 - i by omega] at w
        have hne : (mk - i) % 100 ≠ mk % 100 := by omega
        rw [u9, u10, show mk + 1 - 1 - i = mk - i by omega, pk_un hne, pk_un hne, a9 _ (by omega), a10 _ (by omega), show 100 - 1 - i + 1 = 100 - i by omega]
        exact w
    · rw [u1]
      refine ⟨b, b9, ?_⟩
      rw [b10]
      refine hh _ (fun U q6 q7 q8 => ?_)
      exact hV.congr (Nat.le_refl _) (fun _ _ => rfl) (fun i hi => ⟨a9 i hi, a10 i hi⟩) q6 q7 q8 (hV.drop h9)
  · have ek : kMin k = k + 1 := if_neg hk
    rw [ek]
    have hk2 : k < 100 := by omega
    have q9 : mMv v T k b x 9 = upd (v 9) k (nI b) := by unfold mMv; rw [if_neg hk]; rfl
    have q10 : mMv v T k b x 10 = upd (v 10) k (v 7 b) := by unfold mMv; rw [if_neg hk]; rfl
    refine ⟨hrl, by omega, by omega, e1, e2, ?_, ?_, ?_, ?_⟩
    · rw [u0]
      show (if 100 < u 0 2 + 1 then 100 else u 0 2 + 1) = nI (k + 1)
      rw [h6, nI_1, show (100 : Int32) = nI 100 from rfl, if_neg (by rw [nI_ltI (by decide) (by omega)]; omega)]
    · unfold mMv
      rw [if_neg hk]
      show v 0 2 + 1 = nI (k + 1)
      rw [h7, nI_1]
    · intro i hi
      by_cases q : i = 0
      · subst q
        rw [u9, u10, q9, q10, show mk + 1 - 1 - 0 = mk by omega, show k + 1 - 1 - 0 = k by omega, pk_us, pk_us, pk_us, pk_us, hv7]
        exact ⟨rfl, rfl⟩
      · have w := h8 (i - 1) (by omega)
        rw [show mk - 1 - (i - 1) = mk - i by omega, show k - 1 - (i - 1) = k - i by omega] at w
        have hne : (mk - i) % 100 ≠ mk % 100 := by omega
        rw [u9, u10, q9, q10, show mk + 1 - 1 - i = mk - i by omega, show k + 1 - 1 - i = k - i by omega, pk_un hne, pk_un hne, pk_un (by omega), pk_un (by omega)]
        exact w
    · rw [u1]
      refine ⟨b, by rw [q9, pk_us], ?_⟩
      rw [q10, pk_us, hv7]
      refine hh _ (fun U q6 q7 q8 => ?_)
      exact hV.congr (Nat.le_refl _) (fun _ _ => rfl) (fun i hi => ⟨by rw [q9]; exact pk_un (by omega), pk_un (by omega)⟩) q6 q7 q8 h9
theorem y_ge0 {r : Nat} (h : r < 2 ^ 31) : (0 : Int32) ≤ nI r := nI_pos' h
theorem y_nge : ¬ (0 : Int32) ≤ -1 := by decide
/-- the box b, which stands nowhere, comes onto row r -/
theorem rlm.put {b r : Nat} (h : rlm n t u g v T mk k) (hm : mk < 2 ^ 30) (hb : b < T) (hr : r < n) (hs : u 7 b = -1) (h0 : yH u r < t) (hz : ∀ j, j < yH u r → u 1 (yB g r j) = u 1 b) : rlm n t (yLayU (yKeepU u (mk % 100) b (u 7 b)) b r) (yLayG (yKeepU u (mk % 100) b (u 7 b)) g b r) (mMv v T k b (nI r)) T (mk + 1) (kMin k) := by
  have ok := h.r.ok
  have hn := ok.hn
  have ht := ok.ht
  have hT6 := h.r.T6
  have h6 := ok.h6 hr
  have h8 : u 8 b = -1 := ok.h8 (by omega) hs
  have hgn := ok.hno hr (Nat.le_refl _) h0
  have hu := h.r.unn
  refine h.push hm hb (yOK_lay (T := T) (yOK_keep ok) hT6 h.r.u0 hb hr hs h0) (fun i a6 a7 a8 => yLay_ne a6 a7 a8) ?_ ?_ ?_
  · intro c hc
    rw [mMv_7, mMv_8, if_pos (y_ge0 (by omega)), h.r.ht hr]
    show upd (v 7) b (nI r) c = upd (u 7) b (nI r) c ∧ upd (v 8) b (nI (yH u r)) c = upd (u 8) b (nI (yH u r)) c
    by_cases q : c = b
    · subst q
      rw [pk_us, pk_us, pk_us, pk_us]
      exact ⟨rfl, rfl⟩
    · rw [pk_un q, pk_un q, pk_un q, pk_un q]
      exact ⟨h.r.v7 hc, h.r.v8 hc⟩
  · exact uni.lay (u := yKeepU u (mk % 100) b (u 7 b)) h6 (show yH u r < 8 by omega) hT6 hb hz hu
  · intro P hP
    obtain ⟨⟨q6, q7, q8⟩, qg⟩ := back_lay (u := yKeepU u (mk % 100) b (u 7 b)) (g := g) (b := b) (r := r) h6 (show yH u r < 8 by omega) hs h8 hgn
    have eH : yH (yLayU (yKeepU u (mk % 100) b (u 7 b)) b r) r = yH u r + 1 := yH_layS (u := yKeepU u (mk % 100) b (u 7 b)) h6 (show yH u r < 8 by omega)
    refine ⟨hb, Or.inl ⟨r, hs, hr, ?_, ?_, ?_, ?_, ?_⟩⟩
    · exact pk_us
    · omega
    · rw [eH, Nat.add_sub_cancel]
      show mu g r (yH u r) (nI b) r (yH u r) = nI b
      rw [mu_at, if_pos ⟨rfl, rfl⟩]
    · rw [qg]
      exact hu.congr q6 (Nat.le_refl _) (fun _ _ => rfl)
    · rw [qg]
      exact hP _ q6 q7 q8
theorem yOn_top {b : Nat} (h : yOK n t u g) (hb : b < 60) (ho : yOn u b = true) : ∃ r, r < n ∧ u 7 b = nI r ∧ 0 < yH u r ∧ g r (yH u r - 1) = nI b ∧ u 8 b = nI (yH u r - 1) := by
  obtain ⟨h1, h2⟩ := of_decide_eq_true ho
  obtain ⟨r, k, hr, hk, e7, e8, eg⟩ := h.h7g hb h1
  have hn := h.hn
  have ht := h.ht
  have hh := h.hh hr
  rw [yAb, if_neg h1, e7, nI_clamp (by omega), h.h6 hr, e8, y_sub0, show nI (yH u r) - 1 = nI (yH u r - 1) from pk_sub (b := 1) (by omega)] at h2
  have : yH u r - 1 = k := (nI_eq (by omega) (by omega)).mp h2
  exact ⟨r, hr, e7, by omega, by rw [this]; exact eg, by rw [this]; exact e8⟩
/-- the box b, on top of row r, goes away -/
theorem rlm.take {b r : Nat} (h : rlm n t u g v T mk k) (hm : mk < 2 ^ 30) (hb : b < T) (hr : r < n) (e7 : u 7 b = nI r) (h0 : 0 < yH u r) (hg : g r (yH u r - 1) = nI b) : rlm n t (yLiftU (yKeepU u (mk % 100) b (u 7 b)) b r) (yLiftG (yKeepU u (mk % 100) b (u 7 b)) g r) (mMv v T k b (-1)) T (mk + 1) (kMin k) := by
  have ok := h.r.ok
  have hn := ok.hn
  have ht := ok.ht
  have hT6 := h.r.T6
  have h6 := ok.h6 hr
  have hh := ok.hh hr
  have hu := h.r.unn
  have hbq : yB g r (yH u r - 1) = b := by rw [yB, hg, nI_clamp (by omega)]
  have h8 : u 8 b = nI (yH u r - 1) := by
    have := ok.hb8 hr (show yH u r - 1 < yH u r by omega)
    rw [hbq] at this
    exact this
  have eH : yH (yLiftU (yKeepU u (mk % 100) b (u 7 b)) b r) r = yH u r - 1 := yH_liftS (u := yKeepU u (mk % 100) b (u 7 b)) h6 h0 (show yH u r ≤ 8 by omega)
  refine h.push hm hb (yOK_lift (yOK_keep ok) (by omega) hr e7 h0 hg) (fun i a6 a7 a8 => yLift_ne a6 a7 a8) ?_ ?_ ?_
  · intro c hc
    rw [mMv_7, mMv_8, if_neg y_nge]
    show upd (v 7) b (-1) c = upd (u 7) b (-1) c ∧ upd (v 8) b (-1) c = upd (u 8) b (-1) c
    by_cases q : c = b
    · subst q
      rw [pk_us, pk_us, pk_us, pk_us]
      exact ⟨rfl, rfl⟩
    · rw [pk_un q, pk_un q, pk_un q, pk_un q]
      exact ⟨h.r.v7 hc, h.r.v8 hc⟩
  · exact uni.lift (u := yKeepU u (mk % 100) b (u 7 b)) h6 h0 (show yH u r ≤ 8 by omega) hu
  · intro P hP
    obtain ⟨⟨q6, q7, q8⟩, qg⟩ := back_lift (u := yKeepU u (mk % 100) b (u 7 b)) (g := g) (b := b) (r := r) h6 h0 (show yH u r ≤ 8 by omega) e7 h8 hg
    refine ⟨hb, Or.inr (Or.inl ⟨r, e7, hr, ?_, ?_, ?_, ?_⟩)⟩
    · exact pk_us
    · omega
    · rw [qg]
      exact hu.congr q6 (Nat.le_refl _) (fun _ _ => rfl)
    · rw [qg]
      exact hP _ q6 q7 q8
/-- the box b, on top of row r, goes onto row r2 -/
theorem rlm.shift {b r r2 : Nat} (h : rlm n t u g v T mk k) (hm : mk < 2 ^ 30) (hb : b < T) (hr : r < n) (hr2 : r2 < n) (hne : r2 ≠ r) (e7 : u 7 b = nI r) (h0 : 0 < yH u r) (hg : g r (yH u r - 1) = nI b) (h02 : yH u r2 < t) (hz : ∀ j, j < yH u r2 → u 1 (yB g r2 j) = u 1 b) : rlm n t (yLayU (yLiftU (yKeepU u (mk % 100) b (u 7 b)) b r) b r2) (yLayG (yLiftU (yKeepU u (mk % 100) b (u 7 b)) b r) (yLiftG (yKeepU u (mk % 100) b (u 7 b)) g r) b r2) (mMv v T k b (nI r2)) T (mk + 1) (kMin k) := by
  have ok := h.r.ok
  have hn := ok.hn
  have ht := ok.ht
  have hT6 := h.r.T6
  have h6 := ok.h6 hr
  have h62 := ok.h6 hr2
  have hh := ok.hh hr
  have hu := h.r.unn
  have hbq : yB g r (yH u r - 1) = b := by rw [yB, hg, nI_clamp (by omega)]
  have h8 : u 8 b = nI (yH u r - 1) := by
    have := ok.hb8 hr (show yH u r - 1 < yH u r by omega)
    rw [hbq] at this
    exact this
  have okl : yOK n t (yLiftU (yKeepU u (mk % 100) b (u 7 b)) b r) (yLiftG (yKeepU u (mk % 100) b (u 7 b)) g r) := yOK_lift (yOK_keep ok) (by omega) hr e7 h0 hg
  have eH : yH (yLiftU (yKeepU u (mk % 100) b (u 7 b)) b r) r = yH u r - 1 := yH_liftS (u := yKeepU u (mk % 100) b (u 7 b)) h6 h0 (show yH u r ≤ 8 by omega)
  have eH2 : yH (yLiftU (yKeepU u (mk % 100) b (u 7 b)) b r) r2 = yH u r2 := yH_lift hne
  have l6 := okl.h6 hr2
  have l7 : yLiftU (yKeepU u (mk % 100) b (u 7 b)) b r 7 b = -1 := pk_us
  have l8 : yLiftU (yKeepU u (mk % 100) b (u 7 b)) b r 8 b = -1 := pk_us
  have lg := okl.hno hr2 (Nat.le_refl _) (by rw [eH2]; exact h02)
  have lu := uni.lift (u := yKeepU u (mk % 100) b (u 7 b)) (b := b) h6 h0 (show yH u r ≤ 8 by omega) hu
  refine h.push hm hb (yOK_lay okl hT6 h.r.u0 hb hr2 l7 (by rw [eH2]; exact h02)) (fun i a6 a7 a8 => (yLay_ne a6 a7 a8).trans (yLift_ne a6 a7 a8)) ?_ ?_ ?_
  · intro c hc
    rw [mMv_7, mMv_8, if_pos (y_ge0 (by omega)), h.r.ht hr2]
    show upd (v 7) b (nI r2) c = upd (upd (u 7) b (-1)) b (nI r2) c ∧ upd (v 8) b (nI (yH u r2)) c = upd (upd (u 8) b (-1)) b (nI (yH (yLiftU (yKeepU u (mk % 100) b (u 7 b)) b r) r2)) c
    rw [eH2]
    by_cases q : c = b
    · subst q
      rw [pk_us, pk_us, pk_us, pk_us]
      exact ⟨rfl, rfl⟩
    · rw [pk_un q, pk_un q, pk_un q, pk_un q, pk_un q, pk_un q]
      exact ⟨h.r.v7 hc, h.r.v8 hc⟩
  · refine uni.lay l6 (by omega) hT6 hb (fun j hj => ?_) lu
    rw [eH2] at hj
    have : yB (yLiftG (yKeepU u (mk % 100) b (u 7 b)) g r) r2 j = yB g r2 j := by
      rw [yLiftG, yB_at, if_neg (fun z => hne z.1)]
    rw [this]
    exact hz j hj
  · intro P hP
    obtain ⟨⟨p6, p7, p8⟩, pg⟩ := back_lay (u := yLiftU (yKeepU u (mk % 100) b (u 7 b)) b r) (g := yLiftG (yKeepU u (mk % 100) b (u 7 b)) g r) (b := b) (r := r2) l6 (by omega) l7 l8 lg
    obtain ⟨⟨q6, q7, q8⟩, qg⟩ := back_lift (u := yKeepU u (mk % 100) b (u 7 b)) (g := g) (b := b) (r := r) h6 h0 (show yH u r ≤ 8 by omega) e7 h8 hg
    obtain ⟨⟨s6, s7, s8⟩, sg⟩ := lay_same (g := yLiftG (yKeepU u (mk % 100) b (u 7 b)) g r) (b := b) (r := r) p6 p7 p8
    have eL : yH (yLayU (yLiftU (yKeepU u (mk % 100) b (u 7 b)) b r) b r2) r2 = yH u r2 + 1 := by rw [yH_layS l6 (by omega), eH2]
    refine ⟨hb, Or.inr (Or.inr ⟨r2, r, e7, hr2, hr, fun q => hne q.symm, ?_, ?_, ?_, ?_, ?_, ?_⟩)⟩
    · exact pk_us
    · omega
    · rw [eL, Nat.add_sub_cancel, yLayG, eH2, mu_at, if_pos ⟨rfl, rfl⟩]
    · rw [yH_layN (fun q => hne q.symm), eH]
      omega
    · rw [pg, sg, qg]
      exact hu.congr (s6.trans q6) (Nat.le_refl _) (fun _ _ => rfl)
    · rw [pg, sg, qg]
      exact hP _ (s6.trans q6) (s7.trans q7) (s8.trans q8)
end REL5

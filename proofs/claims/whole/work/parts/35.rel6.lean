section REL6
variable {n t : Nat} {u g v : Nat → Nat → Int32} {T mk k : Nat} {B : Int32}
/-- a rule that isn't broken: there is room, and the boxes there are of its size -/
theorem rl.rule0 {b r : Nat} (h : rl n t u g v T) (hr : r < n) (hz : yRule t B u g b r = 0) : yH u r < t ∧ ∀ j, j < yH u r → u 1 (yB g r j) = u 1 b := by
  have hn := h.ok.hn
  have ht := h.ok.ht
  have hh := h.ok.hh hr
  have h6 := h.ok.h6 hr
  unfold yRule at hz
  split at hz
  · exact absurd hz (by decide)
  split at hz
  · exact absurd hz (by decide)
  rename_i _ h2
  split at hz
  · exact absurd hz (by decide)
  split at hz
  · exact absurd hz (by decide)
  rename_i _ h4
  refine ⟨?_, fun j hj => ?_⟩
  · have h2 := Decidable.not_not.mp h2
    rw [h6, nI_ltI (by omega) (by omega)] at h2
    exact h2
  · have hne : ¬ yTop u g r = -1 := by rw [h.topN hr]; omega
    obtain ⟨a0, a1, a2⟩ := yTop_some h.ok hr hne
    have : u 1 (yTop u g r).toNatClampNeg = u 1 b := Decidable.not_not.mp (fun q => h4 ⟨hne, q⟩)
    rw [a2, nI_clamp (by omega)] at this
    rw [h.un hr hj (show yH u r - 1 < yH u r by omega)]
    exact this
theorem mHt_off {b : Nat} {x y : Int32} (h1 : ¬ v 7 b = x) (h2 : ¬ y = x) : mHt (mu v 7 b y) x T = mHt v x T := by
  refine cnt_congr (fun c _ => ?_)
  rw [mu_at]
  by_cases q : c = b
  · subst q
    rw [if_pos ⟨rfl, rfl⟩]
    simp [h1, h2]
  · rw [if_neg (fun z => q z.2)]
theorem mHt_thr {x : Int32} {v2 : Nat → Nat → Int32} (h : v2 7 = v 7) : mHt v2 x T = mHt v x T := by rw [mHt, h, mHt]
def mUn (v : Nat → Nat → Int32) (T b : Nat) (x : Int32) : Nat → Nat → Int32 := mGoes (mu (mu (mu (mu v 0 3 0) 0 2 (v 0 2 - 1)) 0 1 (v 0 1 - 1)) 7 b (-1)) T b x
theorem mUn_7 {b : Nat} {x : Int32} : mUn v T b x 7 = upd (upd (v 7) b (-1)) b x := rfl
theorem mUn_8 {b : Nat} {x : Int32} : mUn v T b x 8 = upd (v 8) b (if 0 ≤ x then nI (mHt (mu v 7 b (-1)) x T) else -1) := rfl
theorem mUn_a {b : Nat} {x : Int32} {i : Nat} (h0 : i ≠ 0) (h7 : i ≠ 7) (h8 : i ≠ 8) : mUn v T b x i = v i := by
  rw [mUn, mGoes, mu_ne _ _ _ h7, mu_ne _ _ _ h8, mu_ne _ _ _ h7, mu_ne _ _ _ h0, mu_ne _ _ _ h0, mu_ne _ _ _ h0]
theorem yDrop_ne {i : Nat} (h0 : i ≠ 0) : yDropU u i = u i := by
  rw [yDropU, mu_ne _ _ _ h0, mu_ne _ _ _ h0]
/-- a move is undone -/
theorem rlm.pop {u2 g2 : Nat → Nat → Int32} {b : Nat} {x : Int32} (h : rlm n t u g v T (mk + 1) (k + 1)) (hok : yOK n t u2 g2) (hu : ∀ i, i ≠ 6 → i ≠ 7 → i ≠ 8 → u2 i = yDropU u i)
    (h78 : ∀ c, c < T → mUn v T b x 7 c = u2 7 c ∧ mUn v T b x 8 c = u2 8 c) (hun : uni n T (u 1) u2 g2) (hh : hV n t T (u 1) (v 9) (v 10) k u2 g2) : rlm n t u2 g2 (mUn v T b x) T mk k := by
  obtain ⟨h1, h2, h3, h4, h5, h6, h7, h8, h9⟩ := h
  have u0 : u2 0 = yDropU u 0 := hu 0 (by decide) (by decide) (by decide)
  have u9 : u2 9 = u 9 := hu 9 (by decide) (by decide) (by decide)
  have u10 : u2 10 = u 10 := hu 10 (by decide) (by decide) (by decide)
  have u1 : u2 1 = u 1 := hu 1 (by decide) (by decide) (by decide)
  have s1 : ∀ q : Nat, nI (q + 1) - 1 = nI q := fun q => by rw [← nI_1]; grind
  refine ⟨?_, by omega, by omega, ?_, ?_, ?_, ?_, ?_, ?_⟩
  · exact h1.mk2 hok (by rw [u0]; rfl) (fun i a0 a6 a7 a8 a9 a10 => (hu i a6 a7 a8).trans (yDrop_ne a0)) rfl (fun i a0 a6 a7 a8 a9 a10 => mUn_a a0 a7 a8) h78 hun
  · rw [u0]
    show u 0 1 - 1 = nI mk
    rw [h4, s1]
  · show v 0 1 - 1 = nI mk
    rw [h5, s1]
  · rw [u0]
    show u 0 2 - 1 = nI k
    rw [h6, s1]
  · show v 0 2 - 1 = nI k
    rw [h7, s1]
  · intro i hi
    have w := h8 (i + 1) (by omega)
    rw [show mk + 1 - 1 - (i + 1) = mk - 1 - i by omega, show k + 1 - 1 - (i + 1) = k - 1 - i by omega] at w
    rw [u9, u10]
    exact w
  · rw [u1]
    exact hh
theorem rlm.undo (h : rlm n t u g v T (mk + 1) (k + 1)) : ∃ b, b < T ∧ u 9 (mk % 100) = nI b ∧ v 9 k = nI b ∧ u 10 (mk % 100) = v 10 k ∧
    ((∃ r, v 10 k = -1 ∧ r < n ∧ u 7 b = nI r ∧ 0 < yH u r ∧ rlm n t (yLiftU (yDropU u) b r) (yLiftG (yDropU u) g r) (mUn v T b (-1)) T mk k)
    ∨ (∃ r, v 10 k = nI r ∧ r < n ∧ u 7 b = -1 ∧ yH u r < t ∧ rlm n t (yLayU (yDropU u) b r) (yLayG (yDropU u) g b r) (mUn v T b (nI r)) T mk k)
    ∨ (∃ r r2, v 10 k = nI r2 ∧ r < n ∧ r2 < n ∧ r2 ≠ r ∧ u 7 b = nI r ∧ 0 < yH u r ∧ yH u r2 < t ∧ rlm n t (yLayU (yLiftU (yDropU u) b r) b r2) (yLayG (yLiftU (yDropU u) b r) (yLiftG (yDropU u) g r) b r2) (mUn v T b (nI r2)) T mk k)) := by
  have hr0 := h.r
  have ok := hr0.ok
  have hn := ok.hn
  have ht := ok.ht
  have hT6 := hr0.T6
  obtain ⟨b, hb, hbT, hc⟩ := h.2.2.2.2.2.2.2.2
  have w := h.2.2.2.2.2.2.2.1 0 (by omega)
  rw [show mk + 1 - 1 - 0 = mk by omega, show k + 1 - 1 - 0 = k by omega] at w
  refine ⟨b, hbT, w.1.trans hb, hb, w.2, ?_⟩
  rcases hc with ⟨r, a1, a2, a3, a4, a5, a6, a7⟩ | ⟨r, a1, a2, a3, a4, a5, a6⟩ | ⟨r, r2, a1, a2, a3, a4, a5, a6, a7, a8, a9, a10⟩
  · refine Or.inl ⟨r, a1, a2, a3, a4, ?_⟩
    refine h.pop (yOK_lift (yOK_drop ok) (by omega) a2 a3 a4 a5) (fun i q6 q7 q8 => yLift_ne q6 q7 q8) ?_ (a6.congr rfl (Nat.le_refl _) (fun _ _ => rfl)) (hV.congr (u := yLiftU u b r) (Nat.le_refl _) (fun _ _ => rfl) (fun i _ => ⟨rfl, rfl⟩) rfl rfl rfl a7)
    intro c hc
    rw [mUn_7, mUn_8, if_neg y_nge]
    show upd (upd (v 7) b (-1)) b (-1) c = upd (u 7) b (-1) c ∧ upd (v 8) b (-1) c = upd (u 8) b (-1) c
    by_cases q : c = b
    · subst q
      rw [pk_us, pk_us, pk_us, pk_us]
      exact ⟨rfl, rfl⟩
    · rw [pk_un q, pk_un q, pk_un q, pk_un q, pk_un q]
      exact ⟨hr0.v7 hc, hr0.v8 hc⟩
  · refine Or.inr (Or.inl ⟨r, a1, a2, a3, a4, ?_⟩)
    refine h.pop (yOK_lay (yOK_drop ok) hT6 hr0.u0 hbT a2 a3 a4) (fun i q6 q7 q8 => yLay_ne q6 q7 q8) ?_ (a5.congr rfl (Nat.le_refl _) (fun _ _ => rfl)) (hV.congr (u := yLayU u b r) (Nat.le_refl _) (fun _ _ => rfl) (fun i _ => ⟨rfl, rfl⟩) rfl rfl rfl a6)
    intro c hc
    have hne : ¬ v 7 b = nI r := by rw [hr0.v7 hbT, a3]; exact fun q => y_m1 (show r < 2 ^ 31 by omega) q.symm
    rw [mUn_7, mUn_8, if_pos (y_ge0 (by omega)), mHt_off hne (fun q => y_m1 (show r < 2 ^ 31 by omega) q.symm), hr0.ht a2]
    show upd (upd (v 7) b (-1)) b (nI r) c = upd (u 7) b (nI r) c ∧ upd (v 8) b (nI (yH u r)) c = upd (u 8) b (nI (yH u r)) c
    by_cases q : c = b
    · subst q
      rw [pk_us, pk_us, pk_us, pk_us]
      exact ⟨rfl, rfl⟩
    · rw [pk_un q, pk_un q, pk_un q, pk_un q, pk_un q]
      exact ⟨hr0.v7 hc, hr0.v8 hc⟩
  · refine Or.inr (Or.inr ⟨r, r2, a1, a2, a3, a4, a5, a6, a8, ?_⟩)
    have eH2 : yH (yLiftU (yDropU u) b r) r2 = yH u r2 := yH_lift a4
    refine h.pop (yOK_lay (yOK_lift (yOK_drop ok) (by omega) a2 a5 a6 a7) hT6 hr0.u0 hbT a3 pk_us (by rw [eH2]; exact a8)) (fun i q6 q7 q8 => (yLay_ne q6 q7 q8).trans (yLift_ne q6 q7 q8)) ?_ (a9.congr rfl (Nat.le_refl _) (fun _ _ => rfl)) (hV.congr (u := yLayU (yLiftU u b r) b r2) (Nat.le_refl _) (fun _ _ => rfl) (fun i _ => ⟨rfl, rfl⟩) rfl rfl rfl a10)
    intro c hc
    have hne : ¬ v 7 b = nI r2 := by rw [hr0.v7 hbT, a5]; exact fun q => a4 ((nI_eq (by omega) (by omega)).mp q).symm
    rw [mUn_7, mUn_8, if_pos (y_ge0 (by omega)), mHt_off hne (fun q => y_m1 (show r2 < 2 ^ 31 by omega) q.symm), hr0.ht a3]
    show upd (upd (v 7) b (-1)) b (nI r2) c = upd (upd (u 7) b (-1)) b (nI r2) c ∧ upd (v 8) b (nI (yH u r2)) c = upd (upd (u 8) b (-1)) b (nI (yH (yLiftU (yDropU u) b r) r2)) c
    rw [eH2]
    by_cases q : c = b
    · subst q
      rw [pk_us, pk_us, pk_us, pk_us]
      exact ⟨rfl, rfl⟩
    · rw [pk_un q, pk_un q, pk_un q, pk_un q, pk_un q, pk_un q, pk_un q]
      exact ⟨hr0.v7 hc, hr0.v8 hc⟩
/-- a box is told -/
theorem rlm.tell {x1 x2 x3 x4 x5 : Int32} (h : rlm n t u g v T mk k) (hT : T < 60) : rlm n t (yTellU u T x1 x2 x3 x4 x5) g (mTellU v T x1 x2 x3 x4 x5) (T + 1) mk k := by
  obtain ⟨h1, h2, h3, h4, h5, h6, h7, h8, h9⟩ := h
  have e0 : yTellU u T x1 x2 x3 x4 x5 0 0 = nI (T + 1) := by
    show u 0 0 + 1 = _
    rw [h1.u0, nI_1]
  have ok := h1.ok
  have hun := h1.unn
  have hT7 : u 7 T = -1 := by
    by_cases q : u 7 T = -1
    · exact q
    · exact absurd (h1.st hT q) (Nat.lt_irrefl _)
  refine ⟨⟨⟨ok.1, ok.2.1, ok.2.2.1, ok.2.2.2.1, ok.2.2.2.2.1, ok.2.2.2.2.2.1, T + 1, by omega, e0, fun b hb hs => Nat.lt_succ_of_lt (h1.st hb hs)⟩, h1.n0, by omega, e0, ?_, ?_, ?_, ?_, ?_⟩, h2, h3, h4, h5, h6, h7, h8, ?_⟩
  · show v 0 0 + 1 = _
    rw [h1.v0, nI_1]
  · intro b hb
    show upd (v 7) T (-1) b = u 7 b ∧ upd (v 8) T (-1) b = u 8 b
    by_cases q : b = T
    · subst q
      rw [pk_us, pk_us, hT7, ok.h8 hT hT7]
      exact ⟨rfl, rfl⟩
    · rw [pk_un q, pk_un q]
      exact ⟨h1.v7 (by omega), h1.v8 (by omega)⟩
  · intro i b q1 q2
    have hv := fun i q1 q2 => h1.va (i := i) (b := b) q1 q2
    rcases (show i = 1 ∨ i = 2 ∨ i = 3 ∨ i = 4 ∨ i = 5 by omega) with rfl | rfl | rfl | rfl | rfl
    · show upd (v 1) T x1 b = upd (u 1) T x1 b
      by_cases q : b = T
      · rw [q, pk_us, pk_us]
      · rw [pk_un q, pk_un q]; exact hv 1 (by decide) (by decide)
    · show upd (v 2) T x2 b = upd (u 2) T x2 b
      by_cases q : b = T
      · rw [q, pk_us, pk_us]
      · rw [pk_un q, pk_un q]; exact hv 2 (by decide) (by decide)
    · show upd (v 3) T x3 b = upd (u 3) T x3 b
      by_cases q : b = T
      · rw [q, pk_us, pk_us]
      · rw [pk_un q, pk_un q]; exact hv 3 (by decide) (by decide)
    · show upd (v 4) T x4 b = upd (u 4) T x4 b
      by_cases q : b = T
      · rw [q, pk_us, pk_us]
      · rw [pk_un q, pk_un q]; exact hv 4 (by decide) (by decide)
    · show upd (v 5) T x5 b = upd (u 5) T x5 b
      by_cases q : b = T
      · rw [q, pk_us, pk_us]
      · rw [pk_un q, pk_un q]; exact hv 5 (by decide) (by decide)
  · exact fun r hr => ⟨h1.v11 hr, h1.v12 hr, h1.p12 hr⟩
  · intro r i j hr hi hj
    show upd (u 1) T x1 (yB g r i) = upd (u 1) T x1 (yB g r j)
    have a := h1.qT hr hi
    have b := h1.qT hr hj
    rw [pk_un (by omega), pk_un (by omega)]
    exact h1.un hr hi hj
  · refine hV.congr (u := u) (sz := u 1) (f9 := v 9) (f10 := v 10) (Nat.le_succ _) (fun b hb => ?_) (fun i _ => ⟨rfl, rfl⟩) rfl rfl rfl h9
    show upd (u 1) T x1 b = u 1 b
    exact pk_un (by omega)
/-- a row's ground -/
theorem rlm.gnd {r : Nat} {x : Int32} (h : rlm n t u g v T mk k) : rlm n t (mu u 11 r x) g (mu v 11 r x) T mk k := by
  obtain ⟨h1, h2, h3, h4, h5, h6, h7, h8, h9⟩ := h
  refine ⟨⟨h1.ok, h1.n0, h1.T6, h1.u0, h1.v0, fun b hb => ⟨h1.v7 hb, h1.v8 hb⟩, fun i b q1 q2 => ?_, fun r2 hr2 => ⟨?_, h1.v12 hr2, h1.p12 hr2⟩, fun r i j hr hi hj => h1.un hr hi hj⟩, h2, h3, h4, h5, h6, h7, h8, ?_⟩
  · rw [mu_ne _ _ _ (by omega), mu_ne _ _ _ (by omega)]
    exact h1.va q1 q2
  · rw [mu_at, mu_at, h1.v11 hr2]
  · exact hV.congr (u := u) (sz := u 1) (f9 := v 9) (f10 := v 10) (Nat.le_refl _) (fun _ _ => rfl) (fun i _ => ⟨rfl, rfl⟩) rfl rfl rfl h9
/-- a row is reserved -/
theorem rlm.res {r : Nat} {x : Int32} (h : rlm n t u g v T mk k) (hx : 0 ≤ x) : rlm n t (mu u 12 r x) g (mu v 12 r x) T mk k := by
  obtain ⟨h1, h2, h3, h4, h5, h6, h7, h8, h9⟩ := h
  refine ⟨⟨h1.ok, h1.n0, h1.T6, h1.u0, h1.v0, fun b hb => ⟨h1.v7 hb, h1.v8 hb⟩, fun i b q1 q2 => ?_, fun r2 hr2 => ⟨h1.v11 hr2, ?_, ?_⟩, fun r i j hr hi hj => h1.un hr hi hj⟩, h2, h3, h4, h5, h6, h7, h8, ?_⟩
  · rw [mu_ne _ _ _ (by omega), mu_ne _ _ _ (by omega)]
    exact h1.va q1 q2
  · rw [mu_at, mu_at, h1.v12 hr2]
  · rw [mu_at]
    split
    · exact hx
    · exact h1.p12 hr2
  · exact hV.congr (u := u) (sz := u 1) (f9 := v 9) (f10 := v 10) (Nat.le_refl _) (fun _ _ => rfl) (fun i _ => ⟨rfl, rfl⟩) rfl rfl rfl h9
theorem rl.oth {r : Nat} {x : Int32} (h : rl n t u g v T) (hr : r < n) : yAny (fun k => decide (v 7 k = nI r ∧ ¬ v 4 k = x)) T = yOther u g r x := by
  have e : yAny (fun k => decide (v 7 k = nI r ∧ ¬ v 4 k = x)) T = true ↔ yOther u g r x = true := by
    rw [yAny_iff, yOther, yAny_iff]
    constructor
    · rintro ⟨k, hk, hp⟩
      obtain ⟨p1, p2⟩ := of_decide_eq_true hp
      obtain ⟨j, h3, h4, h5⟩ := h.att hr hk p1
      refine ⟨j, h3, decide_eq_true ?_⟩
      rw [← h5, ← h.va (i := 4) (by decide) (by decide)]
      exact p2
    · rintro ⟨j, hj, hp⟩
      have hq := h.qT hr hj
      refine ⟨yB g r j, hq, decide_eq_true ⟨(h.v7 hq).trans (h.ok.hb7 hr hj), ?_⟩⟩
      rw [h.va (i := 4) (by decide) (by decide)]
      exact of_decide_eq_true hp
  cases hq : yOther u g r x
  · rw [hq] at e
    exact Bool.eq_false_iff.mpr (fun w => Bool.noConfusion (e.mp w))
  · exact e.mpr hq
end REL6

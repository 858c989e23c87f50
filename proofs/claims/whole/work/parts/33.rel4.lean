section REL4
variable {n t : Nat} {u g v : Nat → Nat → Int32} {T : Nat} {B : Int32}
theorem yH_layS {b r : Nat} (h6 : u 6 r = nI (yH u r)) (hh : yH u r < 8) : yH (yLayU u b r) r = yH u r + 1 := by
  show (upd (u 6) r (u 6 r + 1) r).toNatClampNeg = _
  rw [pk_us, h6, nI_1, nI_clamp (by omega)]
theorem yH_layN {b r r2 : Nat} (hne : r2 ≠ r) : yH (yLayU u b r) r2 = yH u r2 := by
  show (upd (u 6) r (u 6 r + 1) r2).toNatClampNeg = _
  rw [pk_un hne, yH]
theorem yH_liftS {b r : Nat} (h6 : u 6 r = nI (yH u r)) (h0 : 0 < yH u r) (hh : yH u r ≤ 8) : yH (yLiftU u b r) r = yH u r - 1 := by
  show (upd (u 6) r (u 6 r - 1) r).toNatClampNeg = _
  rw [pk_us, h6, show nI (yH u r) - 1 = nI (yH u r - 1) from pk_sub (b := 1) (by omega), nI_clamp (by omega)]
theorem yB_at {r k r2 j : Nat} {x : Int32} : yB (mu g r k x) r2 j = if r2 = r ∧ j = k then x.toNatClampNeg else yB g r2 j := by
  rw [yB, mu_at]
  split
  · rfl
  · rfl
theorem yOK_lay {b r : Nat} (h : yOK n t u g) (hT6 : T ≤ 60) (e0 : u 0 0 = nI T) (hb : b < T) (hr : r < n) (hs : u 7 b = -1) (h0 : yH u r < t) : yOK n t (yLayU u b r) (yLayG u g b r) := by
  have hn := h.hn
  have ht := h.ht
  have h6 := h.h6 hr
  have hS : yH (yLayU u b r) r = yH u r + 1 := yH_layS h6 (by omega)
  have e6 : ∀ x, yLayU u b r 6 x = if x = r then nI (yH u r + 1) else u 6 x := fun x => by
    show upd (u 6) r (u 6 r + 1) x = _
    by_cases q : x = r
    · rw [q, pk_us, if_pos rfl, h6, nI_1]
    · rw [pk_un q, if_neg q]
  have e7 : ∀ x, yLayU u b r 7 x = if x = b then nI r else u 7 x := fun x => by
    show upd (u 7) b (nI r) x = _
    by_cases q : x = b
    · rw [q, pk_us, if_pos rfl]
    · rw [pk_un q, if_neg q]
  have e8 : ∀ x, yLayU u b r 8 x = if x = b then nI (yH u r) else u 8 x := fun x => by
    show upd (u 8) b (nI (yH u r)) x = _
    by_cases q : x = b
    · rw [q, pk_us, if_pos rfl]
    · rw [pk_un q, if_neg q]
  have eg : ∀ x j, yLayG u g b r x j = if x = r ∧ j = yH u r then nI b else g x j := fun x j => mu_at _ _ _ _ _ _
  have eB : ∀ x j, yB (yLayG u g b r) x j = if x = r ∧ j = yH u r then b else yB g x j := fun x j => by
    rw [yLayG, yB_at, nI_clamp (by omega)]
  have hnb : ∀ x j, x < n → j < yH u x → yB g x j ≠ b := fun x j h1 h2 q => by
    have a := h.hb7 h1 h2
    rw [q, hs] at a
    exact y_m1 (show x < 2 ^ 31 by omega) a.symm
  refine ⟨hn, ht, fun r2 hr2 => ?_, fun r2 j hr2 hj => ?_, fun b2 hb2 => ?_, fun r2 j hr2 h1 h2 => ?_, ?_⟩
  · by_cases q : r2 = r
    · subst q
      rw [hS, e6, if_pos rfl]
      exact ⟨rfl, by omega⟩
    · rw [yH_layN q, e6, if_neg q]
      exact ⟨h.h6 hr2, h.hh hr2⟩
  · by_cases q : r2 = r ∧ j = yH u r
    · rw [eg, eB, if_pos q, if_pos q, e7, e8, if_pos rfl, if_pos rfl, q.1, q.2]
      exact ⟨rfl, by omega, rfl, rfl⟩
    · have hj2 : j < yH u r2 := by
        by_cases w : r2 = r
        · subst w
          rw [hS] at hj
          have : j ≠ yH u r2 := fun z => q ⟨rfl, z⟩
          omega
        · rw [yH_layN w] at hj
          exact hj
      rw [eg, eB, if_neg q, if_neg q, e7, e8, if_neg (hnb r2 j hr2 hj2), if_neg (hnb r2 j hr2 hj2)]
      exact ⟨h.hg hr2 hj2, h.hb hr2 hj2, h.hb7 hr2 hj2, h.hb8 hr2 hj2⟩
  · by_cases q : b2 = b
    · refine Or.inr ⟨r, yH u r, hr, by omega, ?_, ?_, ?_⟩
      · rw [e7, if_pos q]
      · rw [e8, if_pos q]
      · rw [eg, if_pos ⟨rfl, rfl⟩, q]
    · rw [e7, e8, if_neg q, if_neg q]
      rcases h.2.2.2.2.1 b2 hb2 with w | ⟨r2, k, w1, w2, w3, w4, w5⟩
      · exact Or.inl w
      · refine Or.inr ⟨r2, k, w1, ?_, w3, w4, ?_⟩
        · by_cases z : r2 = r
          · subst z; omega
          · rw [yH_layN z]; exact w2
        · rw [eg, if_neg (fun z => by have := z.1; subst this; omega)]
          exact w5
  · by_cases q : r2 = r
    · subst q
      rw [eg, if_neg (fun z => by omega)]
      exact h.hno hr2 (by omega) h2
    · rw [yH_layN q] at h1
      rw [eg, if_neg (fun z => q z.1)]
      exact h.hno hr2 h1 h2
  · refine ⟨T, hT6, e0, fun b2 hb2 hne => ?_⟩
    rw [e7] at hne
    by_cases q : b2 = b
    · omega
    · rw [if_neg q] at hne
      obtain ⟨T2, w1, w2, w3⟩ := h.hT
      have : T2 = T := (nI_eq (by omega) (by omega)).mp (w2.symm.trans e0)
      rw [← this]
      exact w3 b2 hb2 hne
theorem yOK_lift {b r : Nat} (h : yOK n t u g) (hb : b < 60) (hr : r < n) (h7 : u 7 b = nI r) (h0 : 0 < yH u r) (ht0 : g r (yH u r - 1) = nI b) : yOK n t (yLiftU u b r) (yLiftG u g r) := by
  have hn := h.hn
  have ht := h.ht
  have h6 := h.h6 hr
  have hh := h.hh hr
  have hS : yH (yLiftU u b r) r = yH u r - 1 := yH_liftS h6 h0 (by omega)
  have hbq : yB g r (yH u r - 1) = b := by rw [yB, ht0, nI_clamp (by omega)]
  have h8 : u 8 b = nI (yH u r - 1) := by
    have := h.hb8 hr (show yH u r - 1 < yH u r by omega)
    rw [hbq] at this
    exact this
  have e6 : ∀ x, yLiftU u b r 6 x = if x = r then nI (yH u r - 1) else u 6 x := fun x => by
    show upd (u 6) r (u 6 r - 1) x = _
    by_cases q : x = r
    · rw [q, pk_us, if_pos rfl, h6, show nI (yH u r) - 1 = nI (yH u r - 1) from pk_sub (b := 1) (by omega)]
    · rw [pk_un q, if_neg q]
  have e7 : ∀ x, yLiftU u b r 7 x = if x = b then -1 else u 7 x := fun x => by
    show upd (u 7) b (-1) x = _
    by_cases q : x = b
    · rw [q, pk_us, if_pos rfl]
    · rw [pk_un q, if_neg q]
  have e8 : ∀ x, yLiftU u b r 8 x = if x = b then -1 else u 8 x := fun x => by
    show upd (u 8) b (-1) x = _
    by_cases q : x = b
    · rw [q, pk_us, if_pos rfl]
    · rw [pk_un q, if_neg q]
  have eg : ∀ x j, yLiftG u g r x j = if x = r ∧ j = yH u r - 1 then -1 else g x j := fun x j => mu_at _ _ _ _ _ _
  have eB : ∀ x j, ¬ (x = r ∧ j = yH u r - 1) → yB (yLiftG u g r) x j = yB g x j := fun x j q => by
    rw [yLiftG, yB_at, if_neg q]
  refine ⟨hn, ht, fun r2 hr2 => ?_, fun r2 j hr2 hj => ?_, fun b2 hb2 => ?_, fun r2 j hr2 h1 h2 => ?_, ?_⟩
  · by_cases q : r2 = r
    · subst q
      rw [hS, e6, if_pos rfl]
      exact ⟨rfl, by omega⟩
    · rw [yH_lift q, e6, if_neg q]
      exact ⟨h.h6 hr2, h.hh hr2⟩
  · have hj2 : j < yH u r2 ∧ ¬ (r2 = r ∧ j = yH u r - 1) := by
      by_cases w : r2 = r
      · subst w
        rw [hS] at hj
        exact ⟨by omega, fun z => by omega⟩
      · rw [yH_lift w] at hj
        exact ⟨hj, fun z => w z.1⟩
    have hnb : yB g r2 j ≠ b := fun q => by
      have a := h.hb7 hr2 hj2.1
      have a8 := h.hb8 hr2 hj2.1
      rw [q, h7] at a
      rw [q, h8] at a8
      have hh2 := h.hh hr2
      exact hj2.2 ⟨((nI_eq (by omega) (by omega)).mp a).symm, ((nI_eq (by omega) (by omega)).mp a8).symm⟩
    rw [eg, eB _ _ hj2.2, if_neg hj2.2, e7, e8, if_neg hnb, if_neg hnb]
    exact ⟨h.hg hr2 hj2.1, h.hb hr2 hj2.1, h.hb7 hr2 hj2.1, h.hb8 hr2 hj2.1⟩
  · by_cases q : b2 = b
    · exact Or.inl ⟨by rw [e7, if_pos q], by rw [e8, if_pos q]⟩
    · rw [e7, e8, if_neg q, if_neg q]
      rcases h.2.2.2.2.1 b2 hb2 with w | ⟨r2, k, w1, w2, w3, w4, w5⟩
      · exact Or.inl w
      · have hne : ¬ (r2 = r ∧ k = yH u r - 1) := fun z => by
          rw [z.1, z.2, ht0] at w5
          exact q ((nI_eq (by omega) (by omega)).mp w5).symm
        refine Or.inr ⟨r2, k, w1, ?_, w3, w4, ?_⟩
        · by_cases z : r2 = r
          · subst z
            have : k ≠ yH u r2 - 1 := fun z => hne ⟨rfl, z⟩
            omega
          · rw [yH_lift z]; exact w2
        · rw [eg, if_neg hne]
          exact w5
  · by_cases q : r2 = r
    · subst q
      rw [eg]
      by_cases z : r2 = r2 ∧ j = yH u r2 - 1
      · rw [if_pos z]
      · rw [if_neg z]
        have : j ≠ yH u r2 - 1 := fun w => z ⟨rfl, w⟩
        exact h.hno hr2 (by omega) h2
    · rw [yH_lift q] at h1
      rw [eg, if_neg (fun z => q z.1)]
      exact h.hno hr2 h1 h2
  · obtain ⟨T2, w1, w2, w3⟩ := h.hT
    refine ⟨T2, w1, w2, fun b2 hb2 hne => ?_⟩
    rw [e7] at hne
    by_cases q : b2 = b
    · rw [if_pos q] at hne
      exact absurd rfl hne
    · rw [if_neg q] at hne
      exact w3 b2 hb2 hne
/-- the boxes of the rows are told ones, those of a row are of one size -/
def uni (n T : Nat) (sz : Nat → Int32) (u g : Nat → Nat → Int32) : Prop := ∀ r i, r < n → i < yH u r → yB g r i < T ∧ ∀ j, j < yH u r → sz (yB g r i) = sz (yB g r j)
theorem uni.congr {u2 : Nat → Nat → Int32} {T2 : Nat} {sz sz2 : Nat → Int32} (h6 : u2 6 = u 6) (hT : T ≤ T2) (hs : ∀ b, b < T → sz2 b = sz b) (h : uni n T sz u g) : uni n T2 sz2 u2 g := by
  intro r i hr hi
  have e : yH u2 r = yH u r := by rw [yH, h6, yH]
  rw [e] at hi
  obtain ⟨h1, h2⟩ := h r i hr hi
  refine ⟨by omega, fun j hj => ?_⟩
  rw [e] at hj
  rw [hs _ h1, hs _ (h r j hr hj).1]
  exact h2 j hj
theorem uni.lift {b r : Nat} {sz : Nat → Int32} (h6 : u 6 r = nI (yH u r)) (h0 : 0 < yH u r) (hh : yH u r ≤ 8) (h : uni n T sz u g) : uni n T sz (yLiftU u b r) (yLiftG u g r) := by
  have hS : yH (yLiftU u b r) r = yH u r - 1 := yH_liftS h6 h0 hh
  have key : ∀ r2 i, i < yH (yLiftU u b r) r2 → i < yH u r2 ∧ yB (yLiftG u g r) r2 i = yB g r2 i := fun r2 i hi => by
    by_cases q : r2 = r
    · subst q
      rw [hS] at hi
      exact ⟨by omega, by rw [yLiftG, yB_at, if_neg (fun z => by omega)]⟩
    · rw [yH_lift q] at hi
      exact ⟨hi, by rw [yLiftG, yB_at, if_neg (fun z => q z.1)]⟩
  intro r2 i hr hi
  obtain ⟨a1, a2⟩ := key r2 i hi
  obtain ⟨h1, h2⟩ := h r2 i hr a1
  rw [a2]
  refine ⟨h1, fun j hj => ?_⟩
  obtain ⟨b1, b2⟩ := key r2 j hj
  rw [b2]
  exact h2 j b1
theorem uni.lay {b r : Nat} {sz : Nat → Int32} (h6 : u 6 r = nI (yH u r)) (hh : yH u r < 8) (hT6 : T ≤ 60) (hb : b < T) (hz : ∀ j, j < yH u r → sz (yB g r j) = sz b) (h : uni n T sz u g) : uni n T sz (yLayU u b r) (yLayG u g b r) := by
  have hS : yH (yLayU u b r) r = yH u r + 1 := yH_layS h6 hh
  have key : ∀ r2 i, i < yH (yLayU u b r) r2 → (r2 = r ∧ i = yH u r ∧ yB (yLayG u g b r) r2 i = b) ∨ (i < yH u r2 ∧ yB (yLayG u g b r) r2 i = yB g r2 i) := fun r2 i hi => by
    by_cases q : r2 = r
    · subst q
      rw [hS] at hi
      by_cases w : i = yH u r2
      · exact Or.inl ⟨rfl, w, by rw [yLayG, yB_at, if_pos ⟨rfl, w⟩, nI_clamp (by omega)]⟩
      · exact Or.inr ⟨by omega, by rw [yLayG, yB_at, if_neg (fun z => w z.2)]⟩
    · rw [yH_layN q] at hi
      exact Or.inr ⟨hi, by rw [yLayG, yB_at, if_neg (fun z => q z.1)]⟩
  intro r2 i hr hi
  rcases key r2 i hi with ⟨a0, a1, a2⟩ | ⟨a1, a2⟩
  · rw [a2]
    refine ⟨hb, fun j hj => ?_⟩
    rcases key r2 j hj with ⟨b0, b1, b2⟩ | ⟨b1, b2⟩
    · rw [b2]
    · rw [b2, a0]
      rw [a0] at b1
      exact (hz j b1).symm
  · rw [a2]
    obtain ⟨h1, h2⟩ := h r2 i hr a1
    refine ⟨h1, fun j hj => ?_⟩
    rcases key r2 j hj with ⟨b0, b1, b2⟩ | ⟨b1, b2⟩
    · rw [b2, b0]
      rw [b0] at a1
      exact hz i a1
    · rw [b2]
      exact h2 j b1
theorem upd_back {f : Nat → Int32} {i : Nat} {x y : Int32} (h : f i = y) : upd (upd f i x) i y = f := by
  funext j
  by_cases q : j = i
  · rw [q, pk_us, h]
  · rw [pk_un q, pk_un q]
theorem mu_back {f : Nat → Nat → Int32} {k i : Nat} {x y : Int32} (h : f k i = y) : mu (mu f k i x) k i y = f := by
  funext a j
  rw [mu_at, mu_at]
  by_cases q : a = k ∧ j = i
  · rw [if_pos q, q.1, q.2, h]
  · rw [if_neg q, if_neg q]
/-- laid and lifted again -/
theorem back_lay {b r : Nat} (h6 : u 6 r = nI (yH u r)) (hh : yH u r < 8) (h7 : u 7 b = -1) (h8 : u 8 b = -1) (hg : g r (yH u r) = -1) : (yLiftU (yLayU u b r) b r 6 = u 6 ∧ yLiftU (yLayU u b r) b r 7 = u 7 ∧ yLiftU (yLayU u b r) b r 8 = u 8) ∧ yLiftG (yLayU u b r) (yLayG u g b r) r = g := by
  refine ⟨⟨?_, ?_, ?_⟩, ?_⟩
  · show upd (upd (u 6) r (u 6 r + 1)) r (upd (u 6) r (u 6 r + 1) r - 1) = u 6
    rw [pk_us]
    exact upd_back (by grind)
  · show upd (upd (u 7) b (nI r)) b (-1) = u 7
    exact upd_back h7
  · show upd (upd (u 8) b (nI (yH u r))) b (-1) = u 8
    exact upd_back h8
  · rw [yLiftG, yH_layS h6 hh, yLayG, Nat.add_sub_cancel]
    exact mu_back hg
/-- lifted and laid again -/
theorem back_lift {b r : Nat} (h6 : u 6 r = nI (yH u r)) (h0 : 0 < yH u r) (hh : yH u r ≤ 8) (h7 : u 7 b = nI r) (h8 : u 8 b = nI (yH u r - 1)) (hg : g r (yH u r - 1) = nI b) : (yLayU (yLiftU u b r) b r 6 = u 6 ∧ yLayU (yLiftU u b r) b r 7 = u 7 ∧ yLayU (yLiftU u b r) b r 8 = u 8) ∧ yLayG (yLiftU u b r) (yLiftG u g r) b r = g := by
  refine ⟨⟨?_, ?_, ?_⟩, ?_⟩
  · show upd (upd (u 6) r (u 6 r - 1)) r (upd (u 6) r (u 6 r - 1) r + 1) = u 6
    rw [pk_us]
    exact upd_back (by grind)
  · show upd (upd (u 7) b (-1)) b (nI r) = u 7
    exact upd_back h7
  · show upd (upd (u 8) b (-1)) b (nI (yH (yLiftU u b r) r)) = u 8
    rw [yH_liftS h6 h0 hh]
    exact upd_back h8
  · rw [yLayG, yH_liftS h6 h0 hh, yLiftG]
    exact mu_back hg
theorem lay_same {u2 : Nat → Nat → Int32} {b r : Nat} (h6 : u2 6 = u 6) (h7 : u2 7 = u 7) (h8 : u2 8 = u 8) : (yLayU u2 b r 6 = yLayU u b r 6 ∧ yLayU u2 b r 7 = yLayU u b r 7 ∧ yLayU u2 b r 8 = yLayU u b r 8) ∧ yLayG u2 g b r = yLayG u g b r := by
  have e : yH u2 r = yH u r := by rw [yH, h6, yH]
  refine ⟨⟨?_, ?_, ?_⟩, ?_⟩
  · show upd (u2 6) r (u2 6 r + 1) = upd (u 6) r (u 6 r + 1)
    rw [h6]
  · show upd (u2 7) b (nI r) = upd (u 7) b (nI r)
    rw [h7]
  · show upd (u2 8) b (nI (yH u2 r)) = upd (u 8) b (nI (yH u r))
    rw [h8, e]
  · rw [yLayG, yLayG, e]
theorem lift_same {u2 : Nat → Nat → Int32} {b r : Nat} (h6 : u2 6 = u 6) (h7 : u2 7 = u 7) (h8 : u2 8 = u 8) : (yLiftU u2 b r 6 = yLiftU u b r 6 ∧ yLiftU u2 b r 7 = yLiftU u b r 7 ∧ yLiftU u2 b r 8 = yLiftU u b r 8) ∧ yLiftG u2 g r = yLiftG u g r := by
  have e : yH u2 r = yH u r := by rw [yH, h6, yH]
  refine ⟨⟨?_, ?_, ?_⟩, ?_⟩
  · show upd (u2 6) r (u2 6 r - 1) = upd (u 6) r (u 6 r - 1)
    rw [h6]
  · show upd (u2 7) b (-1) = upd (u 7) b (-1)
    rw [h7]
  · show upd (u2 8) b (-1) = upd (u 8) b (-1)
    rw [h8]
  · rw [yLiftG, yLiftG, e]
/-- a move of the box b from where it was, x, can be undone: what stands behind it is P -/
def hM (n t T : Nat) (sz : Nat → Int32) (P : (Nat → Nat → Int32) → (Nat → Nat → Int32) → Prop) (b : Nat) (x : Int32) (u g : Nat → Nat → Int32) : Prop :=
  b < T ∧ ((∃ r, x = -1 ∧ r < n ∧ u 7 b = nI r ∧ 0 < yH u r ∧ g r (yH u r - 1) = nI b ∧ uni n T sz (yLiftU u b r) (yLiftG u g r) ∧ P (yLiftU u b r) (yLiftG u g r))
  ∨ (∃ r, x = nI r ∧ r < n ∧ u 7 b = -1 ∧ yH u r < t ∧ uni n T sz (yLayU u b r) (yLayG u g b r) ∧ P (yLayU u b r) (yLayG u g b r))
  ∨ (∃ r r2, x = nI r2 ∧ r < n ∧ r2 < n ∧ r2 ≠ r ∧ u 7 b = nI r ∧ 0 < yH u r ∧ g r (yH u r - 1) = nI b ∧ yH u r2 < t ∧ uni n T sz (yLayU (yLiftU u b r) b r2) (yLayG (yLiftU u b r) (yLiftG u g r) b r2) ∧ P (yLayU (yLiftU u b r) b r2) (yLayG (yLiftU u b r) (yLiftG u g r) b r2)))
/-- the last k moves can be undone -/
def hV (n t T : Nat) (sz : Nat → Int32) (f9 f10 : Nat → Int32) : Nat → (Nat → Nat → Int32) → (Nat → Nat → Int32) → Prop
  | 0, _, _ => True
  | k + 1, u, g => ∃ b, f9 k = nI b ∧ hM n t T sz (hV n t T sz f9 f10 k) b (f10 k) u g
theorem hV.congr {T2 : Nat} {sz sz2 f9 f10 e9 e10 : Nat → Int32} (hT : T ≤ T2) (hs : ∀ b, b < T → sz2 b = sz b) : ∀ {k : Nat} {u u2 g : Nat → Nat → Int32}, (∀ i, i < k → e9 i = f9 i ∧ e10 i = f10 i) → u2 6 = u 6 → u2 7 = u 7 → u2 8 = u 8 → hV n t T sz f9 f10 k u g → hV n t T2 sz2 e9 e10 k u2 g
  | 0, _, _, _, _, _, _, _, _ => trivial
  | k + 1, u, u2, g, hf, h6, h7, h8, h => by
    have eH : ∀ r, yH u2 r = yH u r := fun r => by rw [yH, h6, yH]
    have ih := fun {u u2 g : Nat → Nat → Int32} => hV.congr hT hs (k := k) (u := u) (u2 := u2) (g := g) (fun i hi => hf i (by omega))
    obtain ⟨b, hb, h1, h2⟩ := h
    obtain ⟨g1, g2⟩ := hf k (by omega)
    refine ⟨b, g1.trans hb, by omega, ?_⟩
    rw [g2]
    rcases h2 with ⟨r, a1, a2, a3, a4, a5, a6, a7⟩ | ⟨r, a1, a2, a3, a4, a5, a6⟩ | ⟨r, r2, a1, a2, a3, a4, a5, a6, a7, a8, a9, a10⟩
    · obtain ⟨⟨q6, q7, q8⟩, qg⟩ := lift_same (g := g) (b := b) (r := r) h6 h7 h8
      refine Or.inl ⟨r, a1, a2, ?_, ?_, ?_, ?_, ?_⟩
      · rw [h7]; exact a3
      · rw [eH]; exact a4
      · rw [eH]; exact a5
      · rw [qg]; exact a6.congr q6 hT hs
      · rw [qg]; exact ih q6 q7 q8 a7
    · obtain ⟨⟨q6, q7, q8⟩, qg⟩ := lay_same (g := g) (b := b) (r := r) h6 h7 h8
      refine Or.inr (Or.inl ⟨r, a1, a2, ?_, ?_, ?_, ?_⟩)
      · rw [h7]; exact a3
      · rw [eH]; exact a4
      · rw [qg]; exact a5.congr q6 hT hs
      · rw [qg]; exact ih q6 q7 q8 a6
    · obtain ⟨⟨q6, q7, q8⟩, qg⟩ := lift_same (g := g) (b := b) (r := r) h6 h7 h8
      obtain ⟨⟨w6, w7, w8⟩, wg⟩ := lay_same (g := yLiftG u g r) (b := b) (r := r2) q6 q7 q8
      refine Or.inr (Or.inr ⟨r, r2, a1, a2, a3, a4, ?_, ?_, ?_, ?_, ?_, ?_⟩)
      · rw [h7]; exact a5
      · rw [eH]; exact a6
      · rw [eH]; exact a7
      · rw [eH]; exact a8
      · rw [qg, wg]; exact a9.congr w6 hT hs
      · rw [qg, wg]; exact ih w6 w7 w8 a10
theorem hM.mono {sz : Nat → Int32} {P P2 : (Nat → Nat → Int32) → (Nat → Nat → Int32) → Prop} {b : Nat} {x : Int32} (hP : ∀ u g, P u g → P2 u g) (h : hM n t T sz P b x u g) : hM n t T sz P2 b x u g := by
  obtain ⟨h1, h2⟩ := h
  refine ⟨h1, ?_⟩
  rcases h2 with ⟨r, a1, a2, a3, a4, a5, a6, a7⟩ | ⟨r, a1, a2, a3, a4, a5, a6⟩ | ⟨r, r2, a1, a2, a3, a4, a5, a6, a7, a8, a9, a10⟩
  · exact Or.inl ⟨r, a1, a2, a3, a4, a5, a6, hP _ _ a7⟩
  · exact Or.inr (Or.inl ⟨r, a1, a2, a3, a4, a5, hP _ _ a6⟩)
  · exact Or.inr (Or.inr ⟨r, r2, a1, a2, a3, a4, a5, a6, a7, a8, a9, hP _ _ a10⟩)
/-- the oldest is forgotten -/
theorem hV.drop {sz f9 f10 : Nat → Int32} : ∀ {k : Nat} {u g : Nat → Nat → Int32}, hV n t T sz f9 f10 (k + 1) u g → hV n t T sz (fun i => f9 (i + 1)) (fun i => f10 (i + 1)) k u g
  | 0, _, _, _ => trivial
  | k + 1, u, g, h => by
    obtain ⟨b, hb, h2⟩ := h
    exact ⟨b, hb, h2.mono (fun u2 g2 h3 => hV.drop h3)⟩
end REL4

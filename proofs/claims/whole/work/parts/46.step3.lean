/-- a sequence with one more at its beginning -/
def sq {α : Type} (a : α) (s : Nat → α) : Nat → α
  | 0 => a
  | j + 1 => s j
section STEP3
variable {l : Launch} {D : va_G} {cI cG cL : ClassId} {ad am : Nat → Nat} {ao n t : Nat} {B : Int32} {T : Nat} {f : Nat → Int64}
/-- the moves of a night, on both sides -/
def nSeq (l : Launch) (D : va_G) (cI cG cL : ClassId) (ad am : Nat → Nat) (n t : Nat) (B : Int32) (T : Nat) (d : Nat) (u g v : Nat → Nat → Int32) (mk : Nat) : Prop :=
  ∃ (m0 : Nat) (US GS VS : Nat → Nat → Nat → Int32) (bS xS : Nat → Int32) (mk2 k2 : Nat), m0 ≤ d ∧ US 0 = u ∧ GS 0 = g ∧ VS 0 = v ∧
    (∀ j, j < m0 → gx_M l yX3_moveOneAside wsX3_moveOneAside ({ frames := 4, cells := 0, slots := 0, locals := 94 }) D vwCl (gT cI cG cL) [.ref (ad 0)] (yW cI cG ad n t B (US j) (GS j)) (yW cI cG ad n t B (US (j + 1)) (GS (j + 1))) (some (.int 1))) ∧
    (m0 = d ∨ gx_M l yX3_moveOneAside wsX3_moveOneAside ({ frames := 4, cells := 0, slots := 0, locals := 94 }) D vwCl (gT cI cG cL) [.ref (ad 0)] (yW cI cG ad n t B (US m0) (GS m0)) (yW cI cG ad n t B (US m0) (GS m0)) (some (.int 0))) ∧
    (∀ j, j ≤ m0 → gx_M l yX4_worst wsX4_worst ({ frames := 3, cells := 0, slots := 0, locals := 75 }) D vwCl (gT cI cG cL) [.ref (am 0)] (mW cI am n t B (VS j)) (mW cI am n t B (VS j)) (some (.int (bS j)))) ∧
    (∀ j, j < m0 → ¬ bS j < 0) ∧
    (∀ j, j < m0 → gx_M l yX4_aside wsX4_aside ({ frames := 2, cells := 0, slots := 0, locals := 51 }) D vwCl (gT cI cG cL) [.ref (am 0), .int (bS j)] (mW cI am n t B (VS j)) (mW cI am n t B (VS j)) (some (.int (xS j)))) ∧
    (∀ j, j < m0 → gx_M l yX4_moves wsX4_moves ({ frames := 2, cells := 0, slots := 0, locals := 45 }) D vwCl (gT cI cG cL) [.ref (am 0), .int (bS j), .int (xS j)] (mW cI am n t B (VS j)) (mW cI am n t B (VS (j + 1))) none) ∧
    (m0 = d ∨ bS m0 < 0) ∧ rlm n t (US m0) (GS m0) (VS m0) T mk2 k2 ∧ mk2 ≤ mk + d ∧ VS m0 0 3 = v 0 3
theorem nSeq_stop {d mk k : Nat} {u g v : Nat → Nat → Int32} (h : rlm n t u g v T mk k) (hc : d = 0 ∨ (yPick n t B u g n).1 = -1) : nSeq l D cI cG cL ad am n t B T d u g v mk := by
  have hr0 := h.r
  have hp := hr0.pick (B := B) n (Nat.le_refl _)
  refine ⟨0, fun _ => u, fun _ => g, fun _ => v, fun _ => (mWo n t B v T n).1, fun _ => 0, mk, k, Nat.zero_le _, rfl, rfl, rfl, fun j hj => absurd hj (Nat.not_lt_zero _), ?_, fun j _ => c_X4_worst hr0.T6 hr0.v0 hr0.ok.hn hr0.hsc, fun j hj => absurd hj (Nat.not_lt_zero _), fun j hj => absurd hj (Nat.not_lt_zero _), fun j hj => absurd hj (Nat.not_lt_zero _), ?_, h, by omega, rfl⟩
  · rcases hc with hc | hc
    · exact Or.inl hc.symm
    · exact Or.inr (c_X3_moveOneAside_no hr0.ok hc)
  · rcases hc with hc | hc
    · exact Or.inl hc.symm
    · refine Or.inr ?_
      rw [hp.1]
      show (yPick n t B u g n).1 < 0
      rw [hc]
      exact y_neg1
theorem nSeq_all : ∀ (d mk k : Nat) (u g v : Nat → Nat → Int32), rlm n t u g v T mk k → mk + d < 2 ^ 30 → nSeq l D cI cG cL ad am n t B T d u g v mk
  | 0, mq, k, u, g, v, h, hm => nSeq_stop h (Or.inl rfl)
  | d + 1, mq, k, u, g, v, h, hm => by
    have hr0 := h.r
    have ok := hr0.ok
    have hn := ok.hn
    have ht := ok.ht
    have h6 := hr0.T6
    obtain ⟨p1, p2⟩ := hr0.pick (B := B) n (Nat.le_refl _)
    by_cases hc : (yPick n t B u g n).1 = -1
    · exact nSeq_stop h (Or.inr hc)
    · obtain ⟨r, hr, h0, q1, q2, q3⟩ := p2.resolve_left hc
      have hh := ok.hh hr
      have hlt : yH u r - 1 < yH u r := by omega
      have hbT := hr0.qT hr hlt
      have e7 := ok.hb7 hr hlt
      have hg := ok.hg hr hlt
      generalize hb : yB g r (yH u r - 1) = b at q1 q2 hbT e7 hg
      have hbest := yBest_best (t := t) (B := B) (u := u) (g := g) (b := b) (k := true) (show n < 2 ^ 31 by omega)
      rcases hbest with ⟨w, -⟩ | ⟨r2, -, hr2, w2, w3, -⟩
      · exact absurd (q2.trans w) q3
      · have hgood := of_decide_eq_true w3
        have hz : yShR t B u g b r2 = 0 := by
          by_cases z : yShR t B u g b r2 = 0
          · exact z
          · exact absurd (Or.inl z) hgood
        obtain ⟨a1, a2⟩ := yShR_0 hz
        obtain ⟨a3, a4⟩ := hr0.rule0 hr2 a2
        have hne : r2 ≠ r := fun q => a1 (by rw [q]; exact e7)
        have hp : yPick n t B u g n = (nI b, nI r2, (yPick n t B u g n).2.2) := by
          rw [← q1, ← w2, ← q2]
        have hw : (mWo n t B v T n).1 = nI b := by rw [p1]; exact q1
        have hx : mAsd n t B v T b = nI r2 := (hr0.aside hbT).trans w2
        have hs := h.shift (by omega) hbT hr hr2 hne e7 h0 hg a3 a4
        obtain ⟨m0, US, GS, VS, bS, xS, mk2, k2, b1, b2, b3, b4, b5, b6, b7, b8, b9, b10, b11, b12, b13, b14⟩ := nSeq_all d (mq + 1) (kMin k) _ _ _ hs (by omega)
        refine ⟨m0 + 1, sq u US, sq g GS, sq v VS, sq (nI b) bS, sq (nI r2) xS, mk2, k2, by omega, rfl, rfl, rfl, ?_, ?_, ?_, ?_, ?_, ?_, ?_, b12, by omega, ?_⟩
        · intro j hj
          match j with
          | 0 =>
            show gx_M l yX3_moveOneAside wsX3_moveOneAside _ D vwCl (gT cI cG cL) [.ref (ad 0)] (yW cI cG ad n t B u g) (yW cI cG ad n t B (US 0) (GS 0)) (some (.int 1))
            rw [b2, b3]
            exact c_X3_moveOneAside_go ok hp (by omega) hr hr2 e7 h0 hne a3 (by omega) h.2.2.2.1
          | j + 1 => exact b5 j (by omega)
        · rcases b6 with z | z
          · exact Or.inl (by omega)
          · exact Or.inr z
        · intro j hj
          match j with
          | 0 =>
            show gx_M l yX4_worst wsX4_worst _ D vwCl (gT cI cG cL) [.ref (am 0)] (mW cI am n t B v) (mW cI am n t B v) (some (.int (nI b)))
            rw [← hw]
            exact c_X4_worst h6 hr0.v0 hn hr0.hsc
          | j + 1 => exact b7 j (by omega)
        · intro j hj
          match j with
          | 0 => exact m_n0 (show b < 2 ^ 31 by omega)
          | j + 1 => exact b8 j (by omega)
        · intro j hj
          match j with
          | 0 =>
            show gx_M l yX4_aside wsX4_aside _ D vwCl (gT cI cG cL) [.ref (am 0), .int (nI b)] (mW cI am n t B v) (mW cI am n t B v) (some (.int (nI r2)))
            rw [← hx]
            exact c_X4_aside h6 hr0.v0 (by omega) hn hr0.hsc
          | j + 1 => exact b9 j (by omega)
        · intro j hj
          match j with
          | 0 =>
            show gx_M l yX4_moves wsX4_moves _ D vwCl (gT cI cG cL) [.ref (am 0), .int (nI b), .int (nI r2)] (mW cI am n t B v) (mW cI am n t B (VS 0)) none
            rw [b4]
            exact c_X4_moves_all h6 hr0.v0 (by omega) h.2.1 h.2.2.2.2.2.2.1
          | j + 1 => exact b10 j (by omega)
        · rcases b11 with z | z
          · exact Or.inl (by omega)
          · exact Or.inr z
        · show VS m0 0 3 = v 0 3
          rw [b14]
          exact mMv_3
/-- night -/
theorem st_night {u g v : Nat → Nat → Int32} {mk k : Nat} (htr : l.stackTraces = false) (h : rlm n t u g v T mk k) (hm : mk < 2 ^ 29) (x : Int32) : sN l D cI cG cL ad am ao n t B yL_night wsL_night yX4_night wsX4_night [.int x] f u g v mk := by
  rcases bcase (yIn x 0 50) with hx | hx
  · exact ⟨1, 0, f, u, g, mu v 0 3 1, T, mk, k, _, n_L_night_IA (x_X3_night_bad htr hx) (rx_ok (by decide) (by decide)), c_X4_night_bad hx, rm_ok (by decide) (by decide), rfl, fun q => absurd q (by decide), h.thr 1, by omega⟩
  · obtain ⟨mo, hmo, rfl⟩ := yIn_ex (K := 50) (by decide) hx
    obtain ⟨m0, US, GS, VS, bS, xS, mk2, k2, b1, b2, b3, b4, b5, b6, b7, b8, b9, b10, b11, b12, b13, b14⟩ := nSeq_all (l := l) (D := D) (cI := cI) (cG := cG) (cL := cL) (ad := ad) (am := am) (B := B) mo mk k u g (mu v 0 3 0) (h.thr 0) (by omega)
    exact ⟨0, nI m0, _, US m0, GS m0, VS m0, T, mk2, k2, _, n_L_night (c_X3_night b2 b3 hmo b1 b5 b6) (rm_ok (by decide) (by decide)), c_X4_night b4 hmo b1 b7 b8 b9 b10 b11, rm_ok (by decide) (by decide), b14, fun _ => updL0, b12, by omega⟩
end STEP3

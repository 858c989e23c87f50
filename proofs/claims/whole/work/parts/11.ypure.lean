/-! the class: its memory u (0 told, made, kept; 1 size, 2 weight, 3 leaves, 4 ship, 5 kind; 6 heights; 7 rowOf; 8 tierOf; 9 and 10 the moves' boxes and origins; 11 grounds; 12 reservedFor) and its grid g of boxes -/
def yH (u : Nat → Nat → Int32) (r : Nat) : Nat := (u 6 r).toNatClampNeg
def yB (g : Nat → Nat → Int32) (r j : Nat) : Nat := (g r j).toNatClampNeg
/-- what always holds of them: heights, boxes of the rows and where they say that they stand fit together -/
def yOK (n t : Nat) (u g : Nat → Nat → Int32) : Prop := n ≤ 16 ∧ t ≤ 8 ∧ (∀ r, r < n → u 6 r = nI (yH u r) ∧ yH u r ≤ t) ∧ (∀ r j, r < n → j < yH u r → g r j = nI (yB g r j) ∧ yB g r j < 60 ∧ u 7 (yB g r j) = nI r ∧ u 8 (yB g r j) = nI j) ∧ (∀ b, b < 60 → (u 7 b = -1 ∧ u 8 b = -1) ∨ ∃ r k, r < n ∧ k < yH u r ∧ u 7 b = nI r ∧ u 8 b = nI k ∧ g r k = nI b) ∧ (∀ r j, r < n → yH u r ≤ j → j < t → g r j = -1) ∧ (∃ T, T ≤ 60 ∧ u 0 0 = nI T ∧ ∀ b, b < 60 → ¬ u 7 b = -1 → b < T)
section YOK
variable {n t : Nat} {u g : Nat → Nat → Int32}
theorem yOK.hn (h : yOK n t u g) : n ≤ 16 := h.1
theorem yOK.ht (h : yOK n t u g) : t ≤ 8 := h.2.1
theorem yOK.h6 (h : yOK n t u g) {r : Nat} (hr : r < n) : u 6 r = nI (yH u r) := (h.2.2.1 r hr).1
theorem yOK.hh (h : yOK n t u g) {r : Nat} (hr : r < n) : yH u r ≤ t := (h.2.2.1 r hr).2
theorem yOK.hg (h : yOK n t u g) {r j : Nat} (hr : r < n) (hj : j < yH u r) : g r j = nI (yB g r j) := (h.2.2.2.1 r j hr hj).1
theorem yOK.hb (h : yOK n t u g) {r j : Nat} (hr : r < n) (hj : j < yH u r) : yB g r j < 60 := (h.2.2.2.1 r j hr hj).2.1
theorem yOK.hb7 (h : yOK n t u g) {r j : Nat} (hr : r < n) (hj : j < yH u r) : u 7 (yB g r j) = nI r := (h.2.2.2.1 r j hr hj).2.2.1
theorem yOK.hb8 (h : yOK n t u g) {r j : Nat} (hr : r < n) (hj : j < yH u r) : u 8 (yB g r j) = nI j := (h.2.2.2.1 r j hr hj).2.2.2
theorem yOK.h7 (h : yOK n t u g) {b : Nat} (hb : b < 60) (hs : ¬ u 7 b = -1) : ∃ r k, r < n ∧ k < yH u r ∧ u 7 b = nI r ∧ u 8 b = nI k := by
  rcases h.2.2.2.2.1 b hb with q | ⟨r, k, h1, h2, h3, h4, -⟩
  · exact absurd q.1 hs
  · exact ⟨r, k, h1, h2, h3, h4⟩
theorem yOK.h7g (h : yOK n t u g) {b : Nat} (hb : b < 60) (hs : ¬ u 7 b = -1) : ∃ r k, r < n ∧ k < yH u r ∧ u 7 b = nI r ∧ u 8 b = nI k ∧ g r k = nI b := by
  rcases h.2.2.2.2.1 b hb with q | q
  · exact absurd q.1 hs
  · exact q
theorem yOK.h8 (h : yOK n t u g) {b : Nat} (hb : b < 60) (hs : u 7 b = -1) : u 8 b = -1 := by
  rcases h.2.2.2.2.1 b hb with q | ⟨r, k, h1, h2, h3, h4, -⟩
  · exact q.2
  · have hn := h.hn
    exact absurd (h3.symm.trans hs) (by
      intro q
      have a := nI_toInt (show r < 2 ^ 31 by omega)
      rw [q] at a
      have : (-1 : Int32).toInt = -1 := by decide
      omega)
theorem yOK.hT (h : yOK n t u g) : ∃ T, T ≤ 60 ∧ u 0 0 = nI T ∧ ∀ b, b < 60 → ¬ u 7 b = -1 → b < T := h.2.2.2.2.2.2
theorem yOK.hno (h : yOK n t u g) {r j : Nat} (hr : r < n) (h1 : yH u r ≤ j) (h2 : j < t) : g r j = -1 := h.2.2.2.2.2.1 r j hr h1 h2
end YOK
theorem y_m1 {x : Nat} (h : x < 2 ^ 31) : ¬ nI x = -1 := by
  intro q
  have a := nI_toInt h
  rw [q] at a
  have : (-1 : Int32).toInt = -1 := by decide
  omega
theorem y_z {x : Nat} (h : x < 2 ^ 31) : nI x = 0 ↔ x = 0 := by
  rw [← nI_0]
  exact nI_eq h (by decide)
def yHeld (v M : Int32) : Int32 := if 1 < (if M < v then M else v) then (if M < v then M else v) else 1
def yIn (v a b : Int32) : Bool := decide (a ≤ v ∧ v ≤ b)
def yRow (n : Nat) (r : Int32) : Bool := decide (0 ≤ r ∧ r < nI n)
def yHas (u : Nat → Nat → Int32) (b : Int32) : Bool := decide (0 ≤ b ∧ b < u 0 0)
def ySt (u : Nat → Nat → Int32) (b : Nat) : Bool := decide (¬ u 7 b = -1)
def yTop (u g : Nat → Nat → Int32) (r : Nat) : Int32 := if u 6 r = 0 then -1 else g r (yH u r - 1)
def yAb (u : Nat → Nat → Int32) (b : Nat) : Int32 := if u 7 b = -1 then 0 else u 6 (u 7 b).toNatClampNeg - 1 - u 8 b
def yOn (u : Nat → Nat → Int32) (b : Nat) : Bool := decide (¬ u 7 b = -1 ∧ yAb u b = 0)
/-- the box b is lifted off its row r -/
def yLiftU (u : Nat → Nat → Int32) (b r : Nat) : Nat → Nat → Int32 := mu (mu (mu u 6 r (u 6 r - 1)) 7 b (-1)) 8 b (-1)
def yLiftG (u g : Nat → Nat → Int32) (r : Nat) : Nat → Nat → Int32 := mu g r (yH u r - 1) (-1)
/-- .. laid upon row r -/
def yLayU (u : Nat → Nat → Int32) (b r : Nat) : Nat → Nat → Int32 := mu (mu (mu u 7 b (nI r)) 8 b (nI (yH u r))) 6 r (u 6 r + 1)
def yLayG (u g : Nat → Nat → Int32) (b r : Nat) : Nat → Nat → Int32 := mu g r (yH u r) (nI b)
/-- a box is told -/
def yTellU (u : Nat → Nat → Int32) (T : Nat) (a b c d k : Int32) : Nat → Nat → Int32 := mu (mu (mu (mu (mu (mu u 1 T a) 2 T b) 3 T c) 4 T d) 5 T k) 0 0 (u 0 0 + 1)
/-- a move is kept in slot q -/
def yKeepU (u : Nat → Nat → Int32) (q b : Nat) (x : Int32) : Nat → Nat → Int32 := mu (mu (mu (mu u 9 q (nI b)) 10 q x) 0 1 (u 0 1 + 1)) 0 2 (if 100 < u 0 2 + 1 then 100 else u 0 2 + 1)
/-- the latest move is dropped -/
def yDropU (u : Nat → Nat → Int32) : Nat → Nat → Int32 := mu (mu u 0 1 (u 0 1 - 1)) 0 2 (u 0 2 - 1)
theorem bI_pt {q : Bool} (h : q = true) : (1 : Int32) = bI q := by rw [h]; rfl
theorem bI_pf {q : Bool} (h : q = false) : (0 : Int32) = bI q := by rw [h]; rfl
theorem bI_0 {q : Bool} : bI q = 0 ↔ q = false := by cases q <;> simp [bI]
theorem bI_t {q : Bool} (h : ¬ bI q = 0) : q = true := by cases q <;> simp_all [bI]
theorem bI_f {q : Bool} (h : bI q = 0) : q = false := bI_0.mp h
theorem ySt_t {u : Nat → Nat → Int32} {b : Nat} (h : ¬ bI (ySt u b) = 0) : ¬ u 7 b = -1 := of_decide_eq_true (bI_t h)
theorem ySt_f {u : Nat → Nat → Int32} {b : Nat} (h : bI (ySt u b) = 0) : u 7 b = -1 := Decidable.not_not.mp (of_decide_eq_false (bI_f h))
def ySo (u g : Nat → Nat → Int32) (b r k : Nat) : Nat := yCnt (fun j => decide (u 3 (yB g r j) < u 3 b)) k
def yWt (u g : Nat → Nat → Int32) (r : Nat) : Int32 := ySum (fun j => u 2 (yB g r j)) (yH u r)
def yOther (u g : Nat → Nat → Int32) (r : Nat) (sh : Int32) : Bool := yAny (fun j => decide (¬ u 4 (yB g r j) = sh)) (yH u r)
def yWould (u g : Nat → Nat → Int32) (b r : Nat) : Bool := decide (¬ ySo u g b r (yH u r) = 0)
def yWay (u g : Nat → Nat → Int32) (b : Nat) : Bool := decide (¬ u 7 b = -1 ∧ ¬ ySo u g b (u 7 b).toNatClampNeg (u 8 b).toNatClampNeg = 0)
def yGr (k gr : Int32) : Int32 := if k = 1 ∧ ¬ gr = 1 then 7 else if (k = 2) ≠ (gr = 2) then 8 else 0
def yRule (t : Nat) (B : Int32) (u g : Nat → Nat → Int32) (b r : Nat) : Int32 :=
  if ¬ u 12 r = 0 ∧ ¬ u 12 r = u 4 b then 2
  else if ¬ u 6 r < nI t then 3
  else if ¬ yWt u g r + u 2 b ≤ B then 4
  else if ¬ yTop u g r = -1 ∧ ¬ u 1 (yTop u g r).toNatClampNeg = u 1 b then 5
  else if ¬ yTop u g r = -1 ∧ ¬ u 2 b ≤ u 2 (yTop u g r).toNatClampNeg then 6
  else yGr (u 5 b) (u 11 r)
def yPutR (t : Nat) (B : Int32) (u g : Nat → Nat → Int32) (b r : Nat) : Int32 := if u 7 b = -1 then yRule t B u g b r else 1
def yShR (t : Nat) (B : Int32) (u g : Nat → Nat → Int32) (b r : Nat) : Int32 := if u 7 b = nI r then 1 else yRule t B u g b r
def yMin (x y : Int32) : Int32 := if y < x then y else x
def yScore (u g : Nat → Nat → Int32) (b r : Nat) : Int32 :=
  if yTop u g r = -1 then 20 + (if u 12 r = 0 then 0 else 30)
  else 40 - 15 * nI (ySo u g b r (yH u r)) + (if u 4 (yTop u g r).toNatClampNeg = u 4 b then 12 else 0) - yMin (3 * (u 2 (yTop u g r).toNatClampNeg - u 2 b)) 24 + (if u 12 r = 0 then 0 else 30)
/-- the best row among those below k: it and its score -/
def yBest (t : Nat) (B : Int32) (u g : Nat → Nat → Int32) (b : Nat) (clear : Bool) : Nat → Int32 × Int32
  | 0 => (-1, 0)
  | r + 1 => if ¬ yShR t B u g b r = 0 ∨ (clear = true ∧ yWould u g b r = true) then yBest t B u g b clear r else if (yBest t B u g b clear r).1 = -1 ∨ ¬ yScore u g b r ≤ (yBest t B u g b clear r).2 then (nI r, yScore u g b r) else yBest t B u g b clear r
theorem yTop_some {n t : Nat} {u g : Nat → Nat → Int32} (h : yOK n t u g) {r : Nat} (hr : r < n) (hs : ¬ yTop u g r = -1) : 0 < yH u r ∧ yB g r (yH u r - 1) < 60 ∧ yTop u g r = nI (yB g r (yH u r - 1)) := by
  have h6 := h.h6 hr
  have hh := h.hh hr
  have ht := h.ht
  by_cases hz : u 6 r = 0
  · exact absurd (if_pos hz) hs
  · have h0 : 0 < yH u r := by
      rcases Nat.eq_zero_or_pos (yH u r) with q | q
      · exact absurd (by rw [h6, q]; rfl) hz
      · exact q
    exact ⟨h0, h.hb hr (by omega), by rw [yTop, if_neg hz]; exact h.hg hr (by omega)⟩
theorem y_le0 {x : Nat} (h : x < 2 ^ 31) : nI x ≤ 0 ↔ x = 0 := by
  rw [← nI_0, nI_leI h (by decide)]
  omega
/-- which top box is moved aside: it, where to, how many leave sooner; among the rows below r -/
def yPick (n t : Nat) (B : Int32) (u g : Nat → Nat → Int32) : Nat → Int32 × Int32 × Int32
  | 0 => (-1, -1, 0)
  | r + 1 =>
    if yTop u g r = -1 then yPick n t B u g r
    else if ¬ nI (ySo u g (yTop u g r).toNatClampNeg r (yH u r - 1)) ≤ (yPick n t B u g r).2.2 ∧ ¬ (yBest t B u g (yTop u g r).toNatClampNeg true n).1 = -1 then (yTop u g r, (yBest t B u g (yTop u g r).toNatClampNeg true n).1, nI (ySo u g (yTop u g r).toNatClampNeg r (yH u r - 1)))
    else yPick n t B u g r

/-! the model: its memory v (0: boxes, made, kept, thrown; 1 size, 2 weight, 3 leaves, 4 ship, 5 kind; 7 rowOf, 8 tierOf; 9 moved, 10 was; 11 ground, 12 reserved) -/
def mHeld (x a : Int32) : Int32 := if 1 ≤ x then (if x ≤ a then x else a) else 1
def mHt (v : Nat → Nat → Int32) (a : Int32) (T : Nat) : Nat := yCnt (fun b => decide (v 7 b = a)) T
def mWt (v : Nat → Nat → Int32) (a : Int32) (T : Nat) : Int32 := ySum (fun b => if v 7 b = a then v 2 b else 0) T
def mAt (v : Nat → Nat → Int32) (a y : Int32) : Nat → Int32
  | 0 => -1
  | b + 1 => if v 7 b = a ∧ v 8 b = y then nI b else mAt v a y b
def mTop (v : Nat → Nat → Int32) (T b : Nat) : Bool := decide (¬ v 7 b < 0 ∧ v 8 b = nI (mHt v (v 7 b) T) - 1)
def mOS (v : Nat → Nat → Int32) (b : Nat) (a : Int32) (T : Nat) : Bool := yAny (fun k => decide (v 7 k = a ∧ ¬ v 1 k = v 1 b)) T
def mSo (v : Nat → Nat → Int32) (b : Nat) (a y : Int32) (T : Nat) : Nat := yCnt (fun k => decide (v 7 k = a ∧ v 8 k < y ∧ v 3 k < v 3 b)) T
theorem m_p1 {P : Nat → Bool} {j : Nat} {x : Int32} (hx : x = nI (yCnt P j)) (h : P j = true) : x + 1 = nI (yCnt P (j + 1)) := by
  rw [hx, yCnt, if_pos h]; exact nI_1 _
theorem m_p0 {P : Nat → Bool} {j : Nat} {x : Int32} (hx : x = nI (yCnt P j)) (h : P j = false) : x + 0 = nI (yCnt P (j + 1)) := by
  rw [hx, yCnt, if_neg (by rw [h]; decide)]; exact Int32.add_zero _
theorem m_o1 {P : Nat → Bool} {j : Nat} {x : Int32} (hx : x = bI (yAny P j)) (h : ¬ x = 0) : (1 : Int32) = bI (yAny P (j + 1)) := by
  rw [hx] at h
  exact bI_pt (by rw [yAny, bI_t h]; rfl)
theorem m_o0 {P : Nat → Bool} {j : Nat} {x : Int32} (hx : x = bI (yAny P j)) (h : x = 0) (h2 : P j = false) : (0 : Int32) = bI (yAny P (j + 1)) := by
  rw [hx] at h
  exact bI_pf (by rw [yAny, bI_f h, h2]; rfl)
theorem m_o2 {P : Nat → Bool} {j : Nat} (h2 : P j = true) : (1 : Int32) = bI (yAny P (j + 1)) := bI_pt (by rw [yAny, h2]; exact Bool.or_true _)
theorem m_nz {q : Bool} : narrow .boolean (.int (bI q)) = .int (bI q) := by cases q <;> rfl

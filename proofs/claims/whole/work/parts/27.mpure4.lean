def mWhere (v : Nat → Nat → Int32) (T b k : Nat) : Int32 := match k with
  | 0 => v 7 b
  | 1 => v 8 b
  | 2 => if v 7 b < 0 then 0 else nI (mHt v (v 7 b) T) - 1 - v 8 b
  | 3 => if ¬ v 7 b < 0 ∧ ¬ nI (mSo v b (v 7 b) (v 8 b) T) ≤ 0 then 1 else 0
  | 4 => v 1 b
  | 5 => v 2 b
  | 6 => v 3 b
  | 7 => v 4 b
  | _ => v 5 b
def mStd (v : Nat → Nat → Int32) (T : Nat) : Nat := yCnt (fun b => decide (¬ v 7 b < 0)) T
def mWays (v : Nat → Nat → Int32) (T : Nat) : Nat := yCnt (fun b => decide (¬ v 7 b < 0 ∧ ¬ nI (mSo v b (v 7 b) (v 8 b) T) ≤ 0)) T
def mCountK (n t : Nat) (B : Int32) (v : Nat → Nat → Int32) (T k : Nat) : Int32 := match k with
  | 0 => nI n
  | 1 => nI t
  | 2 => B
  | 3 => v 0 0
  | 4 => nI (mStd v T)
  | 5 => v 0 1
  | 6 => nI (mWays v T)
  | _ => v 0 2
def mCRK (n : Nat) (v : Nat → Nat → Int32) (T k : Nat) : Int32 :=
  if k % 20 < n then (if k < 40 then nI (mHt v (nI (k % 20)) T) else if k < 60 then mWt v (nI (k % 20)) T else if k < 80 then v 11 (k % 20) else v 12 (k % 20)) else -1
/-- the rows from the last down, d of them seen: the good one with the greatest score, of such the least -/
def mDn (P : Nat → Bool) (sc : Nat → Int32) (n : Nat) : Nat → Int32
  | 0 => -1
  | d + 1 => if P (n - 1 - d) = true ∧ (mDn P sc n d < 0 ∨ ¬ sc (n - 1 - d) < sc (mDn P sc n d).toNatClampNeg) then nI (n - 1 - d) else mDn P sc n d
theorem mDn_cases {P : Nat → Bool} {sc : Nat → Int32} {n : Nat} (hn : 0 < n) : ∀ d, mDn P sc n d = -1 ∨ ∃ q, q < n ∧ mDn P sc n d = nI q
  | 0 => Or.inl rfl
  | d + 1 => by
    rw [mDn]
    by_cases h : P (n - 1 - d) = true ∧ (mDn P sc n d < 0 ∨ ¬ sc (n - 1 - d) < sc (mDn P sc n d).toNatClampNeg)
    · rw [if_pos h]
      exact Or.inr ⟨n - 1 - d, by omega, rfl⟩
    · rw [if_neg h]; exact mDn_cases hn d
theorem mDn_some {P : Nat → Bool} {sc : Nat → Int32} {n d : Nat} (hn : 0 < n) (h : ¬ mDn P sc n d < 0) : ∃ q, q < n ∧ mDn P sc n d = nI q := by
  rcases mDn_cases (P := P) (sc := sc) hn d with q | q
  · exact absurd (by rw [q]; decide) h
  · exact q
def mAsd (n t : Nat) (B : Int32) (v : Nat → Nat → Int32) (T b : Nat) : Int32 := mDn (fun r => decide (¬ nI r = v 7 b ∧ mBr t B v T b r = 0 ∧ nI (mSo v b (nI r) (nI t) T) = 0)) (fun r => mSc v T b r) n n
theorem m_add_m1 (x : Int32) : x + -1 = x - 1 := by rw [Int32.sub_eq_add_neg]
/-- which box is moved aside, of the rows below r: it, and how many leave sooner -/
def mWo (n t : Nat) (B : Int32) (v : Nat → Nat → Int32) (T : Nat) : Nat → Int32 × Int32
  | 0 => (-1, 0)
  | r + 1 =>
    if mAt v (nI r) (nI (mHt v (nI r) T) - 1) T < 0 then mWo n t B v T r
    else if ¬ nI (mSo v (mAt v (nI r) (nI (mHt v (nI r) T) - 1) T).toNatClampNeg (nI r) (v 8 (mAt v (nI r) (nI (mHt v (nI r) T) - 1) T).toNatClampNeg) T) ≤ (mWo n t B v T r).2 ∧ ¬ mAsd n t B v T (mAt v (nI r) (nI (mHt v (nI r) T) - 1) T).toNatClampNeg < 0 then (mAt v (nI r) (nI (mHt v (nI r) T) - 1) T, nI (mSo v (mAt v (nI r) (nI (mHt v (nI r) T) - 1) T).toNatClampNeg (nI r) (v 8 (mAt v (nI r) (nI (mHt v (nI r) T) - 1) T).toNatClampNeg) T))
    else mWo n t B v T r
theorem mWo_nn0 {n t : Nat} {B : Int32} {v : Nat → Nat → Int32} {T : Nat} (hT : T < 2 ^ 31) : ∀ r, 0 ≤ (mWo n t B v T r).2
  | 0 => (show (0 : Int32) ≤ 0 by decide)
  | r + 1 => by
    rw [mWo]
    split
    · exact mWo_nn0 hT r
    · split
      · exact nI_pos' (Nat.lt_of_le_of_lt (yCnt_le _) hT)
      · exact mWo_nn0 hT r

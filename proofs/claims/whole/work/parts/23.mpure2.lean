theorem m_n0 {x : Nat} (h : x < 2 ^ 31) : ¬ nI x < 0 := nI_pos h
theorem mAt_cases {v : Nat → Nat → Int32} {a y : Int32} : ∀ T, mAt v a y T = -1 ∨ ∃ q, q < T ∧ mAt v a y T = nI q
  | 0 => Or.inl rfl
  | T + 1 => by
    rw [mAt]
    by_cases h : v 7 T = a ∧ v 8 T = y
    · rw [if_pos h]; exact Or.inr ⟨T, by omega, rfl⟩
    · rw [if_neg h]
      rcases mAt_cases (v := v) (a := a) (y := y) T with q | ⟨q, h1, h2⟩
      · exact Or.inl q
      · exact Or.inr ⟨q, by omega, h2⟩
theorem mAt_some {v : Nat → Nat → Int32} {a y : Int32} {T : Nat} (h : ¬ mAt v a y T < 0) : ∃ q, q < T ∧ mAt v a y T = nI q := by
  rcases mAt_cases (v := v) (a := a) (y := y) T with q | q
  · exact absurd (by rw [q]; decide) h
  · exact q
def mBr (t : Nat) (B : Int32) (v : Nat → Nat → Int32) (T b r : Nat) : Int32 :=
  if ¬ v 12 r ≤ 0 ∧ ¬ v 12 r = v 4 b then 2
  else if nI (mHt v (nI r) T) = nI t then 3
  else if ¬ mWt v (nI r) T + v 2 b ≤ B then 4
  else if mOS v b (nI r) T = true then 5
  else if ¬ mAt v (nI r) (nI (mHt v (nI r) T) - 1) T < 0 ∧ ¬ v 2 b ≤ v 2 (mAt v (nI r) (nI (mHt v (nI r) T) - 1) T).toNatClampNeg then 6
  else yGr (v 5 b) (v 11 r)
def mSc (v : Nat → Nat → Int32) (T b r : Nat) : Int32 :=
  if nI (mHt v (nI r) T) = 0 then (if v 12 r ≤ 0 then 0 else 30) + 20
  else (if v 12 r ≤ 0 then 0 else 30) + 40 - 15 * nI (mSo v b (nI r) (nI (mHt v (nI r) T)) T) + (if v 4 (mAt v (nI r) (nI (mHt v (nI r) T) - 1) T).toNatClampNeg = v 4 b then 12 else 0) - (if 3 * (v 2 (mAt v (nI r) (nI (mHt v (nI r) T) - 1) T).toNatClampNeg - v 2 b) ≤ 24 then 3 * (v 2 (mAt v (nI r) (nI (mHt v (nI r) T) - 1) T).toNatClampNeg - v 2 b) else 24)
def mGoes (v : Nat → Nat → Int32) (T b : Nat) (x : Int32) : Nat → Nat → Int32 := mu (mu v 8 b (if 0 ≤ x then nI (mHt v x T) else -1)) 7 b x
def mPush (v : Nat → Nat → Int32) (k b : Nat) : Nat → Nat → Int32 := mu (mu (mu (mu v 9 k (nI b)) 10 k (v 7 b)) 0 2 (v 0 2 + 1)) 0 1 (v 0 1 + 1)
/-- the moves gone down by one, those below k -/
def mSh (v : Nat → Nat → Int32) (k : Nat) : Nat → Nat → Int32 := fun a => if a = 9 then (fun i => if i + 1 < k then v 9 (i + 1) else v 9 i) else if a = 10 then (fun i => if i + 1 < k then v 10 (i + 1) else v 10 i) else v a
theorem mSh_1 (v : Nat → Nat → Int32) : mSh v 1 = v := by
  funext a i
  by_cases h9 : a = 9
  · subst h9; simp [mSh]
  · by_cases h10 : a = 10
    · subst h10; simp [mSh]
    · simp [mSh, h9, h10]
theorem mSh_step {v : Nat → Nat → Int32} {j : Nat} (hj : j < 99) : mu (mu (mSh v (j + 1)) 9 j (mSh v (j + 1) 9 (j + 1))) 10 j (mu (mSh v (j + 1)) 9 j (mSh v (j + 1) 9 (j + 1)) 10 (j + 1)) = mSh v (j + 1 + 1) := by
  funext a i
  simp only [mu_at, mSh]
  by_cases h9 : a = 9
  · subst h9
    by_cases hi : i = j
    · subst hi; simp; intro q; omega
    · by_cases h : i + 1 < j + 1
      · simp [hi, h, show i + 1 < j + 1 + 1 by omega]
      · simp [hi, h, show ¬ i + 1 < j + 1 + 1 by omega]
  · by_cases h10 : a = 10
    · subst h10
      by_cases hi : i = j
      · subst hi; simp; intro q; omega
      · by_cases h : i + 1 < j + 1
        · simp [hi, h, show i + 1 < j + 1 + 1 by omega]
        · simp [hi, h, show ¬ i + 1 < j + 1 + 1 by omega]
    · simp [h9, h10]

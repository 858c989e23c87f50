/-- a memory of int arrays: a store into array k at place i -/
def mu (u : Nat → Nat → Int32) (k i : Nat) (v : Int32) : Nat → Nat → Int32 := fun k2 => if k2 = k then upd (u k) i v else u k2
theorem mu_same (u : Nat → Nat → Int32) (k i : Nat) (v : Int32) : mu u k i v k = upd (u k) i v := if_pos rfl
theorem mu_ne (u : Nat → Nat → Int32) {k k2 : Nat} (i : Nat) (v : Int32) (h : k2 ≠ k) : mu u k i v k2 = u k2 := if_neg h
theorem mu_at (u : Nat → Nat → Int32) (k i : Nat) (v : Int32) (k2 j : Nat) : mu u k i v k2 j = if k2 = k ∧ j = i then v else u k2 j := by
  by_cases h : k2 = k
  · subst h
    rw [mu_same]
    by_cases h2 : j = i
    · rw [if_pos ⟨rfl, h2⟩, h2]; exact pk_us
    · rw [if_neg (fun q => h2 q.2)]; exact pk_un h2
  · rw [mu_ne _ _ _ h, if_neg (fun q => h q.1)]
def bI (q : Bool) : Int32 := if q = true then 1 else 0
/-- is there one below k -/
def yAny (P : Nat → Bool) : Nat → Bool
  | 0 => false
  | k + 1 => yAny P k || P k
theorem yAny_true {P : Nat → Bool} : ∀ {k j : Nat}, j < k → P j = true → yAny P k = true
  | 0, _, h, _ => absurd h (Nat.not_lt_zero _)
  | k + 1, j, h, hp => by
    by_cases e : j = k
    · subst e; simp [yAny, hp]
    · simp [yAny, yAny_true (show j < k by omega) hp]
theorem yAny_iff {P : Nat → Bool} : ∀ {k : Nat}, yAny P k = true ↔ ∃ j, j < k ∧ P j = true
  | 0 => by simp [yAny]
  | k + 1 => by
    rw [yAny, Bool.or_eq_true, yAny_iff]
    constructor
    · rintro (⟨j, h1, h2⟩ | h)
      · exact ⟨j, by omega, h2⟩
      · exact ⟨k, by omega, h⟩
    · rintro ⟨j, h1, h2⟩
      by_cases e : j = k
      · subst e; exact Or.inr h2
      · exact Or.inl ⟨j, by omega, h2⟩
/-- how many below k -/
def yCnt (P : Nat → Bool) : Nat → Nat
  | 0 => 0
  | k + 1 => yCnt P k + (if P k = true then 1 else 0)
theorem yCnt_le {P : Nat → Bool} : ∀ k, yCnt P k ≤ k
  | 0 => Nat.le_refl _
  | k + 1 => by
    have := yCnt_le (P := P) k
    simp only [yCnt]
    split <;> omega
/-- the sum below k -/
def ySum (f : Nat → Int32) : Nat → Int32
  | 0 => 0
  | k + 1 => ySum f k + f k

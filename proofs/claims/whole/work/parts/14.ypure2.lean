theorem yOK_keep {n t : Nat} {u g : Nat → Nat → Int32} {q b : Nat} {x : Int32} (h : yOK n t u g) : yOK n t (yKeepU u q b x) g := h
theorem yLift_6 {u : Nat → Nat → Int32} {b r r2 : Nat} (h : r2 ≠ r) : yLiftU u b r 6 r2 = u 6 r2 := pk_un h
theorem yH_lift {u : Nat → Nat → Int32} {b r r2 : Nat} (h : r2 ≠ r) : yH (yLiftU u b r) r2 = yH u r2 := by rw [yH, yLift_6 h, yH]
def yCR (n : Nat) (u g : Nat → Nat → Int32) (x : Int32) : Int32 :=
  if x < 20 ∨ 100 ≤ x then -1
  else if x.toNatClampNeg % 20 < n then (if x.toNatClampNeg / 20 = 1 then u 6 (x.toNatClampNeg % 20) else if x.toNatClampNeg / 20 = 2 then yWt u g (x.toNatClampNeg % 20) else if x.toNatClampNeg / 20 = 3 then u 11 (x.toNatClampNeg % 20) else u 12 (x.toNatClampNeg % 20))
  else -1
theorem y_20 {x : Int32} (h1 : ¬ x < 20) (h2 : x < 100) : ∃ k : Nat, 20 ≤ k ∧ k < 100 ∧ x = nI k := by
  have a := Int32.le_iff_toInt_le.mp (Int32.not_lt.mp h1)
  have b := Int32.lt_iff_toInt_lt.mp h2
  have e1 : (20 : Int32).toInt = 20 := by decide
  have e2 : (100 : Int32).toInt = 100 := by decide
  rw [e1] at a
  rw [e2] at b
  refine ⟨x.toInt.toNat, by omega, by omega, ?_⟩
  apply Int32.toInt_inj.mp
  rw [nI_toInt (by omega)]
  omega
theorem y_nlt20 {k : Nat} (h1 : 20 ≤ k) (h2 : k < 100) : ¬ (nI k < 20 ∨ 100 ≤ nI k) := by
  rw [show (20 : Int32) = nI 20 from rfl, show (100 : Int32) = nI 100 from rfl, nI_ltI (by omega) (by decide), nI_leI (by decide) (by omega)]
  omega
theorem yCR_some {n : Nat} {u g : Nat → Nat → Int32} {k : Nat} (h1 : 20 ≤ k) (h2 : k < 100) (h3 : k % 20 < n) : yCR n u g (nI k) = if k / 20 = 1 then u 6 (k % 20) else if k / 20 = 2 then yWt u g (k % 20) else if k / 20 = 3 then u 11 (k % 20) else u 12 (k % 20) := by
  rw [yCR, if_neg (y_nlt20 h1 h2), nI_clamp (by omega), if_pos h3]
theorem yCR_none {n : Nat} {u g : Nat → Nat → Int32} {k : Nat} (h1 : 20 ≤ k) (h2 : k < 100) (h3 : ¬ k % 20 < n) : yCR n u g (nI k) = -1 := by
  rw [yCR, if_neg (y_nlt20 h1 h2), nI_clamp (by omega), if_neg h3]
theorem yRow_lt {n k : Nat} (hn : n ≤ 16) (hk : k < 2 ^ 31) (h : yRow n (nI k) = true) : k < n := (nI_ltI hk (by omega)).mp (of_decide_eq_true h).2
theorem yRow_nlt {n k : Nat} (hk : k < 2 ^ 31) (hn : n ≤ 16) (h : yRow n (nI k) = false) : ¬ k < n := fun q => of_decide_eq_false h ⟨nI_pos' hk, (nI_ltI hk (by omega)).mpr q⟩
theorem yRow_of {n k : Nat} (hn : n ≤ 16) (h : k < n) : yRow n (nI k) = true := decide_eq_true ⟨nI_pos' (by omega), (nI_ltI (by omega) (by omega)).mpr h⟩
theorem yRow_ex {n : Nat} {x : Int32} (hn : n ≤ 16) (h : yRow n x = true) : ∃ r, r < n ∧ x = nI r := by
  obtain ⟨h1, h2⟩ := of_decide_eq_true h
  obtain ⟨j, hj, rfl⟩ := nI_of (Int32.not_lt.mpr h1)
  exact ⟨j, (nI_ltI hj (by omega)).mp h2, rfl⟩
theorem yHas_of {u : Nat → Nat → Int32} {b T : Nat} (hT : T ≤ 60) (e0 : u 0 0 = nI T) (h : b < T) : yHas u (nI b) = true := decide_eq_true ⟨nI_pos' (by omega), by rw [e0]; exact (nI_ltI (by omega) (by omega)).mpr h⟩
theorem yHas_ex {u : Nat → Nat → Int32} {T : Nat} {x : Int32} (hT : T ≤ 60) (e0 : u 0 0 = nI T) (h : yHas u x = true) : ∃ b, b < T ∧ x = nI b := by
  obtain ⟨h1, h2⟩ := of_decide_eq_true h
  obtain ⟨j, hj, rfl⟩ := nI_of (Int32.not_lt.mpr h1)
  rw [e0] at h2
  exact ⟨j, (nI_ltI hj (by omega)).mp h2, rfl⟩

theorem and15 (x : Int32) : ∃ k, k < 16 ∧ x &&& 15 = nI k := by
  refine ⟨(x &&& 15).toBitVec.toNat, ?_, ?_⟩
  · rw [Int32.toBitVec_and, BitVec.toNat_and]
    exact Nat.lt_of_le_of_lt Nat.and_le_right (by decide)
  · apply Int32.toBitVec_inj.mp
    show (x &&& 15).toBitVec = BitVec.ofNat 32 ((x &&& 15).toBitVec.toNat)
    rw [BitVec.ofNat_toNat, BitVec.setWidth_eq]
theorem lw_lt {L i : Nat} (hL : L ≤ 3075) (hi : i ≤ 10000) : nI L - 6 < nI i ↔ L < i + 6 := by
  by_cases h : 6 ≤ L
  · rw [show nI L - 6 = nI (L - 6) from pk_sub (b := 6) h, nI_ltI (by omega) (by omega)]
    omega
  · constructor
    · intro _
      omega
    · intro _
      have h0 : nI L - 6 < 0 := by
        rcases (show L = 0 ∨ L = 1 ∨ L = 2 ∨ L = 3 ∨ L = 4 ∨ L = 5 by omega) with rfl | rfl | rfl | rfl | rfl | rfl <;> decide
      exact Int32.lt_of_lt_of_le h0 (nI_pos' (by omega))
/-- a new yard: nothing was told, nothing stands -/
theorem rlm_0 {n t : Nat} (h0 : 0 < n) (hn : n ≤ 16) (ht : t ≤ 8) : rlm n t yU0 (fun _ => fNo t) (fun _ _ => 0) 0 0 0 := by
  have hH : ∀ r, yH yU0 r = 0 := fun r => rfl
  refine ⟨⟨⟨hn, ht, fun r _ => ⟨rfl, Nat.zero_le _⟩, fun r j _ hj => absurd hj (by rw [hH]; exact Nat.not_lt_zero _), fun b hb => Or.inl ?_, fun r j _ _ hj => if_pos hj, 0, by decide, rfl, fun b hb hs => absurd ?_ hs⟩, h0, by decide, rfl, rfl, fun b hb => absurd hb (Nat.not_lt_zero _), fun i b h1 h2 => ?_, fun r _ => ⟨rfl, rfl, by show (0 : Int32) ≤ 0; decide⟩, fun r i j _ hi => absurd hi (by rw [hH]; exact Nat.not_lt_zero _)⟩, by decide, by decide, rfl, rfl, rfl, rfl, fun i hi => absurd hi (Nat.not_lt_zero _), trivial⟩
  · exact ⟨if_pos hb, if_pos hb⟩
  · exact if_pos hb
  · rcases (show i = 1 ∨ i = 2 ∨ i = 3 ∨ i = 4 ∨ i = 5 by omega) with rfl | rfl | rfl | rfl | rfl <;> rfl
section LAW3
variable {p : Program} {l : Launch} {e : Env} {s : State} {m : MethodId} {below : List Frame} {meth : Method} {c : Code} {D : va_G} {b L : Nat} {xs : Nat → Int32} {cI cG cL : ClassId} {ad am : Nat → Nat} {ao n t : Nat} {B : Int32}
theorem lw_end {cells slots : Nat} {ws : va_W} {lv : List (Option Value)} (C : CallFix p m c cL_law 7 s #[.ref b] bigW "YardStacksLaw") (hRt : meth.sig.returnType = ret) (hlocks : meth.locks = false) (hc : cells ≤ 601024) (hs : slots ≤ 7293000) : gx_G p l e room_1 s m #[.ref b] below meth c D vwCl (fun q => s.heap.size ≤ q) 7 cells slots (lw_Z below #[.ref b] s) ws 866 lv [] := by
  refine gx_iconst (v := 1) C dL_law_866 (by decide) ?_
  intro H locs ls hP hD hS hl
  exact va_forget hS.2.2 (W.widen hc hs (lw_ret C.1 C.2.1 hRt hlocks dL_law_867))
set_option maxHeartbeats 4000000 in
set_option maxRecDepth 100000 in
/-- the law's loop -/
theorem lw_loop (hL : L ≤ 3075) (htr : l.stackTraces = false) (ht0 : 0 < t) (C : CallFix p m c cL_law 7 s #[.ref b] bigW "YardStacksLaw") (hRt : meth.sig.returnType = ret) (hlocks : meth.locks = false) (hX : va_X b L xs s s.heap) (hbl : b < s.heap.size) (hK : va_K D vwCl (gT cI cG cL) s) (hE : gx_E (fun q => s.heap.size ≤ q) s s.heap) : ∀ (d j : Nat) (f : Nat → Int64) (u g v : Nat → Nat → Int32) (T mk k : Nat) (w5 w6 : Option Value), L < 3 + 6 * j + 6 + 6 * d → rlm n t u g v T mk k → mk ≤ 50 * j → j ≤ 513 → gx_G p l e room_1 s m #[.ref b] below meth c D vwCl (fun q => s.heap.size ≤ q) 7 (46 + j) (1505 + 6 * j) (lw_Z below #[.ref b] s) (LW cI cG cL ad am ao n t B f u g v) 53 [some (.ref b), some (.ref (ad 0)), some (.ref (am 0)), some (.ref ao), some (.int (nI (3 + 6 * j))), w5, w6] [] := by
  have hbA : ¬ s.heap.size ≤ b := by omega
  intro d
  induction d with
  | zero =>
    intro j f u g v T mk k w5 w6 hd h hmk hj
    refine gx_iload C dL_law_53 rfl ?_
    refine gx_aload_n C dL_law_55 rfl ?_
    refine gx_slen C hX hbl hbA dL_law_56 ?_
    refine gx_bipush (v := 6) C dL_law_57 (by decide) ?_
    refine gx_isub C dL_law_59 ?_
    refine gx_icmp_gt (tgt := 866) C dL_law_60 (by decide) (fun _ => lw_end C hRt hlocks (by omega) (by omega)) (fun q => absurd ((lw_lt hL (by omega)).mpr (by omega)) q)
  | succ d ih =>
    intro j f u g v T mk k w5 w6 hd h hmk hj
    refine gx_iload C dL_law_53 rfl ?_
    refine gx_aload_n C dL_law_55 rfl ?_
    refine gx_slen C hX hbl hbA dL_law_56 ?_
    refine gx_bipush (v := 6) C dL_law_57 (by decide) ?_
    refine gx_isub C dL_law_59 ?_
    refine gx_icmp_gt (tgt := 866) C dL_law_60 (by decide) (fun _ => lw_end C hRt hlocks (by omega) (by omega)) (fun q => ?_)
    have hi : 3 + 6 * j + 6 ≤ L := Nat.not_lt.mp (fun z => q ((lw_lt hL (by omega)).mpr z))
    have k860 : ∀ (f2 : Nat → Int64) (u2 g2 v2 : Nat → Nat → Int32) (T2 mk2 k2 : Nat) (w5 w6 : Option Value), rlm n t u2 g2 v2 T2 mk2 k2 → mk2 ≤ mk + 50 → gx_G p l e room_1 s m #[.ref b] below meth c D vwCl (fun q => s.heap.size ≤ q) 7 (46 + j + 1) (1505 + 6 * j + 6) (lw_Z below #[.ref b] s) (LW cI cG cL ad am ao n t B f2 u2 g2 v2) 860 [some (.ref b), some (.ref (ad 0)), some (.ref (am 0)), some (.ref ao), some (.int (nI (3 + 6 * j))), w5, w6] [] := by
      intro f2 u2 g2 v2 T2 mk2 k2 w5 w6 hrl hmk2
      refine gx_iinc (lv2 := [some _, some _, some _, some _, some _, w5, w6]) (v := nI (3 + 6 * (j + 1))) C dL_law_860 rfl (by rw [show Int32.ofInt 6 = nI 6 from rfl, nI_add]; rfl) (by decide) rfl ?_
      refine gx_goto (tgt := 53) C dL_law_863 (by decide) ?_
      exact gx_widen (by omega) (by omega) (ih (j + 1) f2 u2 g2 v2 T2 mk2 k2 w5 w6 (by omega) hrl (by omega) (by omega))
    have hc : 46 + j + 1 ≤ room_1.cells := by show 46 + j + 1 ≤ 601024; omega
    have hs : 1505 + 6 * j + 6 ≤ room_1.slots := by show 1505 + 6 * j + 6 ≤ 7293000; omega
    have hm : mk < 2 ^ 29 := by omega
    refine gx_aload_n C dL_law_63 rfl ?_
    refine gx_iload C dL_law_64 rfl ?_
    refine gx_sldN C hX hbl hbA (show 3 + 6 * j < L by omega) (by omega) dL_law_66 ?_
    refine gx_bipush (v := 15) C dL_law_67 (by decide) ?_
    refine gx_iand C dL_law_69 ?_
    obtain ⟨k9, h9, e9⟩ := and15 (xs (3 + 6 * j))
    rw [e9]
    rcases (show k9 = 0 ∨ k9 = 1 ∨ k9 = 2 ∨ k9 = 3 ∨ k9 = 4 ∨ k9 = 5 ∨ k9 = 6 ∨ k9 = 7 ∨ k9 = 8 ∨ k9 = 9 ∨ k9 = 10 ∨ k9 = 11 ∨ k9 = 12 ∨ k9 = 13 ∨ k9 = 14 ∨ k9 = 15 by omega) with rfl | rfl | rfl | rfl | rfl | rfl | rfl | rfl | rfl | rfl | rfl | rfl | rfl | rfl | rfl | rfl
    · refine gx_tabIn (tgt := 136) C dL_law_70 (by decide) (by decide) rfl (by decide) ?_
      exact lw_box hL C hX hbl hK hE hi hc hs (st_box htr h _ _ _ _ _) k860
    · refine gx_tabIn (tgt := 240) C dL_law_70 (by decide) (by decide) rfl (by decide) ?_
      exact lw_ground hL C hX hbl hK hE hi hc hs (st_ground h _ _) k860
    · refine gx_tabIn (tgt := 277) C dL_law_70 (by decide) (by decide) rfl (by decide) ?_
      exact lw_reserve hL C hX hbl hK hE hi hc hs (st_reserve h _ _) k860
    · refine gx_tabIn (tgt := 314) C dL_law_70 (by decide) (by decide) rfl (by decide) ?_
      exact lw_put hL C hX hbl hK hE hi hc hs (st_put htr h hm _ _) k860
    · refine gx_tabIn (tgt := 382) C dL_law_70 (by decide) (by decide) rfl (by decide) ?_
      exact lw_take hL C hX hbl hK hE hi hc hs (st_take htr h hm _) k860
    · refine gx_tabIn (tgt := 438) C dL_law_70 (by decide) (by decide) rfl (by decide) ?_
      exact lw_shift hL C hX hbl hK hE hi hc hs (st_shift htr h hm _ _) k860
    · refine gx_tabIn (tgt := 506) C dL_law_70 (by decide) (by decide) rfl (by decide) ?_
      exact lw_choose hL C hX hbl hK hE hi hc hs (st_choose htr h hm _) k860
    · refine gx_tabIn (tgt := 562) C dL_law_70 (by decide) (by decide) rfl (by decide) ?_
      exact lw_score hL C hX hbl hK hE hi hc hs (st_score htr h hm _ _) k860
    · refine gx_tabIn (tgt := 630) C dL_law_70 (by decide) (by decide) rfl (by decide) ?_
      exact lw_night hL C hX hbl hK hE hi hc hs (st_night htr h hm _) k860
    · refine gx_tabIn (tgt := 686) C dL_law_70 (by decide) (by decide) rfl (by decide) ?_
      exact lw_undo hL C hX hbl hK hE hi hc hs (st_undo h hm ) k860
    · refine gx_tabIn (tgt := 699) C dL_law_70 (by decide) (by decide) rfl (by decide) ?_
      exact lw_where hL C hX hbl hK hE hi hc hs (st_where htr h _ _) k860
    · refine gx_tabIn (tgt := 767) C dL_law_70 (by decide) (by decide) rfl (by decide) ?_
      exact lw_at hL C hX hbl hK hE hi hc hs (st_at htr ht0 h _ _) k860
    · refine gx_tabIn (tgt := 835) C dL_law_70 (by decide) (by decide) rfl (by decide) ?_
      exact lw_count hL C hX hbl hK hE hi hc hs (st_count h _) k860
    · refine gx_tabOut (tgt := 860) C dL_law_70 (Or.inr (by decide)) (by decide) ?_
      exact gx_widen (Nat.le_succ _) (Nat.le_add_right _ _) (k860 f u g v T mk k _ _ h (by omega))
    · refine gx_tabOut (tgt := 860) C dL_law_70 (Or.inr (by decide)) (by decide) ?_
      exact gx_widen (Nat.le_succ _) (Nat.le_add_right _ _) (k860 f u g v T mk k _ _ h (by omega))
    · refine gx_tabOut (tgt := 860) C dL_law_70 (Or.inr (by decide)) (by decide) ?_
      exact gx_widen (Nat.le_succ _) (Nat.le_add_right _ _) (k860 f u g v T mk k _ _ h (by omega))
end LAW3

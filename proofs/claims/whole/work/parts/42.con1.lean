theorem gx_tail {X R : va_W} {y : Nat × va_E} : ((X ++ R) ++ [y]).Perm ((X ++ [y]) ++ R) := by
  rw [List.append_assoc, List.append_assoc]
  exact List.Perm.append_left X List.perm_append_comm
theorem gx_tail2 {X R Y : va_W} : ((X ++ R) ++ Y).Perm ((X ++ Y) ++ R) := by
  rw [List.append_assoc, List.append_assoc]
  exact List.Perm.append_left X List.perm_append_comm
/-- the rows of the grid -/
def yR (cI : ClassId) (t : Nat) (r : Nat → Nat) (n : Nat) (h : Nat → Nat → Int32) : va_W := (List.range n).map (fun i => (r i, .inl (cI, t, .inl (h i))))
theorem yR_get {cI : ClassId} {t n j : Nat} {r : Nat → Nat} {h : Nat → Nat → Int32} {X : va_W} (hj : j < n) : (X ++ yR cI t r n h)[X.length + j]? = some (r j, .inl (cI, t, .inl (h j))) := by
  rw [List.getElem?_append_right (by omega), Nat.add_sub_cancel_left, yR, List.getElem?_map, List.getElem?_range hj]
  rfl
theorem yR_set {cI : ClassId} {t n j : Nat} {r : Nat → Nat} {h : Nat → Nat → Int32} {X : va_W} {f : Nat → Int32} (hj : j < n) : (X ++ yR cI t r n h).set (X.length + j) (r j, .inl (cI, t, .inl f)) = X ++ yR cI t r n (fun i => if i = j then f else h i) := by
  rw [List.set_append_right _ _ (by omega), Nat.add_sub_cancel_left]
  congr 1
  apply List.ext_getElem?
  intro i
  rw [List.getElem?_set]
  by_cases e : j = i
  · subst e
    have hl : j < (yR cI t r n h).length := by rw [yR, List.length_map, List.length_range]; exact hj
    rw [if_pos rfl, if_pos hl, yR, List.getElem?_map, List.getElem?_range hj]
    simp
  · rw [if_neg e]
    by_cases hi : i < n
    · rw [yR, yR, List.getElem?_map, List.getElem?_map, List.getElem?_range hi]
      have e2 : ¬ i = j := fun q => e q.symm
      simp [e2]
    · rw [List.getElem?_eq_none (by rw [yR, List.length_map, List.length_range]; omega), List.getElem?_eq_none (by rw [yR, List.length_map, List.length_range]; omega)]
/-- nothing stands there -/
def fNo (k : Nat) : Nat → Int32 := fun i => if i < k then -1 else 0

set_option maxHeartbeats 4000000 in
set_option maxRecDepth 100000 in
theorem c_X0_init {l : Launch} {D : va_G} {cI cG cL : ClassId} {a sz : Nat}   : gx_C l yX0_init wsX0_init ({ frames := 1, cells := 5, slots := 300, locals := 20 }) D vwCl (gT cI cG cL) [.ref a] [(a, .inr (0, [.null, .null, .null, .null, .null, .int 0]))] sz (fun w2 => ∃ q1 q2 q3 q4 q5 : Nat, w2 = ([(a, .inr (0, [.ref q1, .ref q2, .ref q3, .ref q4, .ref q5, .int 0])), (q1, .inl (cI, 60, .inl (fun _ => 0))), (q2, .inl (cI, 60, .inl (fun _ => 0))), (q3, .inl (cI, 60, .inl (fun _ => 0))), (q4, .inl (cI, 60, .inl (fun _ => 0))), (q5, .inl (cI, 60, .inl (fun _ => 0)))] : va_W)) 5 300 := by
  refine gx_ofC (cc := cX0_init) (maxL := 1) [some (.ref a)] (by decide) rfl rfl rfl (Nat.le_of_ble_eq_true rfl) rfl ?_
  intro p e s m args below meth c C hRt hlocks hin hK hW hA
  have C : CallFix p m c cX0_init 1 s args (wsX0_init) RX0 := C
  have hT : ∀ w ∈ bigW, w ∈ wsX0_init := bgT
  refine gx_aload_n C dX0_init_0 rfl ?_
  refine gx_obj C hT m36 dX0_init_1 (Nat.le_of_ble_eq_true rfl) (Nat.le_of_ble_eq_true rfl) ?_
  refine gx_aload_n C dX0_init_4 rfl ?_
  refine gx_bipush (v := 60) C dX0_init_5 (by decide) ?_
  refine gx_newi (N := 60) C hT hK hA rfl (by decide) (Nat.le_of_ble_eq_true rfl) (Nat.le_of_ble_eq_true rfl) dX0_init_7 (fun q1 => ?_)
  refine gx_ws (ws2 := ([(a, .inr (0, [.null, .null, .null, .null, .null, .int 0])), (q1, .inl (cI, 60, .inl (fun _ => 0)))] : va_W)) rfl ?_
  refine gx_putF (ref := "YardStacks$Boxes") (Cn := RX0) (T := TX0) (N := 6) (ws2 := ([(a, .inr (0, [.ref q1, .null, .null, .null, .null, .int 0])), (q1, .inl (cI, 60, .inl (fun _ => 0)))] : va_W)) C hK (fun w h => hT w (inX0 w h)) tyX0 tyX0_ok nmX0 0 rfl rfl 0 (by decide) (hT _ m37) rfl rfl hin rfl (tyX0_ok 0 (by decide)) rfl rfl (Nat.le_of_ble_eq_true rfl) dX0_init_9 rfl ?_
  refine gx_aload_n C dX0_init_12 rfl ?_
  refine gx_bipush (v := 60) C dX0_init_13 (by decide) ?_
  refine gx_newi (N := 60) C hT hK hA rfl (by decide) (Nat.le_of_ble_eq_true rfl) (Nat.le_of_ble_eq_true rfl) dX0_init_15 (fun q2 => ?_)
  refine gx_ws (ws2 := ([(a, .inr (0, [.ref q1, .null, .null, .null, .null, .int 0])), (q1, .inl (cI, 60, .inl (fun _ => 0))), (q2, .inl (cI, 60, .inl (fun _ => 0)))] : va_W)) rfl ?_
  refine gx_putF (ref := "YardStacks$Boxes") (Cn := RX0) (T := TX0) (N := 6) (ws2 := ([(a, .inr (0, [.ref q1, .ref q2, .null, .null, .null, .int 0])), (q1, .inl (cI, 60, .inl (fun _ => 0))), (q2, .inl (cI, 60, .inl (fun _ => 0)))] : va_W)) C hK (fun w h => hT w (inX0 w h)) tyX0 tyX0_ok nmX0 0 rfl rfl 1 (by decide) (hT _ m39) rfl rfl hin rfl (tyX0_ok 1 (by decide)) rfl rfl (Nat.le_of_ble_eq_true rfl) dX0_init_17 rfl ?_
  refine gx_aload_n C dX0_init_20 rfl ?_
  refine gx_bipush (v := 60) C dX0_init_21 (by decide) ?_
  refine gx_newi (N := 60) C hT hK hA rfl (by decide) (Nat.le_of_ble_eq_true rfl) (Nat.le_of_ble_eq_true rfl) dX0_init_23 (fun q3 => ?_)
  refine gx_ws (ws2 := ([(a, .inr (0, [.ref q1, .ref q2, .null, .null, .null, .int 0])), (q1, .inl (cI, 60, .inl (fun _ => 0))), (q2, .inl (cI, 60, .inl (fun _ => 0))), (q3, .inl (cI, 60, .inl (fun _ => 0)))] : va_W)) rfl ?_
  refine gx_putF (ref := "YardStacks$Boxes") (Cn := RX0) (T := TX0) (N := 6) (ws2 := ([(a, .inr (0, [.ref q1, .ref q2, .ref q3, .null, .null, .int 0])), (q1, .inl (cI, 60, .inl (fun _ => 0))), (q2, .inl (cI, 60, .inl (fun _ => 0))), (q3, .inl (cI, 60, .inl (fun _ => 0)))] : va_W)) C hK (fun w h => hT w (inX0 w h)) tyX0 tyX0_ok nmX0 0 rfl rfl 2 (by decide) (hT _ m41) rfl rfl hin rfl (tyX0_ok 2 (by decide)) rfl rfl (Nat.le_of_ble_eq_true rfl) dX0_init_25 rfl ?_
  refine gx_aload_n C dX0_init_28 rfl ?_
  refine gx_bipush (v := 60) C dX0_init_29 (by decide) ?_
  refine gx_newi (N := 60) C hT hK hA rfl (by decide) (Nat.le_of_ble_eq_true rfl) (Nat.le_of_ble_eq_true rfl) dX0_init_31 (fun q4 => ?_)
  refine gx_ws (ws2 := ([(a, .inr (0, [.ref q1, .ref q2, .ref q3, .null, .null, .int 0])), (q1, .inl (cI, 60, .inl (fun _ => 0))), (q2, .inl (cI, 60, .inl (fun _ => 0))), (q3, .inl (cI, 60, .inl (fun _ => 0))), (q4, .inl (cI, 60, .inl (fun _ => 0)))] : va_W)) rfl ?_
  refine gx_putF (ref := "YardStacks$Boxes") (Cn := RX0) (T := TX0) (N := 6) (ws2 := ([(a, .inr (0, [.ref q1, .ref q2, .ref q3, .ref q4, .null, .int 0])), (q1, .inl (cI, 60, .inl (fun _ => 0))), (q2, .inl (cI, 60, .inl (fun _ => 0))), (q3, .inl (cI, 60, .inl (fun _ => 0))), (q4, .inl (cI, 60, .inl (fun _ => 0)))] : va_W)) C hK (fun w h => hT w (inX0 w h)) tyX0 tyX0_ok nmX0 0 rfl rfl 3 (by decide) (hT _ m43) rfl rfl hin rfl (tyX0_ok 3 (by decide)) rfl rfl (Nat.le_of_ble_eq_true rfl) dX0_init_33 rfl ?_
  refine gx_aload_n C dX0_init_36 rfl ?_
  refine gx_bipush (v := 60) C dX0_init_37 (by decide) ?_
  refine gx_newi (N := 60) C hT hK hA rfl (by decide) (Nat.le_of_ble_eq_true rfl) (Nat.le_of_ble_eq_true rfl) dX0_init_39 (fun q5 => ?_)
  refine gx_ws (ws2 := ([(a, .inr (0, [.ref q1, .ref q2, .ref q3, .ref q4, .null, .int 0])), (q1, .inl (cI, 60, .inl (fun _ => 0))), (q2, .inl (cI, 60, .inl (fun _ => 0))), (q3, .inl (cI, 60, .inl (fun _ => 0))), (q4, .inl (cI, 60, .inl (fun _ => 0))), (q5, .inl (cI, 60, .inl (fun _ => 0)))] : va_W)) rfl ?_
  refine gx_putF (ref := "YardStacks$Boxes") (Cn := RX0) (T := TX0) (N := 6) (ws2 := ([(a, .inr (0, [.ref q1, .ref q2, .ref q3, .ref q4, .ref q5, .int 0])), (q1, .inl (cI, 60, .inl (fun _ => 0))), (q2, .inl (cI, 60, .inl (fun _ => 0))), (q3, .inl (cI, 60, .inl (fun _ => 0))), (q4, .inl (cI, 60, .inl (fun _ => 0))), (q5, .inl (cI, 60, .inl (fun _ => 0)))] : va_W)) C hK (fun w h => hT w (inX0 w h)) tyX0 tyX0_ok nmX0 0 rfl rfl 4 (by decide) (hT _ m45) rfl rfl hin rfl (tyX0_ok 4 (by decide)) rfl rfl (Nat.le_of_ble_eq_true rfl) dX0_init_41 rfl ?_
  exact gx_vretC C hRt hlocks dX0_init_44 (Nat.le_of_ble_eq_true rfl) (Nat.le_of_ble_eq_true rfl) ⟨q1, q2, q3, q4, q5, rfl⟩
set_option maxHeartbeats 4000000 in
set_option maxRecDepth 100000 in
theorem c_X1_init {l : Launch} {D : va_G} {cI cG cL : ClassId} {a sz : Nat}   : gx_C l yX1_init wsX1_init ({ frames := 1, cells := 2, slots := 200, locals := 20 }) D vwCl (gT cI cG cL) [.ref a] [(a, .inr (1, [.null, .null, .int 0, .int 0]))] sz (fun w2 => ∃ q1 q2 : Nat, w2 = ([(a, .inr (1, [.ref q1, .ref q2, .int 0, .int 0])), (q1, .inl (cI, 100, .inl (fun _ => 0))), (q2, .inl (cI, 100, .inl (fun _ => 0)))] : va_W)) 2 200 := by
  refine gx_ofC (cc := cX1_init) (maxL := 1) [some (.ref a)] (by decide) rfl rfl rfl (Nat.le_of_ble_eq_true rfl) rfl ?_
  intro p e s m args below meth c C hRt hlocks hin hK hW hA
  have C : CallFix p m c cX1_init 1 s args (wsX1_init) RX1 := C
  have hT : ∀ w ∈ bigW, w ∈ wsX1_init := bgT
  refine gx_aload_n C dX1_init_0 rfl ?_
  refine gx_obj C hT m104 dX1_init_1 (Nat.le_of_ble_eq_true rfl) (Nat.le_of_ble_eq_true rfl) ?_
  refine gx_aload_n C dX1_init_4 rfl ?_
  refine gx_bipush (v := 100) C dX1_init_5 (by decide) ?_
  refine gx_newi (N := 100) C hT hK hA rfl (by decide) (Nat.le_of_ble_eq_true rfl) (Nat.le_of_ble_eq_true rfl) dX1_init_7 (fun q1 => ?_)
  refine gx_ws (ws2 := ([(a, .inr (1, [.null, .null, .int 0, .int 0])), (q1, .inl (cI, 100, .inl (fun _ => 0)))] : va_W)) rfl ?_
  refine gx_putF (ref := "YardStacks$Moves") (Cn := RX1) (T := TX1) (N := 4) (ws2 := ([(a, .inr (1, [.ref q1, .null, .int 0, .int 0])), (q1, .inl (cI, 100, .inl (fun _ => 0)))] : va_W)) C hK (fun w h => hT w (inX1 w h)) tyX1 tyX1_ok nmX1 0 rfl rfl 0 (by decide) (hT _ m105) rfl rfl hin rfl (tyX1_ok 0 (by decide)) rfl rfl (Nat.le_of_ble_eq_true rfl) dX1_init_9 rfl ?_
  refine gx_aload_n C dX1_init_12 rfl ?_
  refine gx_bipush (v := 100) C dX1_init_13 (by decide) ?_
  refine gx_newi (N := 100) C hT hK hA rfl (by decide) (Nat.le_of_ble_eq_true rfl) (Nat.le_of_ble_eq_true rfl) dX1_init_15 (fun q2 => ?_)
  refine gx_ws (ws2 := ([(a, .inr (1, [.ref q1, .null, .int 0, .int 0])), (q1, .inl (cI, 100, .inl (fun _ => 0))), (q2, .inl (cI, 100, .inl (fun _ => 0)))] : va_W)) rfl ?_
  refine gx_putF (ref := "YardStacks$Moves") (Cn := RX1) (T := TX1) (N := 4) (ws2 := ([(a, .inr (1, [.ref q1, .ref q2, .int 0, .int 0])), (q1, .inl (cI, 100, .inl (fun _ => 0))), (q2, .inl (cI, 100, .inl (fun _ => 0)))] : va_W)) C hK (fun w h => hT w (inX1 w h)) tyX1 tyX1_ok nmX1 0 rfl rfl 1 (by decide) (hT _ m107) rfl rfl hin rfl (tyX1_ok 1 (by decide)) rfl rfl (Nat.le_of_ble_eq_true rfl) dX1_init_17 rfl ?_
  exact gx_vretC C hRt hlocks dX1_init_20 (Nat.le_of_ble_eq_true rfl) (Nat.le_of_ble_eq_true rfl) ⟨q1, q2, rfl⟩
theorem yR_full {cI : ClassId} {t n j : Nat} {r : Nat → Nat} (h : n ≤ j) : yR cI t r n (fun i => if i < j then fNo t else fun _ => 0) = yR cI t r n (fun _ => fNo t) := by
  unfold yR
  refine List.map_congr_left (fun i hi => ?_)
  have := List.mem_range.mp hi
  have e : (if i < j then fNo t else fun _ => 0) = fNo t := if_pos (by omega)
  exact congrArg (fun z : Nat → Int32 => (r i, (.inl (cI, t, .inl z) : va_E))) e
theorem yR_step {cI : ClassId} {t n j : Nat} {r : Nat → Nat} {X : va_W} (hj : j < n) : (X ++ yR cI t r n (fun i => if i < j then fNo t else fun _ => 0)).set (X.length + j) (r j, .inl (cI, t, .inl (fun i => if i < t then -1 else (if j < j then fNo t else fun _ => 0) i))) = X ++ yR cI t r n (fun i => if i < j + 1 then fNo t else fun _ => 0) := by
  rw [yR_set hj]
  congr 2
  funext i
  by_cases e : i = j
  · subst e
    have e2 : (if i < i + 1 then fNo t else fun _ => 0) = fNo t := if_pos (Nat.lt_succ_self i)
    have e3 : (if i < i then fNo t else fun _ => 0) = fun _ => 0 := if_neg (Nat.lt_irrefl i)
    rw [if_pos rfl, e2, e3]
    rfl
  · rw [if_neg e]
    by_cases h : i < j
    · rw [if_pos h, if_pos (by omega)]
    · rw [if_neg h, if_neg (by omega)]
set_option maxHeartbeats 4000000 in
set_option maxRecDepth 100000 in
theorem lp_X2_init {l : Launch} {D : va_G} {cI cG cL : ClassId} {a n t q1 q2 q3 q4 : Nat} {r : Nat → Nat} {p : Program} {e : Env} {s : State} {m : MethodId} {args : Array Value} {below : List Frame} {meth : Method} {c : Code} (C : CallFix p m c cX2_init 4 s args wsX2_init RX2) (hT : ∀ w ∈ bigW, w ∈ wsX2_init) (hRt : meth.sig.returnType = none) (hlocks : meth.locks = false) (hK : va_K D vwCl (gT cI cG cL) s) (hn : n ≤ 16) (ht : t ≤ 8) : ∀ (d j : Nat), j + d = n → gx_G p l e (headSpec wsX2_init ({ frames := 1, cells := 20, slots := 280, locals := 30 })).room s m args below meth c D vwCl (va_A [(a, .inr (2, [.int 0, .int 0, .null, .null, .null, .null]))] s.heap.size) 4 20 280 (MQ below (gx_CQ D vwCl [(a, .inr (2, [.int 0, .int 0, .null, .null, .null, .null]))] s.heap.size (fun w2 => ∃ (q1 q2 q3 q4 : Nat) (r : Nat → Nat), w2 = (([(a, .inr (2, [.int (nI n), .int (nI t), .ref q3, .ref q4, .ref q1, .ref q2])), (q1, .inl (cI, 60, .inl (fNo 60))), (q2, .inl (cI, 60, .inl (fNo 60))), (q3, .inl (cG, n, .inr (.inr (.inr (.inr (fun i => if i < n then some (r i) else none)))))), (q4, .inl (cI, n, .inl (fun _ => 0)))] : va_W) ++ yR cI t r n (fun _ => fNo t)))) args s 20 280 (va_A [(a, .inr (2, [.int 0, .int 0, .null, .null, .null, .null]))] s.heap.size)) (([(a, .inr (2, [.int (nI n), .int (nI t), .ref q3, .ref q4, .ref q1, .ref q2])), (q1, .inl (cI, 60, .inl (fun _ => 0))), (q2, .inl (cI, 60, .inl (fun _ => 0))), (q3, .inl (cG, n, .inr (.inr (.inr (.inr (fun i => if i < n then some (r i) else none)))))), (q4, .inl (cI, n, .inl (fun _ => 0)))] : va_W) ++ yR cI t r n (fun i => if i < j then fNo t else fun _ => 0)) 49 [some (.ref a), some (.int (nI n)), some (.int (nI t)), some (.int (nI j))] [] := by
  intro d
  induction d with
  | zero =>
    intro j hj
    refine gx_iload_n C dX2_init_49 rfl ?_
    refine gx_iload_n C dX2_init_50 rfl ?_
    refine gx_icmp_ge (tgt := 70) C dX2_init_51 (by decide) (fun _ => ?_) (fun c => absurd (by rw [show j = n by omega]; exact Int32.le_refl _) c)
    refine gx_ws (ws2 := ([(a, .inr (2, [.int (nI n), .int (nI t), .ref q3, .ref q4, .ref q1, .ref q2])), (q1, .inl (cI, 60, .inl (fun _ => 0))), (q2, .inl (cI, 60, .inl (fun _ => 0))), (q3, .inl (cG, n, .inr (.inr (.inr (.inr (fun i => if i < n then some (r i) else none)))))), (q4, .inl (cI, n, .inl (fun _ => 0)))] : va_W) ++ yR cI t r n (fun _ => fNo t)) (by rw [show yR cI t r n (fun i => if i < j then fNo t else fun _ => 0) = yR cI t r n (fun _ => fNo t) from yR_full (by omega)]) ?_
    refine gx_aload_n C dX2_init_70 rfl ?_
    refine gx_get (ref := "YardStacks$Stacks") (Cn := RX2) (T := TX2) (N := 6) C hK (fun w h => hT w (inX2 w h)) 0 rfl rfl 4 (by decide) (hT _ m82) rfl rfl dX2_init_71 ?_
    refine gx_iconst (v := (-1)) C dX2_init_74 (by decide) ?_
    refine gx_S1v (n := 2) (ws2 := ([(a, .inr (2, [.int (nI n), .int (nI t), .ref q3, .ref q4, .ref q1, .ref q2])), (q1, .inl (cI, 60, .inl (fNo 60))), (q2, .inl (cI, 60, .inl (fun _ => 0))), (q3, .inl (cG, n, .inr (.inr (.inr (.inr (fun i => if i < n then some (r i) else none)))))), (q4, .inl (cI, n, .inl (fun _ => 0)))] : va_W) ++ yR cI t r n (fun _ => fNo t)) (1) C hK rfl (c_J7_fill (n := 60) (x := -1) (by decide)) (bgS hT m71 m72 m5 m73) rfl rfl rfl (by decide +kernel) ⟨(Nat.le_of_ble_eq_true rfl), (Nat.le_of_ble_eq_true rfl)⟩ rfl rfl (Nat.le_of_ble_eq_true rfl) (Nat.le_of_ble_eq_true rfl) (Nat.le_of_ble_eq_true rfl) dX2_init_75 rfl ?_
    refine gx_aload_n C dX2_init_78 rfl ?_
    refine gx_get (ref := "YardStacks$Stacks") (Cn := RX2) (T := TX2) (N := 6) C hK (fun w h => hT w (inX2 w h)) 0 rfl rfl 5 (by decide) (hT _ m84) rfl rfl dX2_init_79 ?_
    refine gx_iconst (v := (-1)) C dX2_init_82 (by decide) ?_
    refine gx_S1v (n := 2) (ws2 := ([(a, .inr (2, [.int (nI n), .int (nI t), .ref q3, .ref q4, .ref q1, .ref q2])), (q1, .inl (cI, 60, .inl (fNo 60))), (q2, .inl (cI, 60, .inl (fNo 60))), (q3, .inl (cG, n, .inr (.inr (.inr (.inr (fun i => if i < n then some (r i) else none)))))), (q4, .inl (cI, n, .inl (fun _ => 0)))] : va_W) ++ yR cI t r n (fun _ => fNo t)) (2) C hK rfl (c_J7_fill (n := 60) (x := -1) (by decide)) (bgS hT m71 m72 m5 m73) rfl rfl rfl (by decide +kernel) ⟨(Nat.le_of_ble_eq_true rfl), (Nat.le_of_ble_eq_true rfl)⟩ rfl rfl (Nat.le_of_ble_eq_true rfl) (Nat.le_of_ble_eq_true rfl) (Nat.le_of_ble_eq_true rfl) dX2_init_83 rfl ?_
    exact gx_vretC C hRt hlocks dX2_init_86 (Nat.le_of_ble_eq_true rfl) (Nat.le_of_ble_eq_true rfl) ⟨q1, q2, q3, q4, r, rfl⟩
  | succ d ih =>
    intro j hj
    refine gx_iload_n C dX2_init_49 rfl ?_
    refine gx_iload_n C dX2_init_50 rfl ?_
    refine gx_icmp_ge (tgt := 70) C dX2_init_51 (by decide) (fun c => absurd c (nI_ge (by omega) (by omega))) (fun _ => ?_)
    refine gx_aload_n C dX2_init_54 rfl ?_
    refine gx_get (ref := "YardStacks$Stacks") (Cn := RX2) (T := TX2) (N := 6) C hK (fun w h => hT w (inX2 w h)) 0 rfl rfl 2 (by decide) (hT _ m78) rfl rfl dX2_init_55 ?_
    refine gx_iload_n C dX2_init_58 rfl ?_
    refine gx_aaldN (b := r j) C hK 3 1 rfl rfl (show j < n by omega) (by omega) (if_pos (by omega)) dX2_init_59 ?_
    refine gx_iconst (v := (-1)) C dX2_init_60 (by decide) ?_
    refine gx_S1v (n := 2) (ws2 := ([(a, .inr (2, [.int (nI n), .int (nI t), .ref q3, .ref q4, .ref q1, .ref q2])), (q1, .inl (cI, 60, .inl (fun _ => 0))), (q2, .inl (cI, 60, .inl (fun _ => 0))), (q3, .inl (cG, n, .inr (.inr (.inr (.inr (fun i => if i < n then some (r i) else none)))))), (q4, .inl (cI, n, .inl (fun _ => 0)))] : va_W) ++ yR cI t r n (fun i => if i < j + 1 then fNo t else fun _ => 0)) (5 + j) C hK (yR_get (X := ([(a, .inr (2, [.int (nI n), .int (nI t), .ref q3, .ref q4, .ref q1, .ref q2])), (q1, .inl (cI, 60, .inl (fun _ => 0))), (q2, .inl (cI, 60, .inl (fun _ => 0))), (q3, .inl (cG, n, .inr (.inr (.inr (.inr (fun i => if i < n then some (r i) else none)))))), (q4, .inl (cI, n, .inl (fun _ => 0)))] : va_W)) (show j < n by omega)) (c_J7_fill (n := t) (x := -1) (f := if j < j then fNo t else fun _ => 0) (by omega)) (bgS hT m71 m72 m5 m73) rfl rfl rfl (by decide +kernel) ⟨(Nat.le_of_ble_eq_true rfl), (Nat.le_of_ble_eq_true rfl)⟩ rfl rfl (Nat.le_of_ble_eq_true rfl) (Nat.le_of_ble_eq_true rfl) (Nat.le_of_ble_eq_true rfl) dX2_init_61 (yR_step (X := ([(a, .inr (2, [.int (nI n), .int (nI t), .ref q3, .ref q4, .ref q1, .ref q2])), (q1, .inl (cI, 60, .inl (fun _ => 0))), (q2, .inl (cI, 60, .inl (fun _ => 0))), (q3, .inl (cG, n, .inr (.inr (.inr (.inr (fun i => if i < n then some (r i) else none)))))), (q4, .inl (cI, n, .inl (fun _ => 0)))] : va_W)) (show j < n by omega)) ?_
    refine gx_iincN (lv2 := [some _, some _, some _, some _]) C dX2_init_64 rfl (by decide) rfl ?_
    refine gx_goto (tgt := 49) C dX2_init_67 (by decide) ?_
    exact ih (j + 1) (by omega)
set_option maxHeartbeats 4000000 in
set_option maxRecDepth 100000 in
theorem c_X2_init {l : Launch} {D : va_G} {cI cG cL : ClassId} {a sz : Nat} {n t : Nat} (hn : n ≤ 16) (ht : t ≤ 8) : gx_C l yX2_init wsX2_init ({ frames := 1, cells := 20, slots := 280, locals := 30 }) D vwCl (gT cI cG cL) [.ref a, .int (nI n), .int (nI t)] [(a, .inr (2, [.int 0, .int 0, .null, .null, .null, .null]))] sz (fun w2 => ∃ (q1 q2 q3 q4 : Nat) (r : Nat → Nat), w2 = (([(a, .inr (2, [.int (nI n), .int (nI t), .ref q3, .ref q4, .ref q1, .ref q2])), (q1, .inl (cI, 60, .inl (fNo 60))), (q2, .inl (cI, 60, .inl (fNo 60))), (q3, .inl (cG, n, .inr (.inr (.inr (.inr (fun i => if i < n then some (r i) else none)))))), (q4, .inl (cI, n, .inl (fun _ => 0)))] : va_W) ++ yR cI t r n (fun _ => fNo t))) 20 280 := by
  refine gx_ofC (cc := cX2_init) (maxL := 4) [some (.ref a), some (.int (nI n)), some (.int (nI t)), none] (by decide) rfl rfl rfl (Nat.le_of_ble_eq_true rfl) rfl ?_
  intro p e s m args below meth c C hRt hlocks hin hK hW hA
  have C : CallFix p m c cX2_init 4 s args (wsX2_init) RX2 := C
  have hT : ∀ w ∈ bigW, w ∈ wsX2_init := bgT
  have hnt : n * t ≤ 128 := Nat.le_trans (Nat.mul_le_mul hn ht) (by decide)
  refine gx_aload_n C dX2_init_0 rfl ?_
  refine gx_obj C hT m68 dX2_init_1 (Nat.le_of_ble_eq_true rfl) (Nat.le_of_ble_eq_true rfl) ?_
  refine gx_aload_n C dX2_init_4 rfl ?_
  refine gx_bipush (v := 60) C dX2_init_5 (by decide) ?_
  refine gx_newi (N := 60) C hT hK hA rfl (by decide) (Nat.le_of_ble_eq_true rfl) (Nat.le_of_ble_eq_true rfl) dX2_init_7 (fun q1 => ?_)
  refine gx_ws (ws2 := ([(a, .inr (2, [.int 0, .int 0, .null, .null, .null, .null])), (q1, .inl (cI, 60, .inl (fun _ => 0)))] : va_W)) rfl ?_
  refine gx_putF (ref := "YardStacks$Stacks") (Cn := RX2) (T := TX2) (N := 6) (ws2 := ([(a, .inr (2, [.int 0, .int 0, .null, .null, .ref q1, .null])), (q1, .inl (cI, 60, .inl (fun _ => 0)))] : va_W)) C hK (fun w h => hT w (inX2 w h)) tyX2 tyX2_ok nmX2 0 rfl rfl 4 (by decide) (hT _ m82) rfl rfl hin rfl (tyX2_ok 4 (by decide)) rfl rfl (Nat.le_of_ble_eq_true rfl) dX2_init_9 rfl ?_
  refine gx_aload_n C dX2_init_12 rfl ?_
  refine gx_bipush (v := 60) C dX2_init_13 (by decide) ?_
  refine gx_newi (N := 60) C hT hK hA rfl (by decide) (Nat.le_of_ble_eq_true rfl) (Nat.le_of_ble_eq_true rfl) dX2_init_15 (fun q2 => ?_)
  refine gx_ws (ws2 := ([(a, .inr (2, [.int 0, .int 0, .null, .null, .ref q1, .null])), (q1, .inl (cI, 60, .inl (fun _ => 0))), (q2, .inl (cI, 60, .inl (fun _ => 0)))] : va_W)) rfl ?_
  refine gx_putF (ref := "YardStacks$Stacks") (Cn := RX2) (T := TX2) (N := 6) (ws2 := ([(a, .inr (2, [.int 0, .int 0, .null, .null, .ref q1, .ref q2])), (q1, .inl (cI, 60, .inl (fun _ => 0))), (q2, .inl (cI, 60, .inl (fun _ => 0)))] : va_W)) C hK (fun w h => hT w (inX2 w h)) tyX2 tyX2_ok nmX2 0 rfl rfl 5 (by decide) (hT _ m84) rfl rfl hin rfl (tyX2_ok 5 (by decide)) rfl rfl (Nat.le_of_ble_eq_true rfl) dX2_init_17 rfl ?_
  refine gx_aload_n C dX2_init_20 rfl ?_
  refine gx_iload_n C dX2_init_21 rfl ?_
  refine gx_putF (ref := "YardStacks$Stacks") (Cn := RX2) (T := TX2) (N := 6) (ws2 := ([(a, .inr (2, [.int (nI n), .int 0, .null, .null, .ref q1, .ref q2])), (q1, .inl (cI, 60, .inl (fun _ => 0))), (q2, .inl (cI, 60, .inl (fun _ => 0)))] : va_W)) C hK (fun w h => hT w (inX2 w h)) tyX2 tyX2_ok nmX2 0 rfl rfl 0 (by decide) (hT _ m74) rfl rfl hin rfl (tyX2_ok 0 (by decide)) rfl rfl (Nat.le_of_ble_eq_true rfl) dX2_init_22 rfl ?_
  refine gx_aload_n C dX2_init_25 rfl ?_
  refine gx_iload_n C dX2_init_26 rfl ?_
  refine gx_putF (ref := "YardStacks$Stacks") (Cn := RX2) (T := TX2) (N := 6) (ws2 := ([(a, .inr (2, [.int (nI n), .int (nI t), .null, .null, .ref q1, .ref q2])), (q1, .inl (cI, 60, .inl (fun _ => 0))), (q2, .inl (cI, 60, .inl (fun _ => 0)))] : va_W)) C hK (fun w h => hT w (inX2 w h)) tyX2 tyX2_ok nmX2 0 rfl rfl 1 (by decide) (hT _ m76) rfl rfl hin rfl (tyX2_ok 1 (by decide)) rfl rfl (Nat.le_of_ble_eq_true rfl) dX2_init_27 rfl ?_
  refine gx_aload_n C dX2_init_30 rfl ?_
  refine gx_iload_n C dX2_init_31 rfl ?_
  refine gx_iload_n C dX2_init_32 rfl ?_
  refine gx_mna C hT hK hW hA m69 hn ht (Nat.le_trans (Nat.add_le_add_left (Nat.add_le_add_left hn 1) _) (Nat.le_of_ble_eq_true rfl)) (Nat.le_trans (Nat.add_le_add_left (Nat.add_le_add hn hnt) _) (Nat.le_of_ble_eq_true rfl)) dX2_init_33 (fun q3 r => ?_)
  refine gx_widen (k := 19) (n := 264) (by omega) (by omega) ?_
  refine gx_ws (ws2 := ([(a, .inr (2, [.int (nI n), .int (nI t), .null, .null, .ref q1, .ref q2])), (q1, .inl (cI, 60, .inl (fun _ => 0))), (q2, .inl (cI, 60, .inl (fun _ => 0))), (q3, .inl (cG, n, .inr (.inr (.inr (.inr (fun i => if i < n then some (r i) else none))))))] : va_W) ++ yR cI t r n (fun _ _ => 0)) rfl ?_
  refine gx_putF (ref := "YardStacks$Stacks") (Cn := RX2) (T := TX2) (N := 6) (ws2 := ([(a, .inr (2, [.int (nI n), .int (nI t), .ref q3, .null, .ref q1, .ref q2])), (q1, .inl (cI, 60, .inl (fun _ => 0))), (q2, .inl (cI, 60, .inl (fun _ => 0))), (q3, .inl (cG, n, .inr (.inr (.inr (.inr (fun i => if i < n then some (r i) else none))))))] : va_W) ++ yR cI t r n (fun _ _ => 0)) C hK (fun w h => hT w (inX2 w h)) tyX2 tyX2_ok nmX2 0 rfl rfl 2 (by decide) (hT _ m78) rfl rfl hin rfl (tyX2_ok 2 (by decide)) rfl rfl (Nat.le_of_ble_eq_true rfl) dX2_init_37 rfl ?_
  refine gx_aload_n C dX2_init_40 rfl ?_
  refine gx_iload_n C dX2_init_41 rfl ?_
  refine gx_newi (N := n) C hT hK hA rfl (by omega) (Nat.le_of_ble_eq_true rfl) (Nat.le_trans (Nat.add_le_add_left hn _) (Nat.le_of_ble_eq_true rfl)) dX2_init_42 (fun q4 => ?_)
  refine gx_perm (gx_tail (X := ([(a, .inr (2, [.int (nI n), .int (nI t), .ref q3, .null, .ref q1, .ref q2])), (q1, .inl (cI, 60, .inl (fun _ => 0))), (q2, .inl (cI, 60, .inl (fun _ => 0))), (q3, .inl (cG, n, .inr (.inr (.inr (.inr (fun i => if i < n then some (r i) else none))))))] : va_W)) (R := yR cI t r n (fun _ _ => 0)) (y := (q4, .inl (cI, n, .inl (fun _ => 0))))) ?_
  refine gx_ws (ws2 := ([(a, .inr (2, [.int (nI n), .int (nI t), .ref q3, .null, .ref q1, .ref q2])), (q1, .inl (cI, 60, .inl (fun _ => 0))), (q2, .inl (cI, 60, .inl (fun _ => 0))), (q3, .inl (cG, n, .inr (.inr (.inr (.inr (fun i => if i < n then some (r i) else none)))))), (q4, .inl (cI, n, .inl (fun _ => 0)))] : va_W) ++ yR cI t r n (fun _ _ => 0)) rfl ?_
  refine gx_widen (k := 20) (n := 280) (Nat.le_of_ble_eq_true rfl) (Nat.add_le_add_left hn _) ?_
  refine gx_putF (ref := "YardStacks$Stacks") (Cn := RX2) (T := TX2) (N := 6) (ws2 := ([(a, .inr (2, [.int (nI n), .int (nI t), .ref q3, .ref q4, .ref q1, .ref q2])), (q1, .inl (cI, 60, .inl (fun _ => 0))), (q2, .inl (cI, 60, .inl (fun _ => 0))), (q3, .inl (cG, n, .inr (.inr (.inr (.inr (fun i => if i < n then some (r i) else none)))))), (q4, .inl (cI, n, .inl (fun _ => 0)))] : va_W) ++ yR cI t r n (fun _ _ => 0)) C hK (fun w h => hT w (inX2 w h)) tyX2 tyX2_ok nmX2 0 rfl rfl 3 (by decide) (hT _ m80) rfl rfl hin rfl (tyX2_ok 3 (by decide)) rfl rfl (Nat.le_of_ble_eq_true rfl) dX2_init_44 rfl ?_
  refine gx_iconst (v := 0) C dX2_init_47 (by decide) ?_
  refine gx_istore_n (lv2 := [some _, some _, some _, some _]) C dX2_init_48 (by decide) rfl ?_
  refine gx_ws (ws2 := ([(a, .inr (2, [.int (nI n), .int (nI t), .ref q3, .ref q4, .ref q1, .ref q2])), (q1, .inl (cI, 60, .inl (fun _ => 0))), (q2, .inl (cI, 60, .inl (fun _ => 0))), (q3, .inl (cG, n, .inr (.inr (.inr (.inr (fun i => if i < n then some (r i) else none)))))), (q4, .inl (cI, n, .inl (fun _ => 0)))] : va_W) ++ yR cI t r n (fun i => if i < 0 then fNo t else fun _ => 0)) rfl ?_
  exact lp_X2_init C hT hRt hlocks hK hn ht n 0 (by omega)
